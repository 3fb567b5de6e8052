/-! CALLS, THROWS AND THEIR CATCHING, over Go (by wip/whole/gen/inv.py). -/
/-- E has been thrown at pc -/
def GoT (l : Launch) (G : GG) (M : MD) (d kc ks : Nat) (P : Post) (pc : Nat) (L : List (Option Value)) (E : String) (h : AH) : Prop :=
  ∀ (p : Program) (e : Env) (R : Room) (s : State) (m : MethodId) (args : Array Value) (below : List Frame) (meth : Method) (c : Code) (H : Heap) (locs : List Loc) (cells slots mc ms : Nat) (ls : Array Slot) (q : Addr) (ce : Cell) (rest : List Value),
    Fx l G M d p R s m meth c → cells + kc ≤ R.cells → slots + ks ≤ R.slots → cells + kc ≤ mc → slots + ks ≤ ms → Emb G h H → va_S (fr G) s.heap H locs → LH ls M.2.2.1 L → H[q]? = some ce → ce.vm = .none → s.vm.findClass E = some ce.cls →
    vx_W p l e R s m args below meth c H locs cells slots (vx_MQ below (eQ G P) (eX G P) args s mc ms (fr G)) (F0 m pc ls rest) q
theorem vaS_call {A : Nat → Prop} {H0 H H1 : Heap} {locs L : List Loc} (hS : va_S A H0 H locs) (hz : H.size ≤ H1.size) (hq : ∀ q : Nat, q < H.size → ¬ A q → H1[q]? = H[q]?) (hL : ∀ q ∈ L, A q.base) : va_S A H0 H1 (locs ++ L) :=
  ⟨Nat.le_trans hS.1 hz, fun q g1 g2 => (hq q (Nat.lt_of_lt_of_le g1 hS.1) g2).trans (hS.2.1 q g1 g2), fun q h => (List.mem_append.mp h).elim (hS.2.2 q) (hL q)⟩
theorem gw_mw (M : MD) : gw (mw M) = true := by
  obtain ⟨y, cc, maxL, ret, tb⟩ := M
  cases tb <;> rfl
theorem ev_back {l : Launch} {G : GG} {d' mc' ms' : Nat} {M' : MD} {as : List Value} {h : AH} {P' : Post} {R : Room} {p : Program} {e : Env} {below : List Frame} {s : State} {sargs : Array Value} {W9 : Nat} (hEv : Ev l G d' mc' ms' M' as h P') (hCx : Cx G s) (hm : mw M' ∈ lw_tbl) (hi : Cond.initialized M'.1.cls ∈ lw_tbl) (hfr : d' + 1 ≤ R.frames) (hlo : W9 + (M'.2.2.1 + 11) + 64 * d' ≤ R.locals) :
    vx_Back l R p e below s sargs M'.1 3 W9 (PreOf R mc' ms' (eC G as h)) (PostOf (eQ G P') mc' ms' (fr G)) (vx_Post (eX G P') mc' ms' (fr G)) := by
  have hbl : FrameBlind (eC G as h) := fun a U g mk q => ⟨q.1, q.2.1.same rfl rfl, q.2.2⟩
  have hws : ∀ w ∈ [mw M'], ∀ a' U, s.WarmedH U.vm → w.before a' U = true := fun w hw a' U hW => by
    rw [List.mem_singleton.mp hw]
    exact hCx.words hm (gw_mw M') a' hW
  have hin : ∀ a' U, s.WarmedH U.vm → (Cond.initialized M'.1.cls).before a' U = true := fun a' U hW => hCx.words hi rfl a' hW
  obtain ⟨y, cc, maxL, ret, tb⟩ := M'
  cases tb with
  | nil => exact vx_back (bytes := cc) (maxL := maxL) (ret := ret) hEv hbl rfl rfl hfr hlo hws List.mem_cons_self hin
  | cons x tb => exact vx_backW (bytes := cc) (maxL := maxL) (ret := ret) (hh := x :: tb) hEv hbl rfl rfl hfr hlo hws List.mem_cons_self hin
section GI
variable {l : Launch} {G : GG} {M : MD} {d kc ks pc : Nat} {P : Post} {L : List (Option Value)} {st : List Value} {h : AH}
theorem g_after {p : Program} {e : Env} {R : Room} {s : State} {m : MethodId} {args : Array Value} {below : List Frame} {meth : Method} {c : Code} {H : Heap} {locs : List Loc} {cells slots mc ms : Nat} {ls : Array Slot} {stk rest as : List Value} {mc' ms' : Nat} {P' : Post} {T : State}
    (F : Fx l G M d p R s m meth c) (h1 : cells + kc ≤ R.cells) (h2 : slots + ks ≤ R.slots) (h3 : cells + kc ≤ mc) (h4 : slots + ks ≤ ms) (hS : va_S (fr G) s.heap H locs) (hL : LH ls M.2.2.1 L) (hT : T.heap = H) (hkc : mc' ≤ kc) (hks : ms' ≤ ks)
    (D : (∃ (v : Option Value) (vm₁ : Vm) (B : Pt), s.WarmedH vm₁ ∧ Stand p l e R s m args below meth c B.U B.locs B.cells B.slots ∧ PostOf (eQ G P') mc' ms' (fr G) ⟨T.setVm vm₁, locs, cells, slots⟩ as.toArray v B ∧
      ∀ target, Steps p.tables e below (B.U.setTop { (F0 m pc ls stk) with pc := pc + 3, stack := v.toList ++ rest }) target → Steps p.tables e below (T.setTop (F0 m pc ls stk)) target) ∨
    (∃ (q : Addr) (vm₁ : Vm) (B : Pt), s.WarmedH vm₁ ∧ Stand p l e R s m args below meth c B.U B.locs B.cells B.slots ∧ vx_Post (eX G P') mc' ms' (fr G) ⟨T.setVm vm₁, locs, cells, slots⟩ as.toArray q B ∧
      Steps p.tables e below (T.setTop (F0 m pc ls stk)) ((B.U.setTop { (F0 m pc ls stk) with stack := rest }).pushFrame (.throwing q))))
    (kr : ∀ v h', P' (.inl v) h' → Go l G M d (kc - mc') (ks - ms') P (pc + 3) L (v.toList ++ rest) h') (kx : ∀ E h', P' (.inr E) h' → GoT l G M d (kc - mc') (ks - ms') P pc L E h') :
    ∃ t, Steps p.tables e below (T.setTop (F0 m pc ls stk)) t ∧ vx_MQ below (eQ G P) (eX G P) args s mc ms (fr G) t := by
  rcases D with ⟨v, vm₁, ⟨U', l2, c2, s2⟩, hW₁, X', ⟨g', mk, t, L9, e1, e2, ⟨v', h', hv, hp, hE', hF'⟩, q1, hL9, q2, q3⟩, st⟩ | ⟨q, vm₁, ⟨U', l2, c2, s2⟩, hW₁, X', ⟨g', mk, t, L9, E, ce, e1, e2, ⟨h', hp, hE', hF'⟩, hce, hcv, hcl, q1, hL9, q2, q3⟩, st⟩
  · dsimp only [Pt.U, Pt.locs, Pt.cells, Pt.slots] at X' e1 e2 q1 q2 q3 st
    subst q1; subst q2; subst q3
    cases hv
    have hz : H.size ≤ U'.heap.size := by rw [e1, ← hT]; exact hF'.1
    have hq : ∀ q : Nat, q < H.size → ¬ fr G q → U'.heap[q]? = H[q]? := fun q g1 g2 => by rw [e1, ← hT]; exact hF'.2 q (by rw [← hT] at g1; exact g1) g2
    obtain ⟨t2, a1, b1⟩ := kr v h' hp _ _ _ _ _ _ _ _ _ U'.heap (locs ++ L9) (cells + mc') (slots + ms') mc ms ls F (by omega) (by omega) (by omega) (by omega) (by rw [e1]; exact hE') (vaS_call hS hz hq hL9) hL U' rfl X'
    exact ⟨t2, st t2 a1, b1⟩
  · dsimp only [Pt.U, Pt.locs, Pt.cells, Pt.slots] at X' e1 e2 q1 q2 q3 st hcl
    subst q1; subst q2; subst q3
    have hz : H.size ≤ U'.heap.size := by rw [e1, ← hT]; exact hF'.1
    have hq : ∀ q : Nat, q < H.size → ¬ fr G q → U'.heap[q]? = H[q]? := fun q g1 g2 => by rw [e1, ← hT]; exact hF'.2 q (by rw [← hT] at g1; exact g1) g2
    obtain ⟨t2, a1, b1⟩ := kx E h' hp _ _ _ _ _ _ _ _ _ U'.heap (locs ++ L9) (cells + mc') (slots + ms') mc ms ls q ce rest F (by omega) (by omega) (by omega) (by omega) (by rw [e1]; exact hE') (vaS_call hS hz hq hL9) hL (by rw [e1]; exact hce) hcv (vx_cls hW₁ hcl) U' rfl X'
    exact ⟨t2, st.trans a1, b1⟩
theorem g_pre {R : Room} {s T : State} {H : Heap} {locs : List Loc} {cells slots mc' ms' : Nat} {as : List Value} (hCx : Cx G s) (hE : Emb G h H) (hS : va_S (fr G) s.heap H locs) (hT : T.heap = H) (hc : cells + mc' ≤ R.cells) (hs : slots + ms' ≤ R.slots) : ∀ vm₁, s.WarmedH vm₁ → PreOf R mc' ms' (eC G as h) ⟨T.setVm vm₁, locs, cells, slots⟩ as.toArray := fun vm₁ hW =>
  ⟨hc, hs, rfl, hCx.go (U := T.setVm vm₁) hW (by show _ ≤ T.heap.size; rw [hT]; exact hS.1) (fun a g1 g2 => by show T.heap[a]? = _; rw [hT]; exact hS.2.1 a g1 g2), by show Emb G h T.heap; rw [hT]; exact hE⟩
/-- what the tables say of a callee -/
def calS (M' : MD) (n : Nat) : Prop := Cond.static M'.1 ∈ lw_tbl ∧ Cond.initialized M'.1.cls ∈ lw_tbl ∧ mw M' ∈ lw_tbl ∧ (M'.1.cls ≠ "java/lang/invoke/MethodHandle" ∧ M'.1.cls ≠ "java/lang/invoke/VarHandle") ∧ (parseMethodDescriptor M'.1.desc).map (fun d => d.parameters.length) = some n
def calV (M' : MD) (n : Nat) : Prop := Cond.instanceMethod M'.1 ∈ lw_tbl ∧ Cond.selects M'.1.cls M'.1 M'.1 ∈ lw_tbl ∧ Cond.initialized M'.1.cls ∈ lw_tbl ∧ mw M' ∈ lw_tbl ∧ (M'.1.cls ≠ "java/lang/invoke/MethodHandle" ∧ M'.1.cls ≠ "java/lang/invoke/VarHandle") ∧ (parseMethodDescriptor M'.1.desc).map (fun d => d.parameters.length) = some n
def calI (M' : MD) (n : Nat) : Prop := Cond.instanceMethod M'.1 ∈ lw_tbl ∧ Cond.initialized M'.1.cls ∈ lw_tbl ∧ mw M' ∈ lw_tbl ∧ (M'.1.cls ≠ "java/lang/invoke/MethodHandle" ∧ M'.1.cls ≠ "java/lang/invoke/VarHandle") ∧ (parseMethodDescriptor M'.1.desc).map (fun d => d.parameters.length) = some n ∧ M'.1.name = "<init>" ∧ M'.2.2.2.1 = none ∧ M'.2.2.2.2 = []
theorem g_callS {M' : MD} {d' mc' ms' idx n : Nat} {as rest stk : List Value} {P' : Post} (hEv : Ev l G d' mc' ms' M' as h P') (hd : decode M.2.1 pc = .ok (.invokestatic idx, 3)) (hm : Cond.methodLink M.1.cls idx M'.1 ∈ lw_tbl) (K : calS M' n) (hn : as.length = n) (hst : stk = as.reverse ++ rest) (hdd : d' + 1 ≤ d) (hro : (rest.map fun v => v.category).sum + (M'.2.2.1 + 11) + 64 * d' ≤ 64 * d) (hkc : mc' ≤ kc) (hks : ms' ≤ ks)
    (kr : ∀ v h', P' (.inl v) h' → Go l G M d (kc - mc') (ks - ms') P (pc + 3) L (v.toList ++ rest) h') (kx : ∀ E h', P' (.inr E) h' → GoT l G M d (kc - mc') (ks - ms') P pc L E h') : Go l G M d kc ks P pc L stk h := by
  intro p e R s m args below meth c H locs cells slots mc ms ls F h1 h2 h3 h4 hE hS hL
  have hCx := F.cx
  intro T hT X
  have hK := ev_back (R := R) (p := p) (e := e) (below := below) (sargs := args) (W9 := (rest.map fun v => v.category).sum) hEv hCx K.2.2.1 K.2.1 (by rw [F.2.2.2.2.2.2.2.2.1]; exact hdd) (by rw [F.2.2.2.2.2.2.2.2.2.1]; exact hro)
  refine g_after (as := as) F h1 h2 h3 h4 hS hL hT hkc hks ?_ kr kx
  obtain ⟨y, cc, maxL, ret, tb⟩ := M'
  cases tb with
  | nil => exact vx_callS X F.1 (bytes := cc) (maxL := maxL) (ret := ret) F.own (hCx.word hm rfl args) (hCx.word K.1 rfl args) (hCx.word K.2.1 rfl args) (hCx.word (w := .code y cc maxL ret) K.2.2.1 rfl args) K.2.2.2.1 hK (g := F0 m pc ls stk) rfl (hL.1.trans F.2.2.2.1.symm) (argsL := as) (rest := rest) (fun sig hsig => by have h2 := K.2.2.2.2; rw [hsig] at h2; exact hn.trans (Option.some.inj h2).symm) hst (by show 2 * 0 + _ ≤ _; omega) (by rw [F.2.1]; exact hd) (g_pre hCx hE hS hT (by omega) (by omega))
  | cons x tb => exact vx_callSX X F.1 (bytes := cc) (maxL := maxL) (ret := ret) (hh := x :: tb) F.own (hCx.word hm rfl args) (hCx.word K.1 rfl args) (hCx.word K.2.1 rfl args) (hCx.word (w := .codeWith y cc maxL ret (x :: tb)) K.2.2.1 rfl args) K.2.2.2.1 hK (g := F0 m pc ls stk) rfl (hL.1.trans F.2.2.2.1.symm) (argsL := as) (rest := rest) (fun sig hsig => by have h2 := K.2.2.2.2; rw [hsig] at h2; exact hn.trans (Option.some.inj h2).symm) hst (by show 2 * 0 + _ ≤ _; omega) (by rw [F.2.1]; exact hd) (g_pre hCx hE hS hT (by omega) (by omega))
theorem g_callSN {M' : MD} {d' mc' ms' idx n : Nat} {as rest stk : List Value} {P' : Post} {host : String} (hEv : Ev l G d' mc' ms' M' as h P') (hd : decode M.2.1 pc = .ok (.invokestatic idx, 3)) (hm : Cond.methodLinkNest M.1.cls idx M'.1 host ∈ lw_tbl) (K : calS M' n) (htb : M'.2.2.2.2 = []) (hn : as.length = n) (hst : stk = as.reverse ++ rest) (hdd : d' + 1 ≤ d) (hro : (rest.map fun v => v.category).sum + (M'.2.2.1 + 11) + 64 * d' ≤ 64 * d) (hkc : mc' ≤ kc) (hks : ms' ≤ ks)
    (kr : ∀ v h', P' (.inl v) h' → Go l G M d (kc - mc') (ks - ms') P (pc + 3) L (v.toList ++ rest) h') (kx : ∀ E h', P' (.inr E) h' → GoT l G M d (kc - mc') (ks - ms') P pc L E h') : Go l G M d kc ks P pc L stk h := by
  intro p e R s m args below meth c H locs cells slots mc ms ls F h1 h2 h3 h4 hE hS hL
  have hCx := F.cx
  intro T hT X
  have hK := ev_back (R := R) (p := p) (e := e) (below := below) (sargs := args) (W9 := (rest.map fun v => v.category).sum) hEv hCx K.2.2.1 K.2.1 (by rw [F.2.2.2.2.2.2.2.2.1]; exact hdd) (by rw [F.2.2.2.2.2.2.2.2.2.1]; exact hro)
  refine g_after (as := as) F h1 h2 h3 h4 hS hL hT hkc hks ?_ kr kx
  obtain ⟨y, cc, maxL, ret, tb⟩ := M'
  cases htb
  exact vx_callSN X F.1 (bytes := cc) (maxL := maxL) (ret := ret) F.own (hCx.word hm rfl args) (hCx.word K.1 rfl args) (hCx.word K.2.1 rfl args) (hCx.word (w := .code y cc maxL ret) K.2.2.1 rfl args) K.2.2.2.1 hK (g := F0 m pc ls stk) rfl (hL.1.trans F.2.2.2.1.symm) (argsL := as) (rest := rest) (fun sig hsig => by have h2 := K.2.2.2.2; rw [hsig] at h2; exact hn.trans (Option.some.inj h2).symm) hst (by show 2 * 0 + _ ≤ _; omega) (by rw [F.2.1]; exact hd) (g_pre hCx hE hS hT (by omega) (by omega))
theorem g_callV {M' : MD} {d' mc' ms' idx n : Nat} {as rest stk : List Value} {P' : Post} {ci nF b s0 g0 : Nat} {C : String} {T9 : u_T} {ty : Nat → FieldType} {fs : List Value} (hEv : Ev l G d' mc' ms' M' (.ref b :: as) h P') (hd : decode M.2.1 pc = .ok (.invokevirtual idx, 3)) (hm : Cond.methodLink M.1.cls idx M'.1 ∈ lw_tbl) (K : calV M' n) (Kc : clsOk ci nF C T9 ty) (hC : C = M'.1.cls) (hb : h s0 g0 = some (b, .inr (ci, fs))) (hn : as.length = n) (hst : stk = as.reverse ++ .ref b :: rest) (hdd : d' + 1 ≤ d) (hro : (rest.map fun v => v.category).sum + (M'.2.2.1 + 11) + 64 * d' ≤ 64 * d) (hkc : mc' ≤ kc) (hks : ms' ≤ ks)
    (kr : ∀ v h', P' (.inl v) h' → Go l G M d (kc - mc') (ks - ms') P (pc + 3) L (v.toList ++ rest) h') (kx : ∀ E h', P' (.inr E) h' → GoT l G M d (kc - mc') (ks - ms') P pc L E h') : Go l G M d kc ks P pc L stk h := by
  intro p e R s m args below meth c H locs cells slots mc ms ls F h1 h2 h3 h4 hE hS hL
  have hCx := F.cx
  intro T hT X
  have hK := ev_back (R := R) (p := p) (e := e) (below := below) (sargs := args) (W9 := (rest.map fun v => v.category).sum) hEv hCx K.2.2.2.1 K.2.2.1 (by rw [F.2.2.2.2.2.2.2.2.1]; exact hdd) (by rw [F.2.2.2.2.2.2.2.2.2.1]; exact hro)
  refine g_after (as := .ref b :: as) F h1 h2 h3 h4 hS hL hT hkc hks ?_ kr kx
  have hr : ∃ cell : Cell, T.heap[b]? = some cell ∧ cell.vm.isStatics = false ∧ s.vm.findClass M'.1.cls = some cell.cls := by
    obtain ⟨r', hr', cell, r1, r2, r3, -⟩ := (hE.1 _ _ _ _ hb).1
    exact ⟨cell, by rw [hT]; exact r1, by rw [r3]; rfl, by rw [r2, ← hC]; exact (hCx.2.1.1 ci _ Kc.1).2.1⟩
  obtain ⟨cellB, hcB, hoB, hclB⟩ := hr
  obtain ⟨y, cc, maxL, ret, tb⟩ := M'
  cases tb with
  | nil => exact vx_callV X F.1 (C := y.cls) (bytes := cc) (maxL := maxL) (ret := ret) F.own (hCx.word hm rfl args) (hCx.word K.1 rfl args) (hCx.word K.2.1 rfl args) (hCx.word (w := .code y cc maxL ret) K.2.2.2.1 rfl args) K.2.2.2.2.1 hK hcB hoB hclB (g := F0 m pc ls stk) rfl (hL.1.trans F.2.2.2.1.symm) (argsL := as) (rest := rest) (fun sig hsig => by have h2 := K.2.2.2.2.2; rw [hsig] at h2; exact hn.trans (Option.some.inj h2).symm) hst (by show 2 * 0 + _ ≤ _; omega) (by rw [F.2.1]; exact hd) (g_pre hCx hE hS hT (by omega) (by omega))
  | cons x tb => exact vx_callVX X F.1 (C := y.cls) (bytes := cc) (maxL := maxL) (ret := ret) (hh := x :: tb) F.own (hCx.word hm rfl args) (hCx.word K.1 rfl args) (hCx.word K.2.1 rfl args) (hCx.word (w := .codeWith y cc maxL ret (x :: tb)) K.2.2.2.1 rfl args) K.2.2.2.2.1 hK hcB hoB hclB (g := F0 m pc ls stk) rfl (hL.1.trans F.2.2.2.1.symm) (argsL := as) (rest := rest) (fun sig hsig => by have h2 := K.2.2.2.2.2; rw [hsig] at h2; exact hn.trans (Option.some.inj h2).symm) hst (by show 2 * 0 + _ ≤ _; omega) (by rw [F.2.1]; exact hd) (g_pre hCx hE hS hT (by omega) (by omega))
theorem g_callVN {M' : MD} {d' mc' ms' idx n : Nat} {as rest stk : List Value} {P' : Post} {host : String} {ci nF b s0 g0 : Nat} {C : String} {T9 : u_T} {ty : Nat → FieldType} {fs : List Value} (hEv : Ev l G d' mc' ms' M' (.ref b :: as) h P') (hd : decode M.2.1 pc = .ok (.invokevirtual idx, 3)) (hm : Cond.methodLinkNest M.1.cls idx M'.1 host ∈ lw_tbl) (K : calV M' n) (htb : M'.2.2.2.2 = []) (Kc : clsOk ci nF C T9 ty) (hC : C = M'.1.cls) (hb : h s0 g0 = some (b, .inr (ci, fs))) (hn : as.length = n) (hst : stk = as.reverse ++ .ref b :: rest) (hdd : d' + 1 ≤ d) (hro : (rest.map fun v => v.category).sum + (M'.2.2.1 + 11) + 64 * d' ≤ 64 * d) (hkc : mc' ≤ kc) (hks : ms' ≤ ks)
    (kr : ∀ v h', P' (.inl v) h' → Go l G M d (kc - mc') (ks - ms') P (pc + 3) L (v.toList ++ rest) h') (kx : ∀ E h', P' (.inr E) h' → GoT l G M d (kc - mc') (ks - ms') P pc L E h') : Go l G M d kc ks P pc L stk h := by
  intro p e R s m args below meth c H locs cells slots mc ms ls F h1 h2 h3 h4 hE hS hL
  have hCx := F.cx
  intro T hT X
  have hK := ev_back (R := R) (p := p) (e := e) (below := below) (sargs := args) (W9 := (rest.map fun v => v.category).sum) hEv hCx K.2.2.2.1 K.2.2.1 (by rw [F.2.2.2.2.2.2.2.2.1]; exact hdd) (by rw [F.2.2.2.2.2.2.2.2.2.1]; exact hro)
  refine g_after (as := .ref b :: as) F h1 h2 h3 h4 hS hL hT hkc hks ?_ kr kx
  have hr : ∃ cell : Cell, T.heap[b]? = some cell ∧ cell.vm.isStatics = false ∧ s.vm.findClass M'.1.cls = some cell.cls := by
    obtain ⟨r', hr', cell, r1, r2, r3, -⟩ := (hE.1 _ _ _ _ hb).1
    exact ⟨cell, by rw [hT]; exact r1, by rw [r3]; rfl, by rw [r2, ← hC]; exact (hCx.2.1.1 ci _ Kc.1).2.1⟩
  obtain ⟨cellB, hcB, hoB, hclB⟩ := hr
  obtain ⟨y, cc, maxL, ret, tb⟩ := M'
  cases htb
  exact vx_callVN X F.1 (C := y.cls) (bytes := cc) (maxL := maxL) (ret := ret) F.own (hCx.word hm rfl args) (hCx.word K.1 rfl args) (hCx.word K.2.1 rfl args) (hCx.word (w := .code y cc maxL ret) K.2.2.2.1 rfl args) K.2.2.2.2.1 hK hcB hoB hclB (g := F0 m pc ls stk) rfl (hL.1.trans F.2.2.2.1.symm) (argsL := as) (rest := rest) (fun sig hsig => by have h2 := K.2.2.2.2.2; rw [hsig] at h2; exact hn.trans (Option.some.inj h2).symm) hst (by show 2 * 0 + _ ≤ _; omega) (by rw [F.2.1]; exact hd) (g_pre hCx hE hS hT (by omega) (by omega))
theorem g_callI {M' : MD} {d' mc' ms' idx n : Nat} {as rest stk : List Value} {P' : Post} {b : Nat} (hEv : Ev l G d' mc' ms' M' (.ref b :: as) h P') (hd : decode M.2.1 pc = .ok (.invokespecial idx, 3)) (hm : Cond.methodLink M.1.cls idx M'.1 ∈ lw_tbl) (K : calI M' n) (hn : as.length = n) (hst : stk = as.reverse ++ .ref b :: rest) (hdd : d' + 1 ≤ d) (hro : (rest.map fun v => v.category).sum + (M'.2.2.1 + 11) + 64 * d' ≤ 64 * d) (hkc : mc' ≤ kc) (hks : ms' ≤ ks)
    (kr : ∀ v h', P' (.inl v) h' → Go l G M d (kc - mc') (ks - ms') P (pc + 3) L (v.toList ++ rest) h') (kx : ∀ E h', P' (.inr E) h' → GoT l G M d (kc - mc') (ks - ms') P pc L E h') : Go l G M d kc ks P pc L stk h := by
  intro p e R s m args below meth c H locs cells slots mc ms ls F h1 h2 h3 h4 hE hS hL
  have hCx := F.cx
  intro T hT X
  have hK := ev_back (R := R) (p := p) (e := e) (below := below) (sargs := args) (W9 := (rest.map fun v => v.category).sum) hEv hCx K.2.2.1 K.2.1 (by rw [F.2.2.2.2.2.2.2.2.1]; exact hdd) (by rw [F.2.2.2.2.2.2.2.2.2.1]; exact hro)
  refine g_after (as := .ref b :: as) F h1 h2 h3 h4 hS hL hT hkc hks ?_ kr kx
  obtain ⟨y, cc, maxL, ret, tb⟩ := M'
  obtain ⟨K1, K2, K3, K4, K5, K6, K7, K8⟩ := K
  cases K7
  cases K8
  exact vx_callI X F.1 (bytes := cc) (maxL := maxL) F.own K6 (hCx.word hm rfl args) (hCx.word K1 rfl args) (hCx.word (w := .code y cc maxL none) K3 rfl args) K4 hK (g := F0 m pc ls stk) rfl (hL.1.trans F.2.2.2.1.symm) (a := b) (argsL := as) (rest := rest) (fun sig hsig => by have h2 := K5; rw [hsig] at h2; exact hn.trans (Option.some.inj h2).symm) hst (by show 2 * 0 + _ ≤ _; omega) (by rw [F.2.1]; exact hd) (g_pre hCx hE hS hT (by omega) (by omega))
theorem g_callIN {M' : MD} {d' mc' ms' idx n : Nat} {as rest stk : List Value} {P' : Post} {host : String} {b : Nat} (hEv : Ev l G d' mc' ms' M' (.ref b :: as) h P') (hd : decode M.2.1 pc = .ok (.invokespecial idx, 3)) (hm : Cond.methodLinkNest M.1.cls idx M'.1 host ∈ lw_tbl) (K : calI M' n) (hn : as.length = n) (hst : stk = as.reverse ++ .ref b :: rest) (hdd : d' + 1 ≤ d) (hro : (rest.map fun v => v.category).sum + (M'.2.2.1 + 11) + 64 * d' ≤ 64 * d) (hkc : mc' ≤ kc) (hks : ms' ≤ ks)
    (kr : ∀ v h', P' (.inl v) h' → Go l G M d (kc - mc') (ks - ms') P (pc + 3) L (v.toList ++ rest) h') (kx : ∀ E h', P' (.inr E) h' → GoT l G M d (kc - mc') (ks - ms') P pc L E h') : Go l G M d kc ks P pc L stk h := by
  intro p e R s m args below meth c H locs cells slots mc ms ls F h1 h2 h3 h4 hE hS hL
  have hCx := F.cx
  intro T hT X
  have hK := ev_back (R := R) (p := p) (e := e) (below := below) (sargs := args) (W9 := (rest.map fun v => v.category).sum) hEv hCx K.2.2.1 K.2.1 (by rw [F.2.2.2.2.2.2.2.2.1]; exact hdd) (by rw [F.2.2.2.2.2.2.2.2.2.1]; exact hro)
  refine g_after (as := .ref b :: as) F h1 h2 h3 h4 hS hL hT hkc hks ?_ kr kx
  obtain ⟨y, cc, maxL, ret, tb⟩ := M'
  obtain ⟨K1, K2, K3, K4, K5, K6, K7, K8⟩ := K
  cases K7
  cases K8
  exact vx_callIN X F.1 (bytes := cc) (maxL := maxL) F.own K6 (hCx.word hm rfl args) (hCx.word K1 rfl args) (hCx.word (w := .code y cc maxL none) K3 rfl args) K4 hK (g := F0 m pc ls stk) rfl (hL.1.trans F.2.2.2.1.symm) (a := b) (argsL := as) (rest := rest) (fun sig hsig => by have h2 := K5; rw [hsig] at h2; exact hn.trans (Option.some.inj h2).symm) hst (by show 2 * 0 + _ ≤ _; omega) (by rw [F.2.1]; exact hd) (g_pre hCx hE hS hT (by omega) (by omega))
theorem g_objInit {idx b : Nat} (hd : decode M.2.1 pc = .ok (.invokespecial idx, 3)) (hm : Cond.methodLink M.1.cls idx Lib.objectInit ∈ lw_tbl) (w1 : Cond.instanceMethod Lib.objectInit ∈ lw_tbl) (w2 : Cond.code Lib.objectInit ⟨#[0xb1]⟩ 1 none ∈ lw_tbl) (hfr : 1 ≤ d) (hro : (st.map fun v => v.category).sum + 12 ≤ 64 * d)
    (kk : Go l G M d kc ks P (pc + 3) L st h) : Go l G M d kc ks P pc L (.ref b :: st) h := by
  intro p e R s m args below meth c H locs cells slots mc ms ls F h1 h2 h3 h4 hE hS hL
  have hCx := F.cx
  exact W.objInit F.1 F.2.1 F.own (hCx.word hm rfl args) (hCx.word w1 rfl args) (hCx.word w2 rfl args) (g := F0 m pc ls (.ref b :: st)) rfl (hL.1.trans F.2.2.2.1.symm) rfl hd (by rw [F.2.2.2.2.2.2.2.2.1]; exact hfr) (by rw [F.2.2.2.2.2.2.2.2.2.1]; show 2 * 0 + _ + _ ≤ _; omega) (kk _ _ _ _ _ _ _ _ _ _ _ _ _ _ _ _ F h1 h2 h3 h4 hE hS hL)
/-- an exception leaves a method without a table -/
theorem gt_out {E : String} (ht : M.2.2.2.2 = []) (hP : P (.inr E) h) : GoT l G M d kc ks P pc L E h := by
  intro p e R s m args below meth c H locs cells slots mc ms ls q ce rest F h1 h2 h3 h4 hE hS hL hce hcv hcl
  have htab : c.exceptionTable.toList = [] := by
    have := F.2.2.2.2.2.2.2.1
    rw [ht] at this
    exact this
  exact vx_out (fun x hx => by rw [htab] at hx; cases hx) F.2.2.2.2.1 hce hcv hcl (fun t e1 e2 => ⟨h, hP, by rw [e1]; exact hE, hS.F e1⟩) hS.2.2 (by omega) (by omega)
/-- 'throw new E("text")' -/
def thOk (own cls text : String) (names : List String) (ik is ic : Nat) : Prop :=
  Bundle.fit cls = true ∧ (∀ n ∈ names, Bundle.fit n = true) ∧ Cond.classLink own ik cls ∈ lw_tbl ∧ Cond.initialized cls ∈ lw_tbl ∧ (own, is, text) ∈ strs ∧ (∀ w ∈ vx_atS own ic cls names, w ∈ lw_tbl ∧ gw w = true) ∧ (∀ w ∈ Cond.classLink own ik cls :: Cond.initialized cls :: vx_atS own ic cls names, vx_ot w = true)
theorem g_throwS {cls text : String} {names : List String} {ik is ic : Nat} (T : thOk M.1.cls cls text names ik is ic) (d0 : decode M.2.1 pc = .ok (.new ik, 3)) (d3 : decode M.2.1 (pc + 3) = .ok (.dup, 1)) (d4 : decode M.2.1 (pc + 4) = .ok (.ldc is, 2)) (d6 : decode M.2.1 (pc + 6) = .ok (.invokespecial ic, 3)) (d9 : decode M.2.1 (pc + 9) = .ok (.athrow, 1)) (ht : M.2.2.2.2 = []) (hfr : names.length + 3 < d) (hro : (st.map fun v => v.category).sum + (13 * (names.length + 1) + 43) ≤ 64 * d) (hc : 1 ≤ kc) (hs : 6 ≤ ks) (hP : P (.inr cls) h) : Go l G M d kc ks P pc L st h := by
  intro p e R s m args below meth c H locs cells slots mc ms ls F h1 h2 h3 h4 hE hS hL
  have hCx := F.cx
  have htab : c.exceptionTable.toList = [] := by
    have := F.2.2.2.2.2.2.2.1
    rw [ht] at this
    exact this
  obtain ⟨t1, t2, t3, t4, t5, t6, t7⟩ := T
  obtain ⟨sa, hsa⟩ := hCx.2.2.2.2.1 _ t5
  obtain ⟨u1, u2, -⟩ := hCx.2.2.2.2.2.2
  exact vx_throwS F.1 F.2.1 F.2.2.2.2.2.2.2.2.2.2.2 F.own t1 t2 (hCx.word t3 rfl args) (hCx.word t4 rfl args) hsa (fun w hw => hCx.word (t6 w hw).1 (t6 w hw).2 args) t7 u1 u2 hS (hL.1.trans F.2.2.2.1.symm) d0 d3 d4 d6 d9 (fun x hx => by rw [htab] at hx; cases hx) (by rw [F.2.2.2.2.2.2.2.2.1]; exact hfr) (by rw [F.2.2.2.2.2.2.2.2.2.1]; exact hro) (by omega) (by omega) F.2.2.2.2.1
    (fun t e1 e2 e3 => ⟨h, hP, ⟨fun s0 g0 a c0 hq => ⟨((hE.1 _ _ _ _ hq).1).kept (e3 a (hE.lt hq)), (hE.1 _ _ _ _ hq).2⟩, hE.2⟩, ⟨Nat.le_trans hS.1 e2, fun q g1 g2 => (e3 q (Nat.lt_of_lt_of_le g1 hS.1)).trans (hS.2.1 q g1 g2)⟩⟩) hS.2.2 (by omega) (by omega)
theorem g_throwSW {cls text : String} {names : List String} {ik is ic : Nat} (T : thOk M.1.cls cls text names ik is ic) (d0 : decode M.2.1 pc = .ok (.new ik, 3)) (d3 : decode M.2.1 (pc + 3) = .ok (.dup, 1)) (d4 : decode M.2.1 (pc + 4) = .ok (.ldc_w is, 3)) (d6 : decode M.2.1 (pc + 7) = .ok (.invokespecial ic, 3)) (d9 : decode M.2.1 (pc + 10) = .ok (.athrow, 1)) (ht : M.2.2.2.2 = []) (hfr : names.length + 3 < d) (hro : (st.map fun v => v.category).sum + (13 * (names.length + 1) + 43) ≤ 64 * d) (hc : 1 ≤ kc) (hs : 6 ≤ ks) (hP : P (.inr cls) h) : Go l G M d kc ks P pc L st h := by
  intro p e R s m args below meth c H locs cells slots mc ms ls F h1 h2 h3 h4 hE hS hL
  have hCx := F.cx
  have htab : c.exceptionTable.toList = [] := by
    have := F.2.2.2.2.2.2.2.1
    rw [ht] at this
    exact this
  obtain ⟨t1, t2, t3, t4, t5, t6, t7⟩ := T
  obtain ⟨sa, hsa⟩ := hCx.2.2.2.2.1 _ t5
  obtain ⟨u1, u2, -⟩ := hCx.2.2.2.2.2.2
  exact vx_throwSW F.1 F.2.1 F.2.2.2.2.2.2.2.2.2.2.2 F.own t1 t2 (hCx.word t3 rfl args) (hCx.word t4 rfl args) hsa (fun w hw => hCx.word (t6 w hw).1 (t6 w hw).2 args) t7 u1 u2 hS (hL.1.trans F.2.2.2.1.symm) d0 d3 d4 d6 d9 (fun x hx => by rw [htab] at hx; cases hx) (by rw [F.2.2.2.2.2.2.2.2.1]; exact hfr) (by rw [F.2.2.2.2.2.2.2.2.2.1]; exact hro) (by omega) (by omega) F.2.2.2.2.1
    (fun t e1 e2 e3 => ⟨h, hP, ⟨fun s0 g0 a c0 hq => ⟨((hE.1 _ _ _ _ hq).1).kept (e3 a (hE.lt hq)), (hE.1 _ _ _ _ hq).2⟩, hE.2⟩, ⟨Nat.le_trans hS.1 e2, fun q g1 g2 => (e3 q (Nat.lt_of_lt_of_le g1 hS.1)).trans (hS.2.1 q g1 g2)⟩⟩) hS.2.2 (by omega) (by omega)
/-- caught by the row x of the method's table; the rows ahead don't take it -/
theorem gt_catch {E name : String} (pre : List ExceptionTableEntry) (x : ExceptionTableEntry) (suf : List ExceptionTableEntry) (hsplit : tableOf M.2.2.2.2 = pre ++ x :: suf) (hpass : ∀ z ∈ pre, covers z pc = false ∨ (z.catchType ≠ 0 ∧ ∃ nm : String, Cond.classLink M.1.cls z.catchType nm ∈ lw_tbl ∧ (E, nm) ∈ ncs)) (hx : covers x pc = true) (h0 : x.catchType ≠ 0) (hlink : Cond.classLink M.1.cls x.catchType name ∈ lw_tbl) (hcast : Cond.castable E name ∈ lw_tbl)
    (kk : ∀ q, Go l G M d kc ks P x.handlerPc L [.ref q] h) : GoT l G M d kc ks P pc L E h := by
  intro p e R s m args below meth c H locs cells slots mc ms ls q ce rest F h1 h2 h3 h4 hE hS hL hce hcv hcl
  have hCx := F.cx
  exact vx_catch F.own pre x suf (F.2.2.2.2.2.2.2.1.trans hsplit) (fun z hz => (hpass z hz).elim Or.inl (fun ⟨z0, nm, y1, y2⟩ => Or.inr ⟨z0, nm, hCx.word y1 rfl args, hCx.2.2.2.2.2.1.1 _ y2⟩)) hx h0 (hCx.word hlink rfl args) (hCx.word hcast rfl args) hce hcv hcl (kk q _ _ _ _ _ _ _ _ _ _ _ _ _ _ _ _ F h1 h2 h3 h4 hE hS hL)
end GI
