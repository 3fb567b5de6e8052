/-! Rows for StringBuilder and String (by wip/whole/gen/m9.py). -/
theorem w_sup_J4 : Cond.superclass RJ4 RJ5 ∈ lw_tbl := List.mem_of_getElem? (i := 287) (by decide +kernel)
theorem w_priv_yJ5_ensureCapacityInternal_d00df : Cond.privateMethod yJ5_ensureCapacityInternal_d00df ∈ lw_tbl := List.mem_of_getElem? (i := 1115) (by decide +kernel)
theorem w_priv_yJ5_newCapacity_0f7a4 : Cond.privateMethod yJ5_newCapacity_0f7a4 ∈ lw_tbl := List.mem_of_getElem? (i := 1119) (by decide +kernel)
theorem w_sel_isLatin1 : Cond.selects RJ4 yJ5_isLatin1_aae02 yJ5_isLatin1_aae02 ∈ lw_tbl := List.mem_of_getElem? (i := 1146) (by decide +kernel)
theorem w_same_yJ5_length_8abf5 : Cond.sameMethod yJ5_length_8abf5.cls yJ5_length_8abf5.cls yJ5_length_8abf5.name yJ5_length_8abf5.desc ∈ lw_tbl := List.mem_of_getElem? (i := 2056) (by decide +kernel)
theorem w_same_yJ5_append_3fe6f : Cond.sameMethod yJ5_append_3fe6f.cls yJ5_append_3fe6f.cls yJ5_append_3fe6f.name yJ5_append_3fe6f.desc ∈ lw_tbl := List.mem_of_getElem? (i := 2057) (by decide +kernel)
theorem w_same_yJ5_append_c97b9 : Cond.sameMethod yJ5_append_c97b9.cls yJ5_append_c97b9.cls yJ5_append_c97b9.name yJ5_append_c97b9.desc ∈ lw_tbl := List.mem_of_getElem? (i := 2067) (by decide +kernel)
theorem w_same_yJ5_charAt_5068e : Cond.sameMethod yJ5_charAt_5068e.cls yJ5_charAt_5068e.cls yJ5_charAt_5068e.name yJ5_charAt_5068e.desc ∈ lw_tbl := List.mem_of_getElem? (i := 2061) (by decide +kernel)
theorem w_same_yJ5_setLength_d00df : Cond.sameMethod yJ5_setLength_d00df.cls yJ5_setLength_d00df.cls yJ5_setLength_d00df.name yJ5_setLength_d00df.desc ∈ lw_tbl := List.mem_of_getElem? (i := 2062) (by decide +kernel)
section SBC
variable {p : Program} {l : Launch} {e : Env} {R : Room} {s : State} {m : MethodId} {args : Array Value} {below : List Frame} {meth : Method} {c : Code} {T : State} {locs : List Loc} {cells slots : Nat}
/-- a private method of a superclass, on an object of a class that can be made -/
theorem sx_callVP (X : Stand p l e R s m args below meth c T locs cells slots) (hexec : p.tables.exec = Jvm.exec) {own : String} {index : Nat} {y : MethodName} {bytes : ByteArray} {maxL : Nat} {ret : Option FieldType}
    (hown : s.vm.findClass own = some m.cls) (hlink : (Cond.methodLink own index y).before args s = true) (hinst : (Cond.instanceMethod y).before args s = true) (hpriv : (Cond.privateMethod y).before args s = true)
    (hcode : (Cond.code y bytes maxL ret).before args s = true) (hy : y.cls ≠ "java/lang/invoke/MethodHandle" ∧ y.cls ≠ "java/lang/invoke/VarHandle")
    {W9 : Nat} {Pre : Pt → Array Value → Prop} {Post : Pt → Array Value → Option Value → Pt → Prop} {PostX : Pt → Array Value → Addr → Pt → Prop} (hK : vx_Back l R p e below s args y 3 W9 Pre Post PostX)
    {b : Addr} {cellB : Cell} (hcell : T.heap[b]? = some cellB) (hobj : cellB.vm.isStatics = false) {cP : ClassId} {kP : Class} (hfP : s.vm.findClass y.cls = some cP) (hkP0 : s.vm.classes[cP]? = some kP) (hkPi : kP.isInterface = false)
    {g : JFrame} (hg : g.method = m) (hsize : g.locals.size = c.maxLocals) {argsL rest : List Value} (hlen : ∀ sig, parseMethodDescriptor y.desc = some sig → argsL.length = sig.parameters.length)
    (hstack : g.stack = argsL.reverse ++ .ref b :: rest) (hW : 2 * g.monitorRoom + (rest.map fun v => v.category).sum ≤ W9) (hdg : decode c.code g.pc = .ok (.invokevirtual index, 3))
    (hpre : ∀ vm₁, s.WarmedH vm₁ → Pre ⟨T.setVm vm₁, locs, cells, slots⟩ (Value.ref b :: argsL).toArray) :
    (∃ (v : Option Value) (vm₁ : Vm) (B : Pt), s.WarmedH vm₁ ∧ Stand p l e R s m args below meth c B.U B.locs B.cells B.slots ∧ Post ⟨T.setVm vm₁, locs, cells, slots⟩ (Value.ref b :: argsL).toArray v B ∧
      ∀ target, Steps p.tables e below (B.U.setTop { g with pc := g.pc + 3, stack := v.toList ++ rest }) target → Steps p.tables e below (T.setTop g) target) ∨
    (∃ (q : Addr) (vm₁ : Vm) (B : Pt), s.WarmedH vm₁ ∧ Stand p l e R s m args below meth c B.U B.locs B.cells B.slots ∧ PostX ⟨T.setVm vm₁, locs, cells, slots⟩ (Value.ref b :: argsL).toArray q B ∧
      Steps p.tables e below (T.setTop g) ((B.U.setTop { g with stack := rest }).pushFrame (.throwing q))) := by
  obtain ⟨mk, methM, hnamed, hmethM, hstM, habM⟩ := Cond.instanceMethod_spec hinst
  obtain ⟨methM', cM, hmethM', -, -, -, -, -, -, hsigM⟩ := Cond.code_spec hnamed hcode
  cases hmethM.symm.trans hmethM'
  have hselP : selectMethod e.platform s.vm cellB.cls mk = .method mk := selectMethod_private hmethM (Cond.privateMethod_at hpriv mk methM hnamed hmethM)
  have hkP : s.vm.classes[mk.cls]? = some kP := by rw [Option.some.inj ((findClass_of_methodNamed hnamed).symm.trans hfP)]; exact hkP0
  obtain ⟨vm₁, X₁, hstep₁⟩ := X.invokevirtual hexec hown hlink hnamed hmethM hstM hkP hkPi hy (a := b) (cell := cellB) hcell
    (fun z h => by rw [h] at hobj; cases hobj) hselP hmethM habM hkP hkPi (g := g) hg (argsL := argsL) (rest := rest) (hlen _ hsigM) hstack hdg
  rcases hK m meth c ⟨T.setVm vm₁, locs, cells, slots⟩ { g with stack := rest } (.invokevirtual index) mk (Value.ref b :: argsL).toArray X₁ hg hsize hdg hW (X₁.named hnamed) (hpre vm₁ X₁.warmed) with ⟨v, B, X', hpost, hsteps⟩ | ⟨q, B, X', hpost, hsteps⟩
  · exact Or.inl ⟨v, vm₁, B, X₁.warmed, X', hpost, fun target h => hstep₁ _ fun acts => by rw [doInvoke_state]; exact hsteps.trans h⟩
  · exact Or.inr ⟨q, vm₁, B, X₁.warmed, X', hpost, hstep₁ _ fun acts => by rw [doInvoke_state]; exact hsteps⟩
/-- super.m(..) -/
theorem sx_callSU (X : Stand p l e R s m args below meth c T locs cells slots) (hexec : p.tables.exec = Jvm.exec) {own : String} {index : Nat} {y : MethodName} {bytes : ByteArray} {maxL : Nat} {ret : Option FieldType}
    (hown : s.vm.findClass own = some m.cls) (hlink : (Cond.methodLink own index y).before args s = true) (hsame : (Cond.sameMethod y.cls y.cls y.name y.desc).before args s = true) (hsup : (Cond.superclass own y.cls).before args s = true)
    (hinst : (Cond.instanceMethod y).before args s = true) (hcode : (Cond.code y bytes maxL ret).before args s = true) (hno : y.name ≠ "<init>")
    {W9 : Nat} {Pre : Pt → Array Value → Prop} {Post : Pt → Array Value → Option Value → Pt → Prop} {PostX : Pt → Array Value → Addr → Pt → Prop} (hK : vx_Back l R p e below s args y 3 W9 Pre Post PostX)
    {b : Addr} {cellB : Cell} {kB : Class} (hcell : T.heap[b]? = some cellB) (hobj : cellB.vm.isStatics = false) (hkB : s.vm.classes[cellB.cls]? = some kB)
    {g : JFrame} (hg : g.method = m) (hsize : g.locals.size = c.maxLocals) {argsL rest : List Value} (hlen : ∀ sig, parseMethodDescriptor y.desc = some sig → argsL.length = sig.parameters.length)
    (hstack : g.stack = argsL.reverse ++ .ref b :: rest) (hW : 2 * g.monitorRoom + (rest.map fun v => v.category).sum ≤ W9) (hdg : decode c.code g.pc = .ok (.invokespecial index, 3))
    (hpre : ∀ vm₁, s.WarmedH vm₁ → Pre ⟨T.setVm vm₁, locs, cells, slots⟩ (Value.ref b :: argsL).toArray) :
    (∃ (v : Option Value) (vm₁ : Vm) (B : Pt), s.WarmedH vm₁ ∧ Stand p l e R s m args below meth c B.U B.locs B.cells B.slots ∧ Post ⟨T.setVm vm₁, locs, cells, slots⟩ (Value.ref b :: argsL).toArray v B ∧
      ∀ target, Steps p.tables e below (B.U.setTop { g with pc := g.pc + 3, stack := v.toList ++ rest }) target → Steps p.tables e below (T.setTop g) target) ∨
    (∃ (q : Addr) (vm₁ : Vm) (B : Pt), s.WarmedH vm₁ ∧ Stand p l e R s m args below meth c B.U B.locs B.cells B.slots ∧ PostX ⟨T.setVm vm₁, locs, cells, slots⟩ (Value.ref b :: argsL).toArray q B ∧
      Steps p.tables e below (T.setTop g) ((B.U.setTop { g with stack := rest }).pushFrame (.throwing q))) := by
  obtain ⟨mk, methM, hnamed, hmethM, hstM, habM⟩ := Cond.instanceMethod_spec hinst
  obtain ⟨methM', cM, hmethM', -, -, -, -, -, -, hsigM⟩ := Cond.code_spec hnamed hcode
  cases hmethM.symm.trans hmethM'
  obtain ⟨ps, dk, kp, hps, hdk, hkp, hsuper, -, -, hnid⟩ := Cond.superclass_spec hown hsup
  have hn : s.methodNamed? ⟨y.cls, y.name, y.desc⟩ = some mk := hnamed
  have hpm : ps = mk.cls := Option.some.inj (hps.symm.trans (findClass_of_methodNamed hnamed))
  have hsub : s.vm.isSubclass ps mk.cls = true := by rw [hpm]; simp [Vm.isSubclass, Vm.isSubclassAux]
  obtain ⟨vm₁, X₁, hstep₁⟩ := X.invokespecialUp hexec hown hlink hsame hn hmethM hstM habM hno hdk hnid hps hsuper hsub (a := b) (cell := cellB) hcell
    (fun z h => by rw [h] at hobj; cases hobj) hkB (g := g) hg (argsL := argsL) (rest := rest) (hlen _ hsigM) hstack hdg
  rcases hK m meth c ⟨T.setVm vm₁, locs, cells, slots⟩ { g with stack := rest } (.invokespecial index) mk (Value.ref b :: argsL).toArray X₁ hg hsize hdg hW (X₁.named hnamed) (hpre vm₁ X₁.warmed) with ⟨v, B, X', hpost, hsteps⟩ | ⟨q, B, X', hpost, hsteps⟩
  · exact Or.inl ⟨v, vm₁, B, X₁.warmed, X', hpost, fun target h => hstep₁ _ (by rw [doInvoke_state]; exact hsteps.trans h)⟩
  · exact Or.inr ⟨q, vm₁, B, X₁.warmed, X', hpost, hstep₁ _ (by rw [doInvoke_state]; exact hsteps)⟩
end SBC
/-- what the tables say of a superclass's method: found by its receiver's class, private, or called by super -/
def calQ (C : String) (M' : MD) (n : Nat) : Prop := Cond.instanceMethod M'.1 ∈ lw_tbl ∧ Cond.selects C M'.1 M'.1 ∈ lw_tbl ∧ Cond.initialized M'.1.cls ∈ lw_tbl ∧ mw M' ∈ lw_tbl ∧ (M'.1.cls ≠ "java/lang/invoke/MethodHandle" ∧ M'.1.cls ≠ "java/lang/invoke/VarHandle") ∧ (parseMethodDescriptor M'.1.desc).map (fun d => d.parameters.length) = some n ∧ M'.2.2.2.2 = []
def calP (C : String) (M' : MD) (n : Nat) : Prop := Cond.instanceMethod M'.1 ∈ lw_tbl ∧ Cond.privateMethod M'.1 ∈ lw_tbl ∧ Cond.initialized M'.1.cls ∈ lw_tbl ∧ mw M' ∈ lw_tbl ∧ (M'.1.cls ≠ "java/lang/invoke/MethodHandle" ∧ M'.1.cls ≠ "java/lang/invoke/VarHandle") ∧ (parseMethodDescriptor M'.1.desc).map (fun d => d.parameters.length) = some n ∧ M'.2.2.2.2 = [] ∧ M'.1.cls = RJ5
def calU (O : String) (M' : MD) (n : Nat) : Prop := Cond.instanceMethod M'.1 ∈ lw_tbl ∧ Cond.sameMethod M'.1.cls M'.1.cls M'.1.name M'.1.desc ∈ lw_tbl ∧ Cond.superclass O M'.1.cls ∈ lw_tbl ∧ Cond.initialized M'.1.cls ∈ lw_tbl ∧ mw M' ∈ lw_tbl ∧ M'.1.name ≠ "<init>" ∧ (parseMethodDescriptor M'.1.desc).map (fun d => d.parameters.length) = some n ∧ M'.2.2.2.2 = []
section GSB
variable {l : Launch} {G : GG} {M : MD} {d kc ks pc : Nat} {P : Post} {L : List (Option Value)} {st : List Value} {h : AH}
theorem g_callQ {M' : MD} {d' mc' ms' idx n : Nat} {as rest stk : List Value} {P' : Post} {ci nF b s0 g0 : Nat} {C : String} {T9 : u_T} {ty : Nat → FieldType} {fs : List Value} (hEv : Ev l G d' mc' ms' M' (.ref b :: as) h P') (hd : decode M.2.1 pc = .ok (.invokevirtual idx, 3)) (hm : Cond.methodLink M.1.cls idx M'.1 ∈ lw_tbl) (K : calQ C M' n) (Kc : clsOk ci nF C T9 ty) (hb : h s0 g0 = some (b, .inr (ci, fs))) (hn : as.length = n) (hst : stk = as.reverse ++ .ref b :: rest) (hdd : d' + 1 ≤ d) (hro : (rest.map fun v => v.category).sum + (M'.2.2.1 + 11) + 64 * d' ≤ 64 * d) (hkc : mc' ≤ kc) (hks : ms' ≤ ks)
    (kr : ∀ v h', P' (.inl v) h' → Go l G M d (kc - mc') (ks - ms') P (pc + 3) L (v.toList ++ rest) h') (kx : ∀ E h', P' (.inr E) h' → GoT l G M d (kc - mc') (ks - ms') P pc L E h') : Go l G M d kc ks P pc L stk h := by
  intro p e R s m args below meth c H locs cells slots mc ms ls F h1 h2 h3 h4 hE hS hL
  have hCx := F.cx
  intro T hT X
  obtain ⟨K1, K2, K3, K4, K5, K6, K7⟩ := K
  have hK := ev_back (R := R) (p := p) (e := e) (below := below) (sargs := args) (W9 := (rest.map fun v => v.category).sum) hEv hCx K4 K3 (by rw [F.2.2.2.2.2.2.2.2.1]; exact hdd) (by rw [F.2.2.2.2.2.2.2.2.2.1]; exact hro)
  refine g_after (as := .ref b :: as) F h1 h2 h3 h4 hS hL hT hkc hks ?_ kr kx
  have hr : ∃ cell : Cell, T.heap[b]? = some cell ∧ cell.vm.isStatics = false ∧ s.vm.findClass C = some cell.cls := by
    obtain ⟨r', hr', cell, r1, r2, r3, -⟩ := (hE.1 _ _ _ _ hb).1
    exact ⟨cell, by rw [hT]; exact r1, by rw [r3]; rfl, by rw [r2]; exact (hCx.2.1.1 ci _ Kc.1).2.1⟩
  obtain ⟨cellB, hcB, hoB, hclB⟩ := hr
  obtain ⟨y, cc, maxL, ret, tb⟩ := M'
  cases K7
  exact vx_callV X F.1 (C := C) (bytes := cc) (maxL := maxL) (ret := ret) F.own (hCx.word hm rfl args) (hCx.word K1 rfl args) (hCx.word K2 rfl args) (hCx.word (w := .code y cc maxL ret) K4 rfl args) K5 hK hcB hoB hclB (g := F0 m pc ls stk) rfl (hL.1.trans F.2.2.2.1.symm) (argsL := as) (rest := rest) (fun sig hsig => by have h2 := K6; rw [hsig] at h2; exact hn.trans (Option.some.inj h2).symm) hst (by show 2 * 0 + _ ≤ _; omega) (by rw [F.2.1]; exact hd) (g_pre hCx hE hS hT (by omega) (by omega))
theorem g_callP {M' : MD} {d' mc' ms' idx n : Nat} {as rest stk : List Value} {P' : Post} {ci nF b s0 g0 : Nat} {C : String} {T9 : u_T} {ty : Nat → FieldType} {fs : List Value} (hEv : Ev l G d' mc' ms' M' (.ref b :: as) h P') (hd : decode M.2.1 pc = .ok (.invokevirtual idx, 3)) (hm : Cond.methodLink M.1.cls idx M'.1 ∈ lw_tbl) (K : calP C M' n) (Kc : clsOk ci nF C T9 ty) (hb : h s0 g0 = some (b, .inr (ci, fs))) (hn : as.length = n) (hst : stk = as.reverse ++ .ref b :: rest) (hdd : d' + 1 ≤ d) (hro : (rest.map fun v => v.category).sum + (M'.2.2.1 + 11) + 64 * d' ≤ 64 * d) (hkc : mc' ≤ kc) (hks : ms' ≤ ks)
    (kr : ∀ v h', P' (.inl v) h' → Go l G M d (kc - mc') (ks - ms') P (pc + 3) L (v.toList ++ rest) h') (kx : ∀ E h', P' (.inr E) h' → GoT l G M d (kc - mc') (ks - ms') P pc L E h') : Go l G M d kc ks P pc L stk h := by
  intro p e R s m args below meth c H locs cells slots mc ms ls F h1 h2 h3 h4 hE hS hL
  have hCx := F.cx
  intro T hT X
  obtain ⟨K1, K2, K3, K4, K5, K6, K7, K8⟩ := K
  obtain ⟨c9, r9, m9, e1, e2, e3, e4, kP, e5, e6⟩ := Cond.selects_spec (hCx.word w_sel_isLatin1 rfl args)
  have hK := ev_back (R := R) (p := p) (e := e) (below := below) (sargs := args) (W9 := (rest.map fun v => v.category).sum) hEv hCx K4 K3 (by rw [F.2.2.2.2.2.2.2.2.1]; exact hdd) (by rw [F.2.2.2.2.2.2.2.2.2.1]; exact hro)
  refine g_after (as := .ref b :: as) F h1 h2 h3 h4 hS hL hT hkc hks ?_ kr kx
  have hr : ∃ cell : Cell, T.heap[b]? = some cell ∧ cell.vm.isStatics = false ∧ s.vm.findClass C = some cell.cls := by
    obtain ⟨r', hr', cell, r1, r2, r3, -⟩ := (hE.1 _ _ _ _ hb).1
    exact ⟨cell, by rw [hT]; exact r1, by rw [r3]; rfl, by rw [r2]; exact (hCx.2.1.1 ci _ Kc.1).2.1⟩
  obtain ⟨cellB, hcB, hoB, hclB⟩ := hr
  obtain ⟨y, cc, maxL, ret, tb⟩ := M'
  cases K7
  exact sx_callVP X F.1 (bytes := cc) (maxL := maxL) (ret := ret) F.own (hCx.word hm rfl args) (hCx.word K1 rfl args) (hCx.word K2 rfl args) (hCx.word (w := .code y cc maxL ret) K4 rfl args) K5 hK hcB hoB (by rw [show y.cls = _ from K8]; exact findClass_of_methodNamed e3) e5 e6 (g := F0 m pc ls stk) rfl (hL.1.trans F.2.2.2.1.symm) (argsL := as) (rest := rest) (fun sig hsig => by have h2 := K6; rw [hsig] at h2; exact hn.trans (Option.some.inj h2).symm) hst (by show 2 * 0 + _ ≤ _; omega) (by rw [F.2.1]; exact hd) (g_pre hCx hE hS hT (by omega) (by omega))
theorem g_callU {M' : MD} {d' mc' ms' idx n : Nat} {as rest stk : List Value} {P' : Post} {ci nF b s0 g0 : Nat} {C : String} {T9 : u_T} {ty : Nat → FieldType} {fs : List Value} (hEv : Ev l G d' mc' ms' M' (.ref b :: as) h P') (hd : decode M.2.1 pc = .ok (.invokespecial idx, 3)) (hm : Cond.methodLink M.1.cls idx M'.1 ∈ lw_tbl) (K : calU M.1.cls M' n) (Kc : clsOk ci nF C T9 ty) (hb : h s0 g0 = some (b, .inr (ci, fs))) (hn : as.length = n) (hst : stk = as.reverse ++ .ref b :: rest) (hdd : d' + 1 ≤ d) (hro : (rest.map fun v => v.category).sum + (M'.2.2.1 + 11) + 64 * d' ≤ 64 * d) (hkc : mc' ≤ kc) (hks : ms' ≤ ks)
    (kr : ∀ v h', P' (.inl v) h' → Go l G M d (kc - mc') (ks - ms') P (pc + 3) L (v.toList ++ rest) h') (kx : ∀ E h', P' (.inr E) h' → GoT l G M d (kc - mc') (ks - ms') P pc L E h') : Go l G M d kc ks P pc L stk h := by
  intro p e R s m args below meth c H locs cells slots mc ms ls F h1 h2 h3 h4 hE hS hL
  have hCx := F.cx
  intro T hT X
  obtain ⟨K1, K2, K3, K4, K5, K6, K7, K8⟩ := K
  have hK := ev_back (R := R) (p := p) (e := e) (below := below) (sargs := args) (W9 := (rest.map fun v => v.category).sum) hEv hCx K5 K4 (by rw [F.2.2.2.2.2.2.2.2.1]; exact hdd) (by rw [F.2.2.2.2.2.2.2.2.2.1]; exact hro)
  refine g_after (as := .ref b :: as) F h1 h2 h3 h4 hS hL hT hkc hks ?_ kr kx
  have hr : ∃ cell : Cell, T.heap[b]? = some cell ∧ cell.vm.isStatics = false ∧ s.vm.findClass C = some cell.cls := by
    obtain ⟨r', hr', cell, r1, r2, r3, -⟩ := (hE.1 _ _ _ _ hb).1
    exact ⟨cell, by rw [hT]; exact r1, by rw [r3]; rfl, by rw [r2]; exact (hCx.2.1.1 ci _ Kc.1).2.1⟩
  obtain ⟨cellB, hcB, hoB, hclB⟩ := hr
  obtain ⟨-, hfc, kC, hkC, -⟩ := hCx.2.1.1 ci _ Kc.1
  have hcc := Option.some.inj (hclB.symm.trans hfc)
  have hkB : s.vm.classes[cellB.cls]? = some kC := by rw [hcc]; exact hkC
  obtain ⟨y, cc, maxL, ret, tb⟩ := M'
  cases K8
  exact sx_callSU X F.1 (bytes := cc) (maxL := maxL) (ret := ret) F.own (hCx.word hm rfl args) (hCx.word K2 rfl args) (hCx.word K3 rfl args) (hCx.word K1 rfl args) (hCx.word (w := .code y cc maxL ret) K5 rfl args) K6 hK hcB hoB hkB (g := F0 m pc ls stk) rfl (hL.1.trans F.2.2.2.1.symm) (argsL := as) (rest := rest) (fun sig hsig => by have h2 := K7; rw [hsig] at h2; exact hn.trans (Option.some.inj h2).symm) hst (by show 2 * 0 + _ ≤ _; omega) (by rw [F.2.1]; exact hd) (g_pre hCx hE hS hT (by omega) (by omega))
/-- a method of a reading word -/
theorem g_callR {M' : MD} {d' mc' ms' idx n i : Nat} {as rest stk : List Value} {P' : Post} (hEv : Ev l G d' mc' ms' M' (.ref (gK G i) :: as) h P') (hd : decode M.2.1 pc = .ok (.invokevirtual idx, 3)) (hm : Cond.methodLink M.1.cls idx M'.1 ∈ lw_tbl) (K : calV M' n) (hC : M'.1.cls = "java/lang/String") (htb : M'.2.2.2.2 = []) (hi : i < 4) (hn : as.length = n) (hst : stk = as.reverse ++ .ref (gK G i) :: rest) (hdd : d' + 1 ≤ d) (hro : (rest.map fun v => v.category).sum + (M'.2.2.1 + 11) + 64 * d' ≤ 64 * d) (hkc : mc' ≤ kc) (hks : ms' ≤ ks)
    (kr : ∀ v h', P' (.inl v) h' → Go l G M d (kc - mc') (ks - ms') P (pc + 3) L (v.toList ++ rest) h') (kx : ∀ E h', P' (.inr E) h' → GoT l G M d (kc - mc') (ks - ms') P pc L E h') : Go l G M d kc ks P pc L stk h := by
  intro p e R s m args below meth c H locs cells slots mc ms ls F h1 h2 h3 h4 hE hS hL
  have hCx := F.cx
  intro T hT X
  obtain ⟨K1, K2, K3, K4, K5, K6⟩ := K
  have hK := ev_back (R := R) (p := p) (e := e) (below := below) (sargs := args) (W9 := (rest.map fun v => v.category).sum) hEv hCx K4 K3 (by rw [F.2.2.2.2.2.2.2.2.1]; exact hdd) (by rw [F.2.2.2.2.2.2.2.2.2.1]; exact hro)
  refine g_after (as := .ref (gK G i) :: as) F h1 h2 h3 h4 hS hL hT hkc hks ?_ kr kx
  obtain ⟨cellB, hcB, hoB, hclB⟩ := vk_recv hCx.2.2.2.2.2.2.2.2.2.2.2.2.2.2.2.1 hi hS
  obtain ⟨y, cc, maxL, ret, tb⟩ := M'
  cases htb
  exact vx_callV X F.1 (C := y.cls) (bytes := cc) (maxL := maxL) (ret := ret) F.own (hCx.word hm rfl args) (hCx.word K1 rfl args) (hCx.word K2 rfl args) (hCx.word (w := .code y cc maxL ret) K4 rfl args) K5 hK (by rw [hT]; exact hcB) hoB (by rw [show y.cls = _ from hC]; exact hclB) (g := F0 m pc ls stk) rfl (hL.1.trans F.2.2.2.1.symm) (argsL := as) (rest := rest) (fun sig hsig => by have h2 := K6; rw [hsig] at h2; exact hn.trans (Option.some.inj h2).symm) hst (by show 2 * 0 + _ ≤ _; omega) (by rw [F.2.1]; exact hd) (g_pre hCx hE hS hT (by omega) (by omega))
/-- statics -/
theorem g_compact {idx : Nat} (hd : decode M.2.1 pc = .ok (.getstatic idx, 3)) (hm : Cond.fieldLink M.1.cls idx "java/lang/String" "COMPACT_STRINGS" "Z" ∈ lw_tbl) (k : Go l G M d kc ks P (pc + 3) L (.int 1 :: st) h) : Go l G M d kc ks P pc L st h := by
  intro p e R s m args below meth c H locs cells slots mc ms ls F h1 h2 h3 h4 hE hS hL
  have hCx := F.cx
  exact va_gets F.1 F.2.1 hCx.2.2.2.2.2.2.2.2.2.2.2.2.1 hS F.own (hCx.word hm rfl args) (fun _ q => q) hd (k _ _ _ _ _ _ _ _ _ _ _ _ _ _ _ _ F h1 h2 h3 h4 hE hS hL)
theorem g_former {idx : Nat} (hd : decode M.2.1 pc = .ok (.getstatic idx, 3)) (hm : Cond.fieldLink M.1.cls idx "jdk/internal/util/Preconditions" "SIOOBE_FORMATTER" "Ljava/util/function/BiFunction;" ∈ lw_tbl) (k0 : Go l G M d kc ks P (pc + 3) L (.null :: st) h) (k : ∀ t, Go l G M d kc ks P (pc + 3) L (.ref t :: st) h) : Go l G M d kc ks P pc L st h := by
  intro p e R s m args below meth c H locs cells slots mc ms ls F h1 h2 h3 h4 hE hS hL
  have hCx := F.cx
  rcases hCx.2.2.2.2.2.2.2.2.2.2.2.2.2.2.2.2 with hZ | ⟨t, hZ⟩
  · exact va_gets F.1 F.2.1 hZ hS F.own (hCx.word hm rfl args) (fun _ q => q) hd (k0 _ _ _ _ _ _ _ _ _ _ _ _ _ _ _ _ F h1 h2 h3 h4 hE hS hL)
  · exact va_gets F.1 F.2.1 hZ hS F.own (hCx.word hm rfl args) (fun _ q => q) hd (k t _ _ _ _ _ _ _ _ _ _ _ _ _ _ _ _ F h1 h2 h3 h4 hE hS hL)

/-- a static table's entry: getstatic, then the index's instruction, then baload -/
theorem g_tens {idx i j ln : Nat} {x : Int32} (hd : decode M.2.1 pc = .ok (.getstatic idx, 3)) (hm : Cond.fieldLink M.1.cls idx "java/lang/Integer" "DigitTens" "[B" ∈ lw_tbl) (hd1 : decode M.2.1 (pc + 3) = .ok (.iload i, 2)) (hl : lk L i = some (.int x)) (hd2 : decode M.2.1 (pc + 5) = .ok (.baload, 1)) (hi : ix x j) (hj : j < 100)
    (k : Go l G M d kc ks P (pc + 6) L (.int (Int32.ofNat (48 + j / 10)) :: st) h) : Go l G M d kc ks P pc L st h := by
  intro p e R s m args below meth c H locs cells slots mc ms ls F h1 h2 h3 h4 hE hS hL
  have hCx := F.cx
  obtain ⟨t, hZ, hT⟩ := hCx.2.2.2.2.2.2.2.2.2.2.2.2.2.1
  refine va_gets F.1 F.2.1 hZ hS F.own (hCx.word hm rfl args) (fun _ q => q) hd ?_
  refine lv_iload F.1 F.2.1 hd1 (hL.at hl) ?_
  exact va_tb F.1 F.2.1 hT hS (hi.in hj) (by rw [hi.2]) hd2 (k _ _ _ _ _ _ _ _ _ _ _ _ _ _ _ _ F h1 h2 h3 h4 hE hS hL)
/-- the same with the index from a negated local -/
theorem g_tensN {idx j : Nat} {x : Int32} (hd : decode M.2.1 pc = .ok (.getstatic idx, 3)) (hm : Cond.fieldLink M.1.cls idx "java/lang/Integer" "DigitTens" "[B" ∈ lw_tbl) (hd1 : decode M.2.1 (pc + 3) = .ok (.iload_n 0, 1)) (hl : lk L 0 = some (.int x)) (hd2 : decode M.2.1 (pc + 4) = .ok (.ineg, 1)) (hd3 : decode M.2.1 (pc + 5) = .ok (.baload, 1)) (hi : ix (-x) j) (hj : j < 100)
    (k : Go l G M d kc ks P (pc + 6) L (.int (Int32.ofNat (48 + j / 10)) :: st) h) : Go l G M d kc ks P pc L st h := by
  intro p e R s m args below meth c H locs cells slots mc ms ls F h1 h2 h3 h4 hE hS hL
  have hCx := F.cx
  obtain ⟨t, hZ, hT⟩ := hCx.2.2.2.2.2.2.2.2.2.2.2.2.2.1
  refine va_gets F.1 F.2.1 hZ hS F.own (hCx.word hm rfl args) (fun _ q => q) hd ?_
  refine lv_iload_n F.1 F.2.1 hd1 rfl (hL.at hl) ?_
  refine lv_ineg F.1 F.2.1 hd2 ?_
  exact va_tb F.1 F.2.1 hT hS (hi.in hj) (by rw [hi.2]) hd3 (k _ _ _ _ _ _ _ _ _ _ _ _ _ _ _ _ F h1 h2 h3 h4 hE hS hL)
/-- a static table's entry: getstatic, then the index's instruction, then baload -/
theorem g_ones {idx i j ln : Nat} {x : Int32} (hd : decode M.2.1 pc = .ok (.getstatic idx, 3)) (hm : Cond.fieldLink M.1.cls idx "java/lang/Integer" "DigitOnes" "[B" ∈ lw_tbl) (hd1 : decode M.2.1 (pc + 3) = .ok (.iload i, 2)) (hl : lk L i = some (.int x)) (hd2 : decode M.2.1 (pc + 5) = .ok (.baload, 1)) (hi : ix x j) (hj : j < 100)
    (k : Go l G M d kc ks P (pc + 6) L (.int (Int32.ofNat (48 + j % 10)) :: st) h) : Go l G M d kc ks P pc L st h := by
  intro p e R s m args below meth c H locs cells slots mc ms ls F h1 h2 h3 h4 hE hS hL
  have hCx := F.cx
  obtain ⟨t, hZ, hT⟩ := hCx.2.2.2.2.2.2.2.2.2.2.2.2.2.2.1
  refine va_gets F.1 F.2.1 hZ hS F.own (hCx.word hm rfl args) (fun _ q => q) hd ?_
  refine lv_iload F.1 F.2.1 hd1 (hL.at hl) ?_
  exact va_tb F.1 F.2.1 hT hS (hi.in hj) (by rw [hi.2]) hd2 (k _ _ _ _ _ _ _ _ _ _ _ _ _ _ _ _ F h1 h2 h3 h4 hE hS hL)
/-- the same with the index from a negated local -/
theorem g_onesN {idx j : Nat} {x : Int32} (hd : decode M.2.1 pc = .ok (.getstatic idx, 3)) (hm : Cond.fieldLink M.1.cls idx "java/lang/Integer" "DigitOnes" "[B" ∈ lw_tbl) (hd1 : decode M.2.1 (pc + 3) = .ok (.iload_n 0, 1)) (hl : lk L 0 = some (.int x)) (hd2 : decode M.2.1 (pc + 4) = .ok (.ineg, 1)) (hd3 : decode M.2.1 (pc + 5) = .ok (.baload, 1)) (hi : ix (-x) j) (hj : j < 100)
    (k : Go l G M d kc ks P (pc + 6) L (.int (Int32.ofNat (48 + j % 10)) :: st) h) : Go l G M d kc ks P pc L st h := by
  intro p e R s m args below meth c H locs cells slots mc ms ls F h1 h2 h3 h4 hE hS hL
  have hCx := F.cx
  obtain ⟨t, hZ, hT⟩ := hCx.2.2.2.2.2.2.2.2.2.2.2.2.2.2.1
  refine va_gets F.1 F.2.1 hZ hS F.own (hCx.word hm rfl args) (fun _ q => q) hd ?_
  refine lv_iload_n F.1 F.2.1 hd1 rfl (hL.at hl) ?_
  refine lv_ineg F.1 F.2.1 hd2 ?_
  exact va_tb F.1 F.2.1 hT hS (hi.in hj) (by rw [hi.2]) hd3 (k _ _ _ _ _ _ _ _ _ _ _ _ _ _ _ _ F h1 h2 h3 h4 hE hS hL)
/-! the reading words -/
theorem g_ldcR {idx i : Nat} {tx : String} (hd : decode M.2.1 pc = .ok (.ldc idx, 2)) (hr : ∀ s, Cx G s → vk_R M.1.cls idx tx (gK G i) s) (k : Go l G M d kc ks P (pc + 2) L (.ref (gK G i) :: st) h) : Go l G M d kc ks P pc L st h := by
  intro p e R s m args below meth c H locs cells slots mc ms ls F h1 h2 h3 h4 hE hS hL
  exact va_ldcS F.1 F.2.1 F.own (hr s F.cx) hd (k _ _ _ _ _ _ _ _ _ _ _ _ _ _ _ _ F h1 h2 h3 h4 hE hS hL)
theorem g_coderR {idx i : Nat} (hd : decode M.2.1 pc = .ok (.getfield idx, 3)) (hm : Cond.fieldLink M.1.cls idx "java/lang/String" "coder" "B" ∈ lw_tbl) (hi : i < 4) (k : Go l G M d kc ks P (pc + 3) L (.int 0 :: st) h) : Go l G M d kc ks P pc L (.ref (gK G i) :: st) h := by
  intro p e R s m args below meth c H locs cells slots mc ms ls F h1 h2 h3 h4 hE hS hL
  have hCx := F.cx
  exact vk_getf F.1 F.2.1 (hCx.2.2.2.2.2.2.2.2.2.2.2.2.2.2.2.1.1 i hi).2.1 hS F.own (hCx.word hm rfl args) (fun _ q => q) hd (k _ _ _ _ _ _ _ _ _ _ _ _ _ _ _ _ F h1 h2 h3 h4 hE hS hL)
theorem g_valueR {idx i : Nat} (hd : decode M.2.1 pc = .ok (.getfield idx, 3)) (hm : Cond.fieldLink M.1.cls idx "java/lang/String" "value" "[B" ∈ lw_tbl) (hi : i < 4) (k : Go l G M d kc ks P (pc + 3) L (.ref (gV G i) :: st) h) : Go l G M d kc ks P pc L (.ref (gK G i) :: st) h := by
  intro p e R s m args below meth c H locs cells slots mc ms ls F h1 h2 h3 h4 hE hS hL
  have hCx := F.cx
  exact vk_getf F.1 F.2.1 (hCx.2.2.2.2.2.2.2.2.2.2.2.2.2.2.2.1.1 i hi).2.2.1 hS F.own (hCx.word hm rfl args) (fun _ q => q) hd (k _ _ _ _ _ _ _ _ _ _ _ _ _ _ _ _ F h1 h2 h3 h4 hE hS hL)
theorem g_alenR {i : Nat} (hd : decode M.2.1 pc = .ok (.arraylength, 1)) (hi : i < 4) (k : Go l G M d kc ks P (pc + 1) L (.int (nI (rdLen.getD i 0)) :: st) h) : Go l G M d kc ks P pc L (.ref (gV G i) :: st) h := by
  intro p e R s m args below meth c H locs cells slots mc ms ls F h1 h2 h3 h4 hE hS hL
  have hCx := F.cx
  exact va_tlen F.1 F.2.1 (hCx.2.2.2.2.2.2.2.2.2.2.2.2.2.2.2.1.1 i hi).2.2.2 hS rfl hd (k _ _ _ _ _ _ _ _ _ _ _ _ _ _ _ _ F h1 h2 h3 h4 hE hS hL)
theorem g_baldR {i j : Nat} {x : Int32} (hd : decode M.2.1 pc = .ok (.baload, 1)) (hi : i < 4) (hx : ix x j) (hj : j < rdLen.getD i 0) (k : Go l G M d kc ks P (pc + 1) L (.int ((rdByt.getD i []).getD j 0) :: st) h) : Go l G M d kc ks P pc L (.int x :: .ref (gV G i) :: st) h := by
  intro p e R s m args below meth c H locs cells slots mc ms ls F h1 h2 h3 h4 hE hS hL
  have hCx := F.cx
  exact va_tb F.1 F.2.1 (hCx.2.2.2.2.2.2.2.2.2.2.2.2.2.2.2.1.1 i hi).2.2.2 hS (hx.in hj) (by rw [hx.2]) hd (k _ _ _ _ _ _ _ _ _ _ _ _ _ _ _ _ F h1 h2 h3 h4 hE hS hL)
/-- cells under other roles -/
theorem Go.sub {h' : AH} (f : Nat → Nat → Nat × Nat) (hs : ∀ s g x, h' s g = some x → h (f s g).1 (f s g).2 = some x) (hf : ∀ s g s' g' x x', h' s g = some x → h' s' g' = some x' → f s g = f s' g' → s = s' ∧ g = g') (k : Go l G M d kc ks P pc L st h') : Go l G M d kc ks P pc L st h := by
  intro p e R s m args below meth c H locs cells slots mc ms ls F h1 h2 h3 h4 hE hS hL
  refine k _ _ _ _ _ _ _ _ _ _ _ _ _ _ _ _ F h1 h2 h3 h4 ⟨fun s g a c q => hE.1 _ _ _ _ (hs _ _ _ q), fun s g s' g' a c c' q q' => ?_⟩ hS hL
  have z := hE.2 _ _ _ _ _ _ _ (hs _ _ _ q) (hs _ _ _ q')
  exact hf _ _ _ _ _ _ q q' (Prod.ext z.1 z.2)
/-- contracts that answer a new cell -/
def RtN (F : Nat → AH) : Post := fun o h2 => ∃ a, o = .inl (some (.ref a)) ∧ h2 = F a
end GSB
section KN
variable {l : Launch} {G : GG} {M : MD} {d kc ks pc mc ms : Nat} {P : Post} {L : List (Option Value)} {rest : List Value} {F : Nat → AH}
theorem kr_n (k : ∀ a, Go l G M d (kc - mc) (ks - ms) P pc L (.ref a :: rest) (F a)) : ∀ v2 h2, RtN F (.inl v2) h2 → Go l G M d (kc - mc) (ks - ms) P pc L (v2.toList ++ rest) h2 := by
  rintro v2 h2 ⟨a, e1, rfl⟩
  cases e1
  exact k a
theorem kx_n : ∀ E h2, RtN F (.inr E) h2 → GoT l G M d (kc - mc) (ks - ms) P pc L E h2 := by
  rintro E h2 ⟨a, e1, -⟩
  cases e1
end KN
section KX
variable {α : Type} {l : Launch} {G : GG} {M : MD} {d kc ks pc mc ms : Nat} {P : Post} {L : List (Option Value)} {rest : List Value} {F : α → AH}
theorem kr_xm {v : Value} (k : ∀ c, Go l G M d (kc - mc) (ks - ms) P pc L (v :: rest) (F c)) : ∀ v2 h2, RtX (some v) F (.inl v2) h2 → Go l G M d (kc - mc) (ks - ms) P pc L (v2.toList ++ rest) h2 := by
  rintro v2 h2 ⟨e1, c, rfl⟩
  cases e1
  exact k c
theorem kr_xvm (k : ∀ c, Go l G M d (kc - mc) (ks - ms) P pc L rest (F c)) : ∀ v2 h2, RtX none F (.inl v2) h2 → Go l G M d (kc - mc) (ks - ms) P pc L (v2.toList ++ rest) h2 := by
  rintro v2 h2 ⟨e1, c, rfl⟩
  cases e1
  exact k c
end KX

theorem cqJ5_isLatin1_aae02 : calQ RJ4 mJ5_isLatin1_aae02 0 := ⟨w_instanceMethod_yJ5_isLatin1_aae02, w_sel_isLatin1, w_init_java_lang_AbstractStringBuilder, mwJ5_isLatin1_aae02, by decide +kernel, by decide +kernel, rfl⟩
theorem cpJ5_ensureCapacityInternal_d00df : calP RJ4 mJ5_ensureCapacityInternal_d00df 1 := ⟨w_instanceMethod_yJ5_ensureCapacityInternal_d00df, w_priv_yJ5_ensureCapacityInternal_d00df, w_init_java_lang_AbstractStringBuilder, mwJ5_ensureCapacityInternal_d00df, by decide +kernel, by decide +kernel, rfl, rfl⟩
theorem cpJ5_newCapacity_0f7a4 : calP RJ4 mJ5_newCapacity_0f7a4 1 := ⟨w_instanceMethod_yJ5_newCapacity_0f7a4, w_priv_yJ5_newCapacity_0f7a4, w_init_java_lang_AbstractStringBuilder, mwJ5_newCapacity_0f7a4, by decide +kernel, by decide +kernel, rfl, rfl⟩
theorem cuJ5_length_8abf5 : calU RJ4 mJ5_length_8abf5 0 := ⟨w_instanceMethod_yJ5_length_8abf5, w_same_yJ5_length_8abf5, w_sup_J4, w_init_java_lang_AbstractStringBuilder, mwJ5_length_8abf5, by decide +kernel, by decide +kernel, rfl⟩
theorem cuJ5_append_3fe6f : calU RJ4 mJ5_append_3fe6f 1 := ⟨w_instanceMethod_yJ5_append_3fe6f, w_same_yJ5_append_3fe6f, w_sup_J4, w_init_java_lang_AbstractStringBuilder, mwJ5_append_3fe6f, by decide +kernel, by decide +kernel, rfl⟩
theorem cuJ5_append_c97b9 : calU RJ4 mJ5_append_c97b9 1 := ⟨w_instanceMethod_yJ5_append_c97b9, w_same_yJ5_append_c97b9, w_sup_J4, w_init_java_lang_AbstractStringBuilder, mwJ5_append_c97b9, by decide +kernel, by decide +kernel, rfl⟩
theorem cuJ5_charAt_5068e : calU RJ4 mJ5_charAt_5068e 1 := ⟨w_instanceMethod_yJ5_charAt_5068e, w_same_yJ5_charAt_5068e, w_sup_J4, w_init_java_lang_AbstractStringBuilder, mwJ5_charAt_5068e, by decide +kernel, by decide +kernel, rfl⟩
theorem cuJ5_setLength_d00df : calU RJ4 mJ5_setLength_d00df 1 := ⟨w_instanceMethod_yJ5_setLength_d00df, w_same_yJ5_setLength_d00df, w_sup_J4, w_init_java_lang_AbstractStringBuilder, mwJ5_setLength_d00df, by decide +kernel, by decide +kernel, rfl⟩
