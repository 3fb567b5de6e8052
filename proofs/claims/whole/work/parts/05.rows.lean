/-! A ROW AN INSTRUCTION, over Go (by wip/whole/gen/rows.py). -/
section GR
variable {l : Launch} {G : GG} {M : MD} {d kc ks pc : Nat} {P : Post} {L : List (Option Value)} {st : List Value} {h : AH}
theorem g_iload_n {i0 : Fin 4} {i : Nat} {x : Int32} (hd : decode M.2.1 pc = .ok (.iload_n i0, 1)) (hi : (i0 : Nat) = i) (hv : lk L i = some (.int x)) (k : Go l G M d kc ks P (pc + 1) L (.int x :: st) h) : Go l G M d kc ks P pc L (st) h := by
  intro p e R s m args below meth c H locs cells slots mc ms ls F h1 h2 h3 h4 hE hS hL
  exact lv_iload_n F.1 F.2.1 hd hi (hL.at hv) (k _ _ _ _ _ _ _ _ _ _ _ _ _ _ _ _ F h1 h2 h3 h4 hE hS hL)
theorem g_iload {i : Nat} {x : Int32} (hd : decode M.2.1 pc = .ok (.iload i, 2)) (hv : lk L i = some (.int x)) (k : Go l G M d kc ks P (pc + 2) L (.int x :: st) h) : Go l G M d kc ks P pc L (st) h := by
  intro p e R s m args below meth c H locs cells slots mc ms ls F h1 h2 h3 h4 hE hS hL
  exact lv_iload F.1 F.2.1 hd (hL.at hv) (k _ _ _ _ _ _ _ _ _ _ _ _ _ _ _ _ F h1 h2 h3 h4 hE hS hL)
theorem g_lload_n {i0 : Fin 4} {i : Nat} {x : Int64} (hd : decode M.2.1 pc = .ok (.lload_n i0, 1)) (hi : (i0 : Nat) = i) (hv : lk L i = some (.long x)) (k : Go l G M d kc ks P (pc + 1) L (.long x :: st) h) : Go l G M d kc ks P pc L (st) h := by
  intro p e R s m args below meth c H locs cells slots mc ms ls F h1 h2 h3 h4 hE hS hL
  exact lv_lload_n F.1 F.2.1 hd hi (hL.at hv) (k _ _ _ _ _ _ _ _ _ _ _ _ _ _ _ _ F h1 h2 h3 h4 hE hS hL)
theorem g_lload {i : Nat} {x : Int64} (hd : decode M.2.1 pc = .ok (.lload i, 2)) (hv : lk L i = some (.long x)) (k : Go l G M d kc ks P (pc + 2) L (.long x :: st) h) : Go l G M d kc ks P pc L (st) h := by
  intro p e R s m args below meth c H locs cells slots mc ms ls F h1 h2 h3 h4 hE hS hL
  exact lv_lload F.1 F.2.1 hd (hL.at hv) (k _ _ _ _ _ _ _ _ _ _ _ _ _ _ _ _ F h1 h2 h3 h4 hE hS hL)
theorem g_aload_n {i0 : Fin 4} {i : Nat} {x : Nat} (hd : decode M.2.1 pc = .ok (.aload_n i0, 1)) (hi : (i0 : Nat) = i) (hv : lk L i = some (.ref x)) (k : Go l G M d kc ks P (pc + 1) L (.ref x :: st) h) : Go l G M d kc ks P pc L (st) h := by
  intro p e R s m args below meth c H locs cells slots mc ms ls F h1 h2 h3 h4 hE hS hL
  exact lv_aload_n F.1 F.2.1 hd hi (hL.at hv) (k _ _ _ _ _ _ _ _ _ _ _ _ _ _ _ _ F h1 h2 h3 h4 hE hS hL)
theorem g_aload {i : Nat} {x : Nat} (hd : decode M.2.1 pc = .ok (.aload i, 2)) (hv : lk L i = some (.ref x)) (k : Go l G M d kc ks P (pc + 2) L (.ref x :: st) h) : Go l G M d kc ks P pc L (st) h := by
  intro p e R s m args below meth c H locs cells slots mc ms ls F h1 h2 h3 h4 hE hS hL
  exact lv_aload F.1 F.2.1 hd (hL.at hv) (k _ _ _ _ _ _ _ _ _ _ _ _ _ _ _ _ F h1 h2 h3 h4 hE hS hL)
theorem g_fload_n {i0 : Fin 4} {i : Nat} {x : UInt32} (hd : decode M.2.1 pc = .ok (.fload_n i0, 1)) (hi : (i0 : Nat) = i) (hv : lk L i = some (.float x)) (k : Go l G M d kc ks P (pc + 1) L (.float x :: st) h) : Go l G M d kc ks P pc L (st) h := by
  intro p e R s m args below meth c H locs cells slots mc ms ls F h1 h2 h3 h4 hE hS hL
  exact lv_fload_n F.1 F.2.1 hd hi (hL.at hv) (k _ _ _ _ _ _ _ _ _ _ _ _ _ _ _ _ F h1 h2 h3 h4 hE hS hL)
theorem g_fload {i : Nat} {x : UInt32} (hd : decode M.2.1 pc = .ok (.fload i, 2)) (hv : lk L i = some (.float x)) (k : Go l G M d kc ks P (pc + 2) L (.float x :: st) h) : Go l G M d kc ks P pc L (st) h := by
  intro p e R s m args below meth c H locs cells slots mc ms ls F h1 h2 h3 h4 hE hS hL
  exact lv_fload F.1 F.2.1 hd (hL.at hv) (k _ _ _ _ _ _ _ _ _ _ _ _ _ _ _ _ F h1 h2 h3 h4 hE hS hL)
theorem g_dload_n {i0 : Fin 4} {i : Nat} {x : UInt64} (hd : decode M.2.1 pc = .ok (.dload_n i0, 1)) (hi : (i0 : Nat) = i) (hv : lk L i = some (.double x)) (k : Go l G M d kc ks P (pc + 1) L (.double x :: st) h) : Go l G M d kc ks P pc L (st) h := by
  intro p e R s m args below meth c H locs cells slots mc ms ls F h1 h2 h3 h4 hE hS hL
  exact lv_dload_n F.1 F.2.1 hd hi (hL.at hv) (k _ _ _ _ _ _ _ _ _ _ _ _ _ _ _ _ F h1 h2 h3 h4 hE hS hL)
theorem g_dload {i : Nat} {x : UInt64} (hd : decode M.2.1 pc = .ok (.dload i, 2)) (hv : lk L i = some (.double x)) (k : Go l G M d kc ks P (pc + 2) L (.double x :: st) h) : Go l G M d kc ks P pc L (st) h := by
  intro p e R s m args below meth c H locs cells slots mc ms ls F h1 h2 h3 h4 hE hS hL
  exact lv_dload F.1 F.2.1 hd (hL.at hv) (k _ _ _ _ _ _ _ _ _ _ _ _ _ _ _ _ F h1 h2 h3 h4 hE hS hL)
theorem g_istore_n {i0 : Fin 4} {i : Nat} {x : Int32} (hd : decode M.2.1 pc = .ok (.istore_n i0, 1)) (hi : (i0 : Nat) = i) (hn : i < M.2.2.1) (k : Go l G M d kc ks P (pc + 1) (ps1 L i (.int x)) (st) h) : Go l G M d kc ks P pc L (.int x :: st) h := by
  intro p e R s m args below meth c H locs cells slots mc ms ls F h1 h2 h3 h4 hE hS hL
  exact lv_istore_n (lv := lkAll L) F.1 F.2.1 hd hi hL.has hn rfl (fun ls9 h9 => k _ _ _ _ _ _ _ _ _ _ _ _ _ _ _ ls9 F h1 h2 h3 h4 hE hS (LH.ps1 rfl h9))
theorem g_istore {i : Nat} {x : Int32} (hd : decode M.2.1 pc = .ok (.istore i, 2)) (hn : i < M.2.2.1) (k : Go l G M d kc ks P (pc + 2) (ps1 L i (.int x)) (st) h) : Go l G M d kc ks P pc L (.int x :: st) h := by
  intro p e R s m args below meth c H locs cells slots mc ms ls F h1 h2 h3 h4 hE hS hL
  exact lv_istore (lv := lkAll L) F.1 F.2.1 hd hL.has hn rfl (fun ls9 h9 => k _ _ _ _ _ _ _ _ _ _ _ _ _ _ _ ls9 F h1 h2 h3 h4 hE hS (LH.ps1 rfl h9))
theorem g_astore_n {i0 : Fin 4} {i : Nat} {x : Nat} (hd : decode M.2.1 pc = .ok (.astore_n i0, 1)) (hi : (i0 : Nat) = i) (hn : i < M.2.2.1) (k : Go l G M d kc ks P (pc + 1) (ps1 L i (.ref x)) (st) h) : Go l G M d kc ks P pc L (.ref x :: st) h := by
  intro p e R s m args below meth c H locs cells slots mc ms ls F h1 h2 h3 h4 hE hS hL
  exact lv_astore_n (lv := lkAll L) F.1 F.2.1 hd hi hL.has hn rfl (fun ls9 h9 => k _ _ _ _ _ _ _ _ _ _ _ _ _ _ _ ls9 F h1 h2 h3 h4 hE hS (LH.ps1 rfl h9))
theorem g_astore {i : Nat} {x : Nat} (hd : decode M.2.1 pc = .ok (.astore i, 2)) (hn : i < M.2.2.1) (k : Go l G M d kc ks P (pc + 2) (ps1 L i (.ref x)) (st) h) : Go l G M d kc ks P pc L (.ref x :: st) h := by
  intro p e R s m args below meth c H locs cells slots mc ms ls F h1 h2 h3 h4 hE hS hL
  exact lv_astore (lv := lkAll L) F.1 F.2.1 hd hL.has hn rfl (fun ls9 h9 => k _ _ _ _ _ _ _ _ _ _ _ _ _ _ _ ls9 F h1 h2 h3 h4 hE hS (LH.ps1 rfl h9))
theorem g_fstore_n {i0 : Fin 4} {i : Nat} {x : UInt32} (hd : decode M.2.1 pc = .ok (.fstore_n i0, 1)) (hi : (i0 : Nat) = i) (hn : i < M.2.2.1) (k : Go l G M d kc ks P (pc + 1) (ps1 L i (.float x)) (st) h) : Go l G M d kc ks P pc L (.float x :: st) h := by
  intro p e R s m args below meth c H locs cells slots mc ms ls F h1 h2 h3 h4 hE hS hL
  exact lv_fstore_n (lv := lkAll L) F.1 F.2.1 hd hi hL.has hn rfl (fun ls9 h9 => k _ _ _ _ _ _ _ _ _ _ _ _ _ _ _ ls9 F h1 h2 h3 h4 hE hS (LH.ps1 rfl h9))
theorem g_fstore {i : Nat} {x : UInt32} (hd : decode M.2.1 pc = .ok (.fstore i, 2)) (hn : i < M.2.2.1) (k : Go l G M d kc ks P (pc + 2) (ps1 L i (.float x)) (st) h) : Go l G M d kc ks P pc L (.float x :: st) h := by
  intro p e R s m args below meth c H locs cells slots mc ms ls F h1 h2 h3 h4 hE hS hL
  exact lv_fstore (lv := lkAll L) F.1 F.2.1 hd hL.has hn rfl (fun ls9 h9 => k _ _ _ _ _ _ _ _ _ _ _ _ _ _ _ ls9 F h1 h2 h3 h4 hE hS (LH.ps1 rfl h9))
theorem g_lstore_n {i0 : Fin 4} {i : Nat} {x : Int64} (hd : decode M.2.1 pc = .ok (.lstore_n i0, 1)) (hi : (i0 : Nat) = i) (hn : i + 1 < M.2.2.1) (k : Go l G M d kc ks P (pc + 1) (ps2 L i (.long x)) (st) h) : Go l G M d kc ks P pc L (.long x :: st) h := by
  intro p e R s m args below meth c H locs cells slots mc ms ls F h1 h2 h3 h4 hE hS hL
  exact lv_lstore_n (lv := lkAll L) F.1 F.2.1 hd hi hL.has hn rfl (fun ls9 h9 => k _ _ _ _ _ _ _ _ _ _ _ _ _ _ _ ls9 F h1 h2 h3 h4 hE hS (LH.ps2 rfl h9))
theorem g_lstore {i : Nat} {x : Int64} (hd : decode M.2.1 pc = .ok (.lstore i, 2)) (hn : i + 1 < M.2.2.1) (k : Go l G M d kc ks P (pc + 2) (ps2 L i (.long x)) (st) h) : Go l G M d kc ks P pc L (.long x :: st) h := by
  intro p e R s m args below meth c H locs cells slots mc ms ls F h1 h2 h3 h4 hE hS hL
  exact lv_lstore (lv := lkAll L) F.1 F.2.1 hd hL.has hn rfl (fun ls9 h9 => k _ _ _ _ _ _ _ _ _ _ _ _ _ _ _ ls9 F h1 h2 h3 h4 hE hS (LH.ps2 rfl h9))
theorem g_dstore_n {i0 : Fin 4} {i : Nat} {x : UInt64} (hd : decode M.2.1 pc = .ok (.dstore_n i0, 1)) (hi : (i0 : Nat) = i) (hn : i + 1 < M.2.2.1) (k : Go l G M d kc ks P (pc + 1) (ps2 L i (.double x)) (st) h) : Go l G M d kc ks P pc L (.double x :: st) h := by
  intro p e R s m args below meth c H locs cells slots mc ms ls F h1 h2 h3 h4 hE hS hL
  exact lv_dstore_n (lv := lkAll L) F.1 F.2.1 hd hi hL.has hn rfl (fun ls9 h9 => k _ _ _ _ _ _ _ _ _ _ _ _ _ _ _ ls9 F h1 h2 h3 h4 hE hS (LH.ps2 rfl h9))
theorem g_dstore {i : Nat} {x : UInt64} (hd : decode M.2.1 pc = .ok (.dstore i, 2)) (hn : i + 1 < M.2.2.1) (k : Go l G M d kc ks P (pc + 2) (ps2 L i (.double x)) (st) h) : Go l G M d kc ks P pc L (.double x :: st) h := by
  intro p e R s m args below meth c H locs cells slots mc ms ls F h1 h2 h3 h4 hE hS hL
  exact lv_dstore (lv := lkAll L) F.1 F.2.1 hd hL.has hn rfl (fun ls9 h9 => k _ _ _ _ _ _ _ _ _ _ _ _ _ _ _ ls9 F h1 h2 h3 h4 hE hS (LH.ps2 rfl h9))
theorem g_iinc {i : Nat} {n : Int} {x w v : Int32} (hd : decode M.2.1 pc = .ok (.iinc i n, 3)) (hw : Int32.ofInt n = w) (hx : lk L i = some (.int x)) (hv : x + w = v) (hn : i < M.2.2.1) (k : Go l G M d kc ks P (pc + 3) (ps1 L i (.int v)) st h) : Go l G M d kc ks P pc L st h := by
  intro p e R s m args below meth c H locs cells slots mc ms ls F h1 h2 h3 h4 hE hS hL
  obtain ⟨j, hj⟩ := List.getElem?_of_mem (mem_lkAll.mpr (show lk L (i, Value.int x).1 = some (i, Value.int x).2 from hx))
  exact lv_iinc (lv := lkAll L) (k := j) F.1 F.2.1 hd hL.has hj (by rw [hw]; exact hv) hn rfl (fun ls9 h9 => k _ _ _ _ _ _ _ _ _ _ _ _ _ _ _ ls9 F h1 h2 h3 h4 hE hS (LH.ps1 rfl h9))
theorem g_iconst {n : Int} {v : Int32} (hd : decode M.2.1 pc = .ok (.iconst n, 1)) (hv : Int32.ofInt n = v) (k : Go l G M d kc ks P (pc + 1) L (.int v :: st) h) : Go l G M d kc ks P pc L (st) h := by
  intro p e R s m args below meth c H locs cells slots mc ms ls F h1 h2 h3 h4 hE hS hL
  exact lv_iconst F.1 F.2.1 hd hv (k _ _ _ _ _ _ _ _ _ _ _ _ _ _ _ _ F h1 h2 h3 h4 hE hS hL)
theorem g_bipush {n : Int} {v : Int32} (hd : decode M.2.1 pc = .ok (.bipush n, 2)) (hv : (Int8.ofInt n).toInt32 = v) (k : Go l G M d kc ks P (pc + 2) L (.int v :: st) h) : Go l G M d kc ks P pc L (st) h := by
  intro p e R s m args below meth c H locs cells slots mc ms ls F h1 h2 h3 h4 hE hS hL
  exact lv_bipush F.1 F.2.1 hd hv (k _ _ _ _ _ _ _ _ _ _ _ _ _ _ _ _ F h1 h2 h3 h4 hE hS hL)
theorem g_sipush {n : Int} {v : Int32} (hd : decode M.2.1 pc = .ok (.sipush n, 3)) (hv : (Int16.ofInt n).toInt32 = v) (k : Go l G M d kc ks P (pc + 3) L (.int v :: st) h) : Go l G M d kc ks P pc L (st) h := by
  intro p e R s m args below meth c H locs cells slots mc ms ls F h1 h2 h3 h4 hE hS hL
  exact lv_sipush F.1 F.2.1 hd hv (k _ _ _ _ _ _ _ _ _ _ _ _ _ _ _ _ F h1 h2 h3 h4 hE hS hL)
theorem g_lconst {n : Fin 2} {v : Int64} (hd : decode M.2.1 pc = .ok (.lconst n, 1)) (hv : Int64.ofNat (n : Nat) = v) (k : Go l G M d kc ks P (pc + 1) L (.long v :: st) h) : Go l G M d kc ks P pc L (st) h := by
  intro p e R s m args below meth c H locs cells slots mc ms ls F h1 h2 h3 h4 hE hS hL
  exact lv_lconst F.1 F.2.1 hd hv (k _ _ _ _ _ _ _ _ _ _ _ _ _ _ _ _ F h1 h2 h3 h4 hE hS hL)
theorem g_dconst0  (hd : decode M.2.1 pc = .ok (.dconst 0, 1)) (k : Go l G M d kc ks P (pc + 1) L (.double 0 :: st) h) : Go l G M d kc ks P pc L (st) h := by
  intro p e R s m args below meth c H locs cells slots mc ms ls F h1 h2 h3 h4 hE hS hL
  exact lv_dconst0 F.1 F.2.1 hd (k _ _ _ _ _ _ _ _ _ _ _ _ _ _ _ _ F h1 h2 h3 h4 hE hS hL)
theorem g_fconst0  (hd : decode M.2.1 pc = .ok (.fconst 0, 1)) (k : Go l G M d kc ks P (pc + 1) L (.float 0 :: st) h) : Go l G M d kc ks P pc L (st) h := by
  intro p e R s m args below meth c H locs cells slots mc ms ls F h1 h2 h3 h4 hE hS hL
  exact lv_fconst0 F.1 F.2.1 hd (k _ _ _ _ _ _ _ _ _ _ _ _ _ _ _ _ F h1 h2 h3 h4 hE hS hL)
theorem g_ldc {idx : Nat} {v : Int32} (hd : decode M.2.1 pc = .ok (.ldc idx, 2)) (hm : Cond.constant M.1.cls idx v ∈ lw_tbl) (k : Go l G M d kc ks P (pc + 2) L (.int v :: st) h) : Go l G M d kc ks P pc L (st) h := by
  intro p e R s m args below meth c H locs cells slots mc ms ls F h1 h2 h3 h4 hE hS hL
  exact lv_ldc F.1 F.2.1 F.2.2.2.2.2.1 (F.2.2.2.2.2.2.2.2.2.2.1.word hm rfl _) hd (k _ _ _ _ _ _ _ _ _ _ _ _ _ _ _ _ F h1 h2 h3 h4 hE hS hL)
theorem g_ldcw {idx : Nat} {v : Int32} (hd : decode M.2.1 pc = .ok (.ldc_w idx, 3)) (hm : Cond.constant M.1.cls idx v ∈ lw_tbl) (k : Go l G M d kc ks P (pc + 3) L (.int v :: st) h) : Go l G M d kc ks P pc L (st) h := by
  intro p e R s m args below meth c H locs cells slots mc ms ls F h1 h2 h3 h4 hE hS hL
  exact lv_ldcw F.1 F.2.1 F.2.2.2.2.2.1 (F.2.2.2.2.2.2.2.2.2.2.1.word hm rfl _) hd (k _ _ _ _ _ _ _ _ _ _ _ _ _ _ _ _ F h1 h2 h3 h4 hE hS hL)
theorem g_ldc2 {idx : Nat} {v : Int64} (hd : decode M.2.1 pc = .ok (.ldc2_w idx, 3)) (hm : Cond.constantLong M.1.cls idx v ∈ lw_tbl) (k : Go l G M d kc ks P (pc + 3) L (.long v :: st) h) : Go l G M d kc ks P pc L (st) h := by
  intro p e R s m args below meth c H locs cells slots mc ms ls F h1 h2 h3 h4 hE hS hL
  exact lv_ldc2 F.1 F.2.1 F.2.2.2.2.2.1 (F.2.2.2.2.2.2.2.2.2.2.1.word hm rfl _) hd (k _ _ _ _ _ _ _ _ _ _ _ _ _ _ _ _ F h1 h2 h3 h4 hE hS hL)
theorem g_ldcf {idx : Nat} {v : UInt32} (hd : decode M.2.1 pc = .ok (.ldc idx, 2)) (hm : Cond.constantFloat M.1.cls idx v ∈ lw_tbl) (k : Go l G M d kc ks P (pc + 2) L (.float v :: st) h) : Go l G M d kc ks P pc L (st) h := by
  intro p e R s m args below meth c H locs cells slots mc ms ls F h1 h2 h3 h4 hE hS hL
  exact lv_ldcf F.1 F.2.1 F.2.2.2.2.2.1 (F.2.2.2.2.2.2.2.2.2.2.1.word hm rfl _) hd (k _ _ _ _ _ _ _ _ _ _ _ _ _ _ _ _ F h1 h2 h3 h4 hE hS hL)
theorem g_iadd {x y : Int32} (hd : decode M.2.1 pc = .ok (.iadd, 1)) (k : Go l G M d kc ks P (pc + 1) L (.int (x + y) :: st) h) : Go l G M d kc ks P pc L (.int y :: .int x :: st) h := by
  intro p e R s m args below meth c H locs cells slots mc ms ls F h1 h2 h3 h4 hE hS hL
  exact lv_iadd F.1 F.2.1 hd (k _ _ _ _ _ _ _ _ _ _ _ _ _ _ _ _ F h1 h2 h3 h4 hE hS hL)
theorem g_isub {x y : Int32} (hd : decode M.2.1 pc = .ok (.isub, 1)) (k : Go l G M d kc ks P (pc + 1) L (.int (x - y) :: st) h) : Go l G M d kc ks P pc L (.int y :: .int x :: st) h := by
  intro p e R s m args below meth c H locs cells slots mc ms ls F h1 h2 h3 h4 hE hS hL
  exact lv_isub F.1 F.2.1 hd (k _ _ _ _ _ _ _ _ _ _ _ _ _ _ _ _ F h1 h2 h3 h4 hE hS hL)
theorem g_imul {x y : Int32} (hd : decode M.2.1 pc = .ok (.imul, 1)) (k : Go l G M d kc ks P (pc + 1) L (.int (x * y) :: st) h) : Go l G M d kc ks P pc L (.int y :: .int x :: st) h := by
  intro p e R s m args below meth c H locs cells slots mc ms ls F h1 h2 h3 h4 hE hS hL
  exact lv_imul F.1 F.2.1 hd (k _ _ _ _ _ _ _ _ _ _ _ _ _ _ _ _ F h1 h2 h3 h4 hE hS hL)
theorem g_iand {x y : Int32} (hd : decode M.2.1 pc = .ok (.iand, 1)) (k : Go l G M d kc ks P (pc + 1) L (.int (x &&& y) :: st) h) : Go l G M d kc ks P pc L (.int y :: .int x :: st) h := by
  intro p e R s m args below meth c H locs cells slots mc ms ls F h1 h2 h3 h4 hE hS hL
  exact lv_iand F.1 F.2.1 hd (k _ _ _ _ _ _ _ _ _ _ _ _ _ _ _ _ F h1 h2 h3 h4 hE hS hL)
theorem g_ior {x y : Int32} (hd : decode M.2.1 pc = .ok (.ior, 1)) (k : Go l G M d kc ks P (pc + 1) L (.int (x ||| y) :: st) h) : Go l G M d kc ks P pc L (.int y :: .int x :: st) h := by
  intro p e R s m args below meth c H locs cells slots mc ms ls F h1 h2 h3 h4 hE hS hL
  exact lv_ior F.1 F.2.1 hd (k _ _ _ _ _ _ _ _ _ _ _ _ _ _ _ _ F h1 h2 h3 h4 hE hS hL)
theorem g_ixor {x y : Int32} (hd : decode M.2.1 pc = .ok (.ixor, 1)) (k : Go l G M d kc ks P (pc + 1) L (.int (x ^^^ y) :: st) h) : Go l G M d kc ks P pc L (.int y :: .int x :: st) h := by
  intro p e R s m args below meth c H locs cells slots mc ms ls F h1 h2 h3 h4 hE hS hL
  exact lv_ixor F.1 F.2.1 hd (k _ _ _ _ _ _ _ _ _ _ _ _ _ _ _ _ F h1 h2 h3 h4 hE hS hL)
theorem g_ladd {x y : Int64} (hd : decode M.2.1 pc = .ok (.ladd, 1)) (k : Go l G M d kc ks P (pc + 1) L (.long (x + y) :: st) h) : Go l G M d kc ks P pc L (.long y :: .long x :: st) h := by
  intro p e R s m args below meth c H locs cells slots mc ms ls F h1 h2 h3 h4 hE hS hL
  exact lv_ladd F.1 F.2.1 hd (k _ _ _ _ _ _ _ _ _ _ _ _ _ _ _ _ F h1 h2 h3 h4 hE hS hL)
theorem g_lsub {x y : Int64} (hd : decode M.2.1 pc = .ok (.lsub, 1)) (k : Go l G M d kc ks P (pc + 1) L (.long (x - y) :: st) h) : Go l G M d kc ks P pc L (.long y :: .long x :: st) h := by
  intro p e R s m args below meth c H locs cells slots mc ms ls F h1 h2 h3 h4 hE hS hL
  exact lv_lsub F.1 F.2.1 hd (k _ _ _ _ _ _ _ _ _ _ _ _ _ _ _ _ F h1 h2 h3 h4 hE hS hL)
theorem g_land {x y : Int64} (hd : decode M.2.1 pc = .ok (.land, 1)) (k : Go l G M d kc ks P (pc + 1) L (.long (x &&& y) :: st) h) : Go l G M d kc ks P pc L (.long y :: .long x :: st) h := by
  intro p e R s m args below meth c H locs cells slots mc ms ls F h1 h2 h3 h4 hE hS hL
  exact lv_land F.1 F.2.1 hd (k _ _ _ _ _ _ _ _ _ _ _ _ _ _ _ _ F h1 h2 h3 h4 hE hS hL)
theorem g_lor {x y : Int64} (hd : decode M.2.1 pc = .ok (.lor, 1)) (k : Go l G M d kc ks P (pc + 1) L (.long (x ||| y) :: st) h) : Go l G M d kc ks P pc L (.long y :: .long x :: st) h := by
  intro p e R s m args below meth c H locs cells slots mc ms ls F h1 h2 h3 h4 hE hS hL
  exact lv_lor F.1 F.2.1 hd (k _ _ _ _ _ _ _ _ _ _ _ _ _ _ _ _ F h1 h2 h3 h4 hE hS hL)
theorem g_lxor {x y : Int64} (hd : decode M.2.1 pc = .ok (.lxor, 1)) (k : Go l G M d kc ks P (pc + 1) L (.long (x ^^^ y) :: st) h) : Go l G M d kc ks P pc L (.long y :: .long x :: st) h := by
  intro p e R s m args below meth c H locs cells slots mc ms ls F h1 h2 h3 h4 hE hS hL
  exact lv_lxor F.1 F.2.1 hd (k _ _ _ _ _ _ _ _ _ _ _ _ _ _ _ _ F h1 h2 h3 h4 hE hS hL)
theorem g_ishl {x y : Int32} (hd : decode M.2.1 pc = .ok (.ishl, 1)) (k : Go l G M d kc ks P (pc + 1) L (.int (x <<< (y &&& 31)) :: st) h) : Go l G M d kc ks P pc L (.int y :: .int x :: st) h := by
  intro p e R s m args below meth c H locs cells slots mc ms ls F h1 h2 h3 h4 hE hS hL
  exact lv_ishl F.1 F.2.1 hd (k _ _ _ _ _ _ _ _ _ _ _ _ _ _ _ _ F h1 h2 h3 h4 hE hS hL)
theorem g_ishr {x y : Int32} (hd : decode M.2.1 pc = .ok (.ishr, 1)) (k : Go l G M d kc ks P (pc + 1) L (.int (x >>> (y &&& 31)) :: st) h) : Go l G M d kc ks P pc L (.int y :: .int x :: st) h := by
  intro p e R s m args below meth c H locs cells slots mc ms ls F h1 h2 h3 h4 hE hS hL
  exact lv_ishr F.1 F.2.1 hd (k _ _ _ _ _ _ _ _ _ _ _ _ _ _ _ _ F h1 h2 h3 h4 hE hS hL)
theorem g_ineg {x : Int32} (hd : decode M.2.1 pc = .ok (.ineg, 1)) (k : Go l G M d kc ks P (pc + 1) L (.int (-x) :: st) h) : Go l G M d kc ks P pc L (.int x :: st) h := by
  intro p e R s m args below meth c H locs cells slots mc ms ls F h1 h2 h3 h4 hE hS hL
  exact lv_ineg F.1 F.2.1 hd (k _ _ _ _ _ _ _ _ _ _ _ _ _ _ _ _ F h1 h2 h3 h4 hE hS hL)
theorem g_lshl {x : Int64} {y : Int32} (hd : decode M.2.1 pc = .ok (.lshl, 1)) (k : Go l G M d kc ks P (pc + 1) L (.long (x <<< (y.toInt64 &&& 63)) :: st) h) : Go l G M d kc ks P pc L (.int y :: .long x :: st) h := by
  intro p e R s m args below meth c H locs cells slots mc ms ls F h1 h2 h3 h4 hE hS hL
  exact lv_lshl F.1 F.2.1 hd rfl (k _ _ _ _ _ _ _ _ _ _ _ _ _ _ _ _ F h1 h2 h3 h4 hE hS hL)
theorem g_lshr {x : Int64} {y : Int32} (hd : decode M.2.1 pc = .ok (.lshr, 1)) (k : Go l G M d kc ks P (pc + 1) L (.long (x >>> (y.toInt64 &&& 63)) :: st) h) : Go l G M d kc ks P pc L (.int y :: .long x :: st) h := by
  intro p e R s m args below meth c H locs cells slots mc ms ls F h1 h2 h3 h4 hE hS hL
  exact lv_lshr F.1 F.2.1 hd rfl (k _ _ _ _ _ _ _ _ _ _ _ _ _ _ _ _ F h1 h2 h3 h4 hE hS hL)
theorem g_lushr {x : Int64} {y : Int32} (hd : decode M.2.1 pc = .ok (.lushr, 1)) (k : Go l G M d kc ks P (pc + 1) L (.long ((x.toUInt64 >>> (y.toInt64.toUInt64 &&& Int64.toUInt64 63)).toInt64) :: st) h) : Go l G M d kc ks P pc L (.int y :: .long x :: st) h := by
  intro p e R s m args below meth c H locs cells slots mc ms ls F h1 h2 h3 h4 hE hS hL
  exact lv_lushr F.1 F.2.1 hd rfl (k _ _ _ _ _ _ _ _ _ _ _ _ _ _ _ _ F h1 h2 h3 h4 hE hS hL)
theorem g_idiv {x y : Int32} (hd : decode M.2.1 pc = .ok (.idiv, 1)) (hne : ¬ y = 0) (k : Go l G M d kc ks P (pc + 1) L (.int (x / y) :: st) h) : Go l G M d kc ks P pc L (.int y :: .int x :: st) h := by
  intro p e R s m args below meth c H locs cells slots mc ms ls F h1 h2 h3 h4 hE hS hL
  exact lv_idiv F.1 F.2.1 hd hne (k _ _ _ _ _ _ _ _ _ _ _ _ _ _ _ _ F h1 h2 h3 h4 hE hS hL)
theorem g_irem {x y : Int32} (hd : decode M.2.1 pc = .ok (.irem, 1)) (hne : ¬ y = 0) (k : Go l G M d kc ks P (pc + 1) L (.int (x - x / y * y) :: st) h) : Go l G M d kc ks P pc L (.int y :: .int x :: st) h := by
  intro p e R s m args below meth c H locs cells slots mc ms ls F h1 h2 h3 h4 hE hS hL
  exact lv_irem F.1 F.2.1 hd hne (k _ _ _ _ _ _ _ _ _ _ _ _ _ _ _ _ F h1 h2 h3 h4 hE hS hL)
theorem g_i2l {x : Int32} (hd : decode M.2.1 pc = .ok (.i2l, 1)) (k : Go l G M d kc ks P (pc + 1) L (.long x.toInt64 :: st) h) : Go l G M d kc ks P pc L (.int x :: st) h := by
  intro p e R s m args below meth c H locs cells slots mc ms ls F h1 h2 h3 h4 hE hS hL
  exact lv_i2l F.1 F.2.1 hd rfl (k _ _ _ _ _ _ _ _ _ _ _ _ _ _ _ _ F h1 h2 h3 h4 hE hS hL)
theorem g_l2i {x : Int64} (hd : decode M.2.1 pc = .ok (.l2i, 1)) (k : Go l G M d kc ks P (pc + 1) L (.int x.toInt32 :: st) h) : Go l G M d kc ks P pc L (.long x :: st) h := by
  intro p e R s m args below meth c H locs cells slots mc ms ls F h1 h2 h3 h4 hE hS hL
  exact lv_l2i F.1 F.2.1 hd rfl (k _ _ _ _ _ _ _ _ _ _ _ _ _ _ _ _ F h1 h2 h3 h4 hE hS hL)
theorem g_i2c {x v : Int32} (hd : decode M.2.1 pc = .ok (.i2c, 1)) (hv : (x.toUInt32 % 65536).toInt32 = v) (k : Go l G M d kc ks P (pc + 1) L (.int v :: st) h) : Go l G M d kc ks P pc L (.int x :: st) h := by
  intro p e R s m args below meth c H locs cells slots mc ms ls F h1 h2 h3 h4 hE hS hL
  exact lv_i2c F.1 F.2.1 hd hv (k _ _ _ _ _ _ _ _ _ _ _ _ _ _ _ _ F h1 h2 h3 h4 hE hS hL)
theorem g_i2b {x v : Int32} (hd : decode M.2.1 pc = .ok (.i2b, 1)) (hv : x.toInt8.toInt32 = v) (k : Go l G M d kc ks P (pc + 1) L (.int v :: st) h) : Go l G M d kc ks P pc L (.int x :: st) h := by
  intro p e R s m args below meth c H locs cells slots mc ms ls F h1 h2 h3 h4 hE hS hL
  exact lv_i2b F.1 F.2.1 hd hv (k _ _ _ _ _ _ _ _ _ _ _ _ _ _ _ _ F h1 h2 h3 h4 hE hS hL)
theorem g_i2d {x : Int32} (hd : decode M.2.1 pc = .ok (.i2d, 1)) (k : Go l G M d kc ks P (pc + 1) L (.double (FP.i2d x) :: st) h) : Go l G M d kc ks P pc L (.int x :: st) h := by
  intro p e R s m args below meth c H locs cells slots mc ms ls F h1 h2 h3 h4 hE hS hL
  exact lv_i2d F.1 F.2.1 hd (k _ _ _ _ _ _ _ _ _ _ _ _ _ _ _ _ F h1 h2 h3 h4 hE hS hL)
theorem g_i2f {x : Int32} (hd : decode M.2.1 pc = .ok (.i2f, 1)) (k : Go l G M d kc ks P (pc + 1) L (.float (FP.i2f x) :: st) h) : Go l G M d kc ks P pc L (.int x :: st) h := by
  intro p e R s m args below meth c H locs cells slots mc ms ls F h1 h2 h3 h4 hE hS hL
  exact lv_i2f F.1 F.2.1 hd (k _ _ _ _ _ _ _ _ _ _ _ _ _ _ _ _ F h1 h2 h3 h4 hE hS hL)
theorem g_f2d {x : UInt32} (hd : decode M.2.1 pc = .ok (.f2d, 1)) (hne : vf_n64 (FP.f2d x)) (k : Go l G M d kc ks P (pc + 1) L (.double (FP.f2d x) :: st) h) : Go l G M d kc ks P pc L (.float x :: st) h := by
  intro p e R s m args below meth c H locs cells slots mc ms ls F h1 h2 h3 h4 hE hS hL
  exact lv_f2d F.1 F.2.1 hd hne (k _ _ _ _ _ _ _ _ _ _ _ _ _ _ _ _ F h1 h2 h3 h4 hE hS hL)
theorem g_ddiv {x y : UInt64} (hd : decode M.2.1 pc = .ok (.ddiv, 1)) (hne : vf_n64 (FP.ddiv x y)) (k : Go l G M d kc ks P (pc + 1) L (.double (FP.ddiv x y) :: st) h) : Go l G M d kc ks P pc L (.double y :: .double x :: st) h := by
  intro p e R s m args below meth c H locs cells slots mc ms ls F h1 h2 h3 h4 hE hS hL
  exact lv_ddiv F.1 F.2.1 hd hne (k _ _ _ _ _ _ _ _ _ _ _ _ _ _ _ _ F h1 h2 h3 h4 hE hS hL)
theorem g_fdiv {x y : UInt32} (hd : decode M.2.1 pc = .ok (.fdiv, 1)) (hne : vf_n32 (FP.fdiv x y)) (k : Go l G M d kc ks P (pc + 1) L (.float (FP.fdiv x y) :: st) h) : Go l G M d kc ks P pc L (.float y :: .float x :: st) h := by
  intro p e R s m args below meth c H locs cells slots mc ms ls F h1 h2 h3 h4 hE hS hL
  exact lv_fdiv F.1 F.2.1 hd hne (k _ _ _ _ _ _ _ _ _ _ _ _ _ _ _ _ F h1 h2 h3 h4 hE hS hL)
theorem g_dcmp {x y : UInt64} {op : CmpOp} (hd : decode M.2.1 pc = .ok (.dcmp op, 1)) (k : Go l G M d kc ks P (pc + 1) L (.int (Op.cmpValue (FP.dcmp x y) op) :: st) h) : Go l G M d kc ks P pc L (.double y :: .double x :: st) h := by
  intro p e R s m args below meth c H locs cells slots mc ms ls F h1 h2 h3 h4 hE hS hL
  exact lv_dcmp F.1 F.2.1 hd (k _ _ _ _ _ _ _ _ _ _ _ _ _ _ _ _ F h1 h2 h3 h4 hE hS hL)
theorem g_fcmp {x y : UInt32} {op : CmpOp} (hd : decode M.2.1 pc = .ok (.fcmp op, 1)) (k : Go l G M d kc ks P (pc + 1) L (.int (Op.cmpValue (FP.fcmp x y) op) :: st) h) : Go l G M d kc ks P pc L (.float y :: .float x :: st) h := by
  intro p e R s m args below meth c H locs cells slots mc ms ls F h1 h2 h3 h4 hE hS hL
  exact lv_fcmp F.1 F.2.1 hd (k _ _ _ _ _ _ _ _ _ _ _ _ _ _ _ _ F h1 h2 h3 h4 hE hS hL)
theorem g_lcmp {x y : Int64} (hd : decode M.2.1 pc = .ok (.lcmp, 1)) (k : Go l G M d kc ks P (pc + 1) L (.int (lg_cmp x y) :: st) h) : Go l G M d kc ks P pc L (.long y :: .long x :: st) h := by
  intro p e R s m args below meth c H locs cells slots mc ms ls F h1 h2 h3 h4 hE hS hL
  exact W.lcmp F.1 F.2.1 hd (k _ _ _ _ _ _ _ _ _ _ _ _ _ _ _ _ F h1 h2 h3 h4 hE hS hL)
theorem g_dup {a : Value} (hd : decode M.2.1 pc = .ok (.dup, 1)) (ha : a.category = 1) (k : Go l G M d kc ks P (pc + 1) L (a :: a :: st) h) : Go l G M d kc ks P pc L (a :: st) h := by
  intro p e R s m args below meth c H locs cells slots mc ms ls F h1 h2 h3 h4 hE hS hL
  exact lv_dup F.1 F.2.1 hd ha (k _ _ _ _ _ _ _ _ _ _ _ _ _ _ _ _ F h1 h2 h3 h4 hE hS hL)
theorem g_pop {a : Value} (hd : decode M.2.1 pc = .ok (.pop, 1)) (ha : a.category = 1) (k : Go l G M d kc ks P (pc + 1) L (st) h) : Go l G M d kc ks P pc L (a :: st) h := by
  intro p e R s m args below meth c H locs cells slots mc ms ls F h1 h2 h3 h4 hE hS hL
  exact lv_pop F.1 F.2.1 hd ha (k _ _ _ _ _ _ _ _ _ _ _ _ _ _ _ _ F h1 h2 h3 h4 hE hS hL)
theorem g_dup_x1 {a b : Value} (hd : decode M.2.1 pc = .ok (.dup_x1, 1)) (ha : a.category = 1) (hb : b.category = 1) (k : Go l G M d kc ks P (pc + 1) L (a :: b :: a :: st) h) : Go l G M d kc ks P pc L (a :: b :: st) h := by
  intro p e R s m args below meth c H locs cells slots mc ms ls F h1 h2 h3 h4 hE hS hL
  exact lv_dup_x1 F.1 F.2.1 hd ha hb (k _ _ _ _ _ _ _ _ _ _ _ _ _ _ _ _ F h1 h2 h3 h4 hE hS hL)
theorem g_dup2 {a b : Value} (hd : decode M.2.1 pc = .ok (.dup2, 1)) (ha : a.category = 1) (hb : b.category = 1) (k : Go l G M d kc ks P (pc + 1) L (a :: b :: a :: b :: st) h) : Go l G M d kc ks P pc L (a :: b :: st) h := by
  intro p e R s m args below meth c H locs cells slots mc ms ls F h1 h2 h3 h4 hE hS hL
  exact lv_dup2_11 F.1 F.2.1 hd ha hb (k _ _ _ _ _ _ _ _ _ _ _ _ _ _ _ _ F h1 h2 h3 h4 hE hS hL)
theorem g_dup2w {a : Value} (hd : decode M.2.1 pc = .ok (.dup2, 1)) (ha : a.category = 2) (k : Go l G M d kc ks P (pc + 1) L (a :: a :: st) h) : Go l G M d kc ks P pc L (a :: st) h := by
  intro p e R s m args below meth c H locs cells slots mc ms ls F h1 h2 h3 h4 hE hS hL
  exact lv_dup2_2 F.1 F.2.1 hd ha (k _ _ _ _ _ _ _ _ _ _ _ _ _ _ _ _ F h1 h2 h3 h4 hE hS hL)
theorem g_if_eq {x : Int32} {off : Int} {tgt : Nat} (hd : decode M.2.1 pc = .ok (.ifCond .eq off, 3)) (ht : (pc : Int) + off = (tgt : Int)) (k1 : x = 0 → Go l G M d kc ks P tgt L st h) (k2 : ¬ x = 0 → Go l G M d kc ks P (pc + 3) L st h) : Go l G M d kc ks P pc L (.int x :: st) h := by
  intro p e R s m args below meth c H locs cells slots mc ms ls F h1 h2 h3 h4 hE hS hL
  exact lv_if_eq F.1 F.2.1 hd ht (fun q => k1 q _ _ _ _ _ _ _ _ _ _ _ _ _ _ _ _ F h1 h2 h3 h4 hE hS hL) (fun q => k2 q _ _ _ _ _ _ _ _ _ _ _ _ _ _ _ _ F h1 h2 h3 h4 hE hS hL)
theorem g_icmp_eq {x y : Int32} {off : Int} {tgt : Nat} (hd : decode M.2.1 pc = .ok (.if_icmp .eq off, 3)) (ht : (pc : Int) + off = (tgt : Int)) (k1 : x = y → Go l G M d kc ks P tgt L st h) (k2 : ¬ x = y → Go l G M d kc ks P (pc + 3) L st h) : Go l G M d kc ks P pc L (.int y :: .int x :: st) h := by
  intro p e R s m args below meth c H locs cells slots mc ms ls F h1 h2 h3 h4 hE hS hL
  exact lv_icmp_eq F.1 F.2.1 hd ht (fun q => k1 q _ _ _ _ _ _ _ _ _ _ _ _ _ _ _ _ F h1 h2 h3 h4 hE hS hL) (fun q => k2 q _ _ _ _ _ _ _ _ _ _ _ _ _ _ _ _ F h1 h2 h3 h4 hE hS hL)
theorem g_if_ne {x : Int32} {off : Int} {tgt : Nat} (hd : decode M.2.1 pc = .ok (.ifCond .ne off, 3)) (ht : (pc : Int) + off = (tgt : Int)) (k1 : ¬ x = 0 → Go l G M d kc ks P tgt L st h) (k2 : x = 0 → Go l G M d kc ks P (pc + 3) L st h) : Go l G M d kc ks P pc L (.int x :: st) h := by
  intro p e R s m args below meth c H locs cells slots mc ms ls F h1 h2 h3 h4 hE hS hL
  exact lv_if_ne F.1 F.2.1 hd ht (fun q => k1 q _ _ _ _ _ _ _ _ _ _ _ _ _ _ _ _ F h1 h2 h3 h4 hE hS hL) (fun q => k2 q _ _ _ _ _ _ _ _ _ _ _ _ _ _ _ _ F h1 h2 h3 h4 hE hS hL)
theorem g_icmp_ne {x y : Int32} {off : Int} {tgt : Nat} (hd : decode M.2.1 pc = .ok (.if_icmp .ne off, 3)) (ht : (pc : Int) + off = (tgt : Int)) (k1 : ¬ x = y → Go l G M d kc ks P tgt L st h) (k2 : x = y → Go l G M d kc ks P (pc + 3) L st h) : Go l G M d kc ks P pc L (.int y :: .int x :: st) h := by
  intro p e R s m args below meth c H locs cells slots mc ms ls F h1 h2 h3 h4 hE hS hL
  exact lv_icmp_ne F.1 F.2.1 hd ht (fun q => k1 q _ _ _ _ _ _ _ _ _ _ _ _ _ _ _ _ F h1 h2 h3 h4 hE hS hL) (fun q => k2 q _ _ _ _ _ _ _ _ _ _ _ _ _ _ _ _ F h1 h2 h3 h4 hE hS hL)
theorem g_if_lt {x : Int32} {off : Int} {tgt : Nat} (hd : decode M.2.1 pc = .ok (.ifCond .lt off, 3)) (ht : (pc : Int) + off = (tgt : Int)) (k1 : x < 0 → Go l G M d kc ks P tgt L st h) (k2 : ¬ x < 0 → Go l G M d kc ks P (pc + 3) L st h) : Go l G M d kc ks P pc L (.int x :: st) h := by
  intro p e R s m args below meth c H locs cells slots mc ms ls F h1 h2 h3 h4 hE hS hL
  exact lv_if_lt F.1 F.2.1 hd ht (fun q => k1 q _ _ _ _ _ _ _ _ _ _ _ _ _ _ _ _ F h1 h2 h3 h4 hE hS hL) (fun q => k2 q _ _ _ _ _ _ _ _ _ _ _ _ _ _ _ _ F h1 h2 h3 h4 hE hS hL)
theorem g_icmp_lt {x y : Int32} {off : Int} {tgt : Nat} (hd : decode M.2.1 pc = .ok (.if_icmp .lt off, 3)) (ht : (pc : Int) + off = (tgt : Int)) (k1 : x < y → Go l G M d kc ks P tgt L st h) (k2 : ¬ x < y → Go l G M d kc ks P (pc + 3) L st h) : Go l G M d kc ks P pc L (.int y :: .int x :: st) h := by
  intro p e R s m args below meth c H locs cells slots mc ms ls F h1 h2 h3 h4 hE hS hL
  exact lv_icmp_lt F.1 F.2.1 hd ht (fun q => k1 q _ _ _ _ _ _ _ _ _ _ _ _ _ _ _ _ F h1 h2 h3 h4 hE hS hL) (fun q => k2 q _ _ _ _ _ _ _ _ _ _ _ _ _ _ _ _ F h1 h2 h3 h4 hE hS hL)
theorem g_if_ge {x : Int32} {off : Int} {tgt : Nat} (hd : decode M.2.1 pc = .ok (.ifCond .ge off, 3)) (ht : (pc : Int) + off = (tgt : Int)) (k1 : 0 ≤ x → Go l G M d kc ks P tgt L st h) (k2 : ¬ 0 ≤ x → Go l G M d kc ks P (pc + 3) L st h) : Go l G M d kc ks P pc L (.int x :: st) h := by
  intro p e R s m args below meth c H locs cells slots mc ms ls F h1 h2 h3 h4 hE hS hL
  exact lv_if_ge F.1 F.2.1 hd ht (fun q => k1 q _ _ _ _ _ _ _ _ _ _ _ _ _ _ _ _ F h1 h2 h3 h4 hE hS hL) (fun q => k2 q _ _ _ _ _ _ _ _ _ _ _ _ _ _ _ _ F h1 h2 h3 h4 hE hS hL)
theorem g_icmp_ge {x y : Int32} {off : Int} {tgt : Nat} (hd : decode M.2.1 pc = .ok (.if_icmp .ge off, 3)) (ht : (pc : Int) + off = (tgt : Int)) (k1 : y ≤ x → Go l G M d kc ks P tgt L st h) (k2 : ¬ y ≤ x → Go l G M d kc ks P (pc + 3) L st h) : Go l G M d kc ks P pc L (.int y :: .int x :: st) h := by
  intro p e R s m args below meth c H locs cells slots mc ms ls F h1 h2 h3 h4 hE hS hL
  exact lv_icmp_ge F.1 F.2.1 hd ht (fun q => k1 q _ _ _ _ _ _ _ _ _ _ _ _ _ _ _ _ F h1 h2 h3 h4 hE hS hL) (fun q => k2 q _ _ _ _ _ _ _ _ _ _ _ _ _ _ _ _ F h1 h2 h3 h4 hE hS hL)
theorem g_if_gt {x : Int32} {off : Int} {tgt : Nat} (hd : decode M.2.1 pc = .ok (.ifCond .gt off, 3)) (ht : (pc : Int) + off = (tgt : Int)) (k1 : 0 < x → Go l G M d kc ks P tgt L st h) (k2 : ¬ 0 < x → Go l G M d kc ks P (pc + 3) L st h) : Go l G M d kc ks P pc L (.int x :: st) h := by
  intro p e R s m args below meth c H locs cells slots mc ms ls F h1 h2 h3 h4 hE hS hL
  exact lv_if_gt F.1 F.2.1 hd ht (fun q => k1 q _ _ _ _ _ _ _ _ _ _ _ _ _ _ _ _ F h1 h2 h3 h4 hE hS hL) (fun q => k2 q _ _ _ _ _ _ _ _ _ _ _ _ _ _ _ _ F h1 h2 h3 h4 hE hS hL)
theorem g_icmp_gt {x y : Int32} {off : Int} {tgt : Nat} (hd : decode M.2.1 pc = .ok (.if_icmp .gt off, 3)) (ht : (pc : Int) + off = (tgt : Int)) (k1 : y < x → Go l G M d kc ks P tgt L st h) (k2 : ¬ y < x → Go l G M d kc ks P (pc + 3) L st h) : Go l G M d kc ks P pc L (.int y :: .int x :: st) h := by
  intro p e R s m args below meth c H locs cells slots mc ms ls F h1 h2 h3 h4 hE hS hL
  exact lv_icmp_gt F.1 F.2.1 hd ht (fun q => k1 q _ _ _ _ _ _ _ _ _ _ _ _ _ _ _ _ F h1 h2 h3 h4 hE hS hL) (fun q => k2 q _ _ _ _ _ _ _ _ _ _ _ _ _ _ _ _ F h1 h2 h3 h4 hE hS hL)
theorem g_if_le {x : Int32} {off : Int} {tgt : Nat} (hd : decode M.2.1 pc = .ok (.ifCond .le off, 3)) (ht : (pc : Int) + off = (tgt : Int)) (k1 : x ≤ 0 → Go l G M d kc ks P tgt L st h) (k2 : ¬ x ≤ 0 → Go l G M d kc ks P (pc + 3) L st h) : Go l G M d kc ks P pc L (.int x :: st) h := by
  intro p e R s m args below meth c H locs cells slots mc ms ls F h1 h2 h3 h4 hE hS hL
  exact lv_if_le F.1 F.2.1 hd ht (fun q => k1 q _ _ _ _ _ _ _ _ _ _ _ _ _ _ _ _ F h1 h2 h3 h4 hE hS hL) (fun q => k2 q _ _ _ _ _ _ _ _ _ _ _ _ _ _ _ _ F h1 h2 h3 h4 hE hS hL)
theorem g_icmp_le {x y : Int32} {off : Int} {tgt : Nat} (hd : decode M.2.1 pc = .ok (.if_icmp .le off, 3)) (ht : (pc : Int) + off = (tgt : Int)) (k1 : x ≤ y → Go l G M d kc ks P tgt L st h) (k2 : ¬ x ≤ y → Go l G M d kc ks P (pc + 3) L st h) : Go l G M d kc ks P pc L (.int y :: .int x :: st) h := by
  intro p e R s m args below meth c H locs cells slots mc ms ls F h1 h2 h3 h4 hE hS hL
  exact lv_icmp_le F.1 F.2.1 hd ht (fun q => k1 q _ _ _ _ _ _ _ _ _ _ _ _ _ _ _ _ F h1 h2 h3 h4 hE hS hL) (fun q => k2 q _ _ _ _ _ _ _ _ _ _ _ _ _ _ _ _ F h1 h2 h3 h4 hE hS hL)
theorem g_goto {off : Int} {tgt : Nat} (hd : decode M.2.1 pc = .ok (.goto off, 3)) (ht : (pc : Int) + off = (tgt : Int)) (k : Go l G M d kc ks P tgt L st h) : Go l G M d kc ks P pc L st h := by
  intro p e R s m args below meth c H locs cells slots mc ms ls F h1 h2 h3 h4 hE hS hL
  exact lv_goto F.1 F.2.1 hd ht (k _ _ _ _ _ _ _ _ _ _ _ _ _ _ _ _ F h1 h2 h3 h4 hE hS hL)
theorem g_ifnonnull {a : Nat} {off : Int} {tgt : Nat} (hd : decode M.2.1 pc = .ok (.ifnonnull off, 3)) (ht : (pc : Int) + off = (tgt : Int)) (k : Go l G M d kc ks P tgt L st h) : Go l G M d kc ks P pc L (.ref a :: st) h := by
  intro p e R s m args below meth c H locs cells slots mc ms ls F h1 h2 h3 h4 hE hS hL
  exact lv_ifnonnull F.1 F.2.1 hd ht (k _ _ _ _ _ _ _ _ _ _ _ _ _ _ _ _ F h1 h2 h3 h4 hE hS hL)
theorem g_ifnull {a : Nat} {off : Int} (hd : decode M.2.1 pc = .ok (.ifnull off, 3)) (k : Go l G M d kc ks P (pc + 3) L st h) : Go l G M d kc ks P pc L (.ref a :: st) h := by
  intro p e R s m args below meth c H locs cells slots mc ms ls F h1 h2 h3 h4 hE hS hL
  exact lv_ifnull F.1 F.2.1 hd (k _ _ _ _ _ _ _ _ _ _ _ _ _ _ _ _ F h1 h2 h3 h4 hE hS hL)
theorem g_tabIn {dflt lo hi : Int} {offs : Array Int} {len : Nat} {x : Int32} {off : Int} {tgt : Nat} (hd : decode M.2.1 pc = .ok (.tableswitch dflt lo hi offs, len)) (ha : ¬ x.toInt < lo) (hb : ¬ hi < x.toInt) (ho : offs[(x.toInt - lo).toNat]? = some off) (ht : (pc : Int) + off = (tgt : Int)) (k : Go l G M d kc ks P tgt L st h) : Go l G M d kc ks P pc L (.int x :: st) h := by
  intro p e R s m args below meth c H locs cells slots mc ms ls F h1 h2 h3 h4 hE hS hL
  exact lv_tableIn F.1 F.2.1 hd ha hb ho ht (k _ _ _ _ _ _ _ _ _ _ _ _ _ _ _ _ F h1 h2 h3 h4 hE hS hL)
theorem g_tabOut {dflt lo hi : Int} {offs : Array Int} {len : Nat} {x : Int32} {tgt : Nat} (hd : decode M.2.1 pc = .ok (.tableswitch dflt lo hi offs, len)) (ha : x.toInt < lo ∨ hi < x.toInt) (ht : (pc : Int) + dflt = (tgt : Int)) (k : Go l G M d kc ks P tgt L st h) : Go l G M d kc ks P pc L (.int x :: st) h := by
  intro p e R s m args below meth c H locs cells slots mc ms ls F h1 h2 h3 h4 hE hS hL
  exact lv_tableOut F.1 F.2.1 hd ha ht (k _ _ _ _ _ _ _ _ _ _ _ _ _ _ _ _ F h1 h2 h3 h4 hE hS hL)
theorem g_iret {x : Int32} {ty : FieldType} (hd : decode M.2.1 pc = .ok (.ireturn, 1)) (hr : M.2.2.2.1 = some ty) (hn : narrow ty (.int x) = .int x) (hP : P (.inl (some (.int x))) h) : Go l G M d kc ks P pc L [.int x] h := by
  intro p e R s m args below meth c H locs cells slots mc ms ls F h1 h2 h3 h4 hE hS hL
  refine W.widen (k := mc) (n := ms) (by omega) (by omega) (vx_ret ?_)
  exact W.zret F.1 F.2.1 (F.2.2.1.trans hr) hn (fun t ht hw => ⟨_, h, rfl, hP, by rw [ht]; exact hE, hS.F ht⟩) hS.2.2 hd F.2.2.2.2.1
theorem g_lret {x : Int64} (hd : decode M.2.1 pc = .ok (.lreturn, 1)) (hr : M.2.2.2.1 = some .long) (hP : P (.inl (some (.long x))) h) : Go l G M d kc ks P pc L [.long x] h := by
  intro p e R s m args below meth c H locs cells slots mc ms ls F h1 h2 h3 h4 hE hS hL
  refine W.widen (k := mc) (n := ms) (by omega) (by omega) (vx_ret ?_)
  exact W.lret F.1 F.2.1 (F.2.2.1.trans hr) (fun t ht hw => ⟨_, h, rfl, hP, by rw [ht]; exact hE, hS.F ht⟩) hS.2.2 hd F.2.2.2.2.1
theorem g_fret {x : UInt32} (hd : decode M.2.1 pc = .ok (.freturn, 1)) (hr : M.2.2.2.1 = some .float) (hP : P (.inl (some (.float x))) h) : Go l G M d kc ks P pc L [.float x] h := by
  intro p e R s m args below meth c H locs cells slots mc ms ls F h1 h2 h3 h4 hE hS hL
  refine W.widen (k := mc) (n := ms) (by omega) (by omega) (vx_ret ?_)
  exact W.fret F.1 F.2.1 (F.2.2.1.trans hr) (fun t ht hw => ⟨_, h, rfl, hP, by rw [ht]; exact hE, hS.F ht⟩) hS.2.2 hd F.2.2.2.2.1
theorem g_dret {x : UInt64} (hd : decode M.2.1 pc = .ok (.dreturn, 1)) (hr : M.2.2.2.1 = some .double) (hP : P (.inl (some (.double x))) h) : Go l G M d kc ks P pc L [.double x] h := by
  intro p e R s m args below meth c H locs cells slots mc ms ls F h1 h2 h3 h4 hE hS hL
  refine W.widen (k := mc) (n := ms) (by omega) (by omega) (vx_ret ?_)
  exact W.dret F.1 F.2.1 (F.2.2.1.trans hr) (fun t ht hw => ⟨_, h, rfl, hP, by rw [ht]; exact hE, hS.F ht⟩) hS.2.2 hd F.2.2.2.2.1
theorem g_vret  (hd : decode M.2.1 pc = .ok (.return_, 1)) (hr : M.2.2.2.1 = none) (hP : P (.inl (none)) h) : Go l G M d kc ks P pc L [] h := by
  intro p e R s m args below meth c H locs cells slots mc ms ls F h1 h2 h3 h4 hE hS hL
  refine W.widen (k := mc) (n := ms) (by omega) (by omega) (vx_ret ?_)
  exact W.vret F.1 F.2.1 (F.2.2.1.trans hr) (fun t ht hw => ⟨_, h, rfl, hP, by rw [ht]; exact hE, hS.F ht⟩) hS.2.2 hd F.2.2.2.2.1
theorem g_aret {a : Nat} {rt : FieldType} (hd : decode M.2.1 pc = .ok (.areturn, 1)) (hr : M.2.2.2.1 = some rt) (hrt : (∃ n, rt = .object n) ∨ ∃ t, rt = .array t) (hP : P (.inl (some (.ref a))) h) : Go l G M d kc ks P pc L [.ref a] h := by
  intro p e R s m args below meth c H locs cells slots mc ms ls F h1 h2 h3 h4 hE hS hL
  refine W.widen (k := mc) (n := ms) (by omega) (by omega) (vx_ret ?_)
  exact W.aret F.1 F.2.1 (F.2.2.1.trans hr) hrt (Or.inr ⟨a, rfl⟩) (fun t ht hw => ⟨_, h, rfl, hP, by rw [ht]; exact hE, hS.F ht⟩) hS.2.2 hd F.2.2.2.2.1
end GR
