/-! Model: calls that change the map; the forecast (by wip/whole/gen/m35.py). -/
/-- the map after n ticks, and the relapses -/
def mtk (m : Nat → Int32) : Nat → Nat → Int32
  | 0 => m
  | k + 1 => tkF (mtk m k)
def mtR (m : Nat → Int32) : Nat → Int32
  | 0 => 0
  | k + 1 => mtR m k + (tk3 (mtk m k)).2
/-- the arrays with the change kept -/
abbrev chA (a : Nat → Nat → Int32) (ch : Nat) : Nat → Nat → Int32 := va_up a 4 (ppN (a 4) (a 1) ch)
abbrev chF (f : Nat → Int32) (ch : Nat) : Nat → Int32 := va_up f 6 (nI (min ch 7 + 1))
/-- after how many ticks it is below, from n on -/
def tbM (m : Nat → Int32) (v : Int32) : Nat → Nat → Nat
  | 0, n => n
  | j + 1, n => if blN (mtk m n) v 64 = true then n else tbM m v j (n + 1)

set_option maxRecDepth 100000 in
theorem ev_mSetGround_no1 {l : Launch} {G : GG} (hl : l.stackTraces = false) {A : AD} {h : AH} {a : Nat → Nat → Int32} {f : Nat → Int32} {x y z : Int32} (hc : ¬ cellB x y) :
    Ev l G 13 0 0 mX10_setGround [.ref (A 30 0), .int x, .int y, .int z] (mo h A (a, f)) (Rt (some (.int (65535))) (mo h A ((va_up a 1 (a 0)), va_up (va_up f 11 0) 11 1))) := by
  refine Ev.of hl (by decide) (Nat.le_of_ble_eq_true rfl) ?_
  refine g_aload_n (i := 0) dX10_setGround_0 rfl rfl ?_
  refine g_callV (ev_starts hl) dX10_setGround_1 ml_X10_118 cvX10_starts K_X10 rfl mo_30 rfl rfl (Nat.le_of_ble_eq_true rfl) (Nat.le_of_ble_eq_true rfl) (Nat.zero_le _) (Nat.zero_le _) (kr_vd ?_) kx_rt
  refine g_aload_n (i := 0) dX10_setGround_4 rfl rfl ?_
  refine g_aload_n (i := 0) dX10_setGround_5 rfl rfl ?_
  refine g_iload_n (i := 1) dX10_setGround_6 rfl rfl ?_
  refine g_iload_n (i := 2) dX10_setGround_7 rfl rfl ?_
  refine g_iload_n (i := 3) dX10_setGround_8 rfl rfl ?_
  refine g_callV (ev_groundIt_no1 hl (a := (va_up a 1 (a 0))) (f := va_up f 11 0) hc) dX10_setGround_9 ml_X10_121 cvX10_groundIt K_X10 rfl mo_30 rfl rfl (Nat.le_of_ble_eq_true rfl) (Nat.le_of_ble_eq_true rfl) (Nat.zero_le _) (Nat.zero_le _) (kr_rt ?_) kx_rt
  refine g_callV (ev_changed_t hl (a := (va_up a 1 (a 0))) (f := va_up (va_up f 11 0) 11 1) (by rw [va_up_self]; decide)) dX10_setGround_12 ml_X10_125 cvX10_changed K_X10 rfl mo_30 rfl rfl (Nat.le_of_ble_eq_true rfl) (Nat.le_of_ble_eq_true rfl) (Nat.zero_le _) (Nat.zero_le _) (kr_rt ?_) kx_rt
  refine g_i2c dX10_setGround_15 rfl ?_
  refine g_iret dX10_setGround_16 rfl rfl ?_
  exact ⟨rfl, rfl⟩

set_option maxRecDepth 100000 in
theorem ev_mSetGround_no2 {l : Launch} {G : GG} (hl : l.stackTraces = false) {A : AD} {h : AH} {a : Nat → Nat → Int32} {f : Nat → Int32} {x y z : Int32} (hc : cellB x y) (hg : ¬ groundP z) :
    Ev l G 13 0 0 mX10_setGround [.ref (A 30 0), .int x, .int y, .int z] (mo h A (a, f)) (Rt (some (.int (65535))) (mo h A ((va_up a 1 (a 0)), va_up (va_up f 11 0) 11 2))) := by
  refine Ev.of hl (by decide) (Nat.le_of_ble_eq_true rfl) ?_
  refine g_aload_n (i := 0) dX10_setGround_0 rfl rfl ?_
  refine g_callV (ev_starts hl) dX10_setGround_1 ml_X10_118 cvX10_starts K_X10 rfl mo_30 rfl rfl (Nat.le_of_ble_eq_true rfl) (Nat.le_of_ble_eq_true rfl) (Nat.zero_le _) (Nat.zero_le _) (kr_vd ?_) kx_rt
  refine g_aload_n (i := 0) dX10_setGround_4 rfl rfl ?_
  refine g_aload_n (i := 0) dX10_setGround_5 rfl rfl ?_
  refine g_iload_n (i := 1) dX10_setGround_6 rfl rfl ?_
  refine g_iload_n (i := 2) dX10_setGround_7 rfl rfl ?_
  refine g_iload_n (i := 3) dX10_setGround_8 rfl rfl ?_
  refine g_callV (ev_groundIt_no2 hl (a := (va_up a 1 (a 0))) (f := va_up f 11 0) hc hg) dX10_setGround_9 ml_X10_121 cvX10_groundIt K_X10 rfl mo_30 rfl rfl (Nat.le_of_ble_eq_true rfl) (Nat.le_of_ble_eq_true rfl) (Nat.zero_le _) (Nat.zero_le _) (kr_rt ?_) kx_rt
  refine g_callV (ev_changed_t hl (a := (va_up a 1 (a 0))) (f := va_up (va_up f 11 0) 11 2) (by rw [va_up_self]; decide)) dX10_setGround_12 ml_X10_125 cvX10_changed K_X10 rfl mo_30 rfl rfl (Nat.le_of_ble_eq_true rfl) (Nat.le_of_ble_eq_true rfl) (Nat.zero_le _) (Nat.zero_le _) (kr_rt ?_) kx_rt
  refine g_i2c dX10_setGround_15 rfl ?_
  refine g_iret dX10_setGround_16 rfl rfl ?_
  exact ⟨rfl, rfl⟩

set_option maxRecDepth 100000 in
theorem ev_mSetGround_no3 {l : Launch} {G : GG} (hl : l.stackTraces = false) {A : AD} {h : AH} {a : Nat → Nat → Int32} {f : Nat → Int32} {i j : Nat} (hi : i < 8) (hj : j < 8) {z : Int32} (hg : groundP z) (h35 : z = 35) (hs : 0 < (a 0 (8 * j + i) + a 0 (64 + (8 * j + i)))) :
    Ev l G 13 0 0 mX10_setGround [.ref (A 30 0), .int (nI i), .int (nI j), .int z] (mo h A (a, f)) (Rt (some (.int (65535))) (mo h A ((va_up a 1 (a 0)), va_up (va_up (va_up (va_up f 11 0) 9 2) 10 (a 0 (8 * j + i) + a 0 (64 + (8 * j + i)))) 11 3))) := by
  refine Ev.of hl (by decide) (Nat.le_of_ble_eq_true rfl) ?_
  refine g_aload_n (i := 0) dX10_setGround_0 rfl rfl ?_
  refine g_callV (ev_starts hl) dX10_setGround_1 ml_X10_118 cvX10_starts K_X10 rfl mo_30 rfl rfl (Nat.le_of_ble_eq_true rfl) (Nat.le_of_ble_eq_true rfl) (Nat.zero_le _) (Nat.zero_le _) (kr_vd ?_) kx_rt
  refine g_aload_n (i := 0) dX10_setGround_4 rfl rfl ?_
  refine g_aload_n (i := 0) dX10_setGround_5 rfl rfl ?_
  refine g_iload_n (i := 1) dX10_setGround_6 rfl rfl ?_
  refine g_iload_n (i := 2) dX10_setGround_7 rfl rfl ?_
  refine g_iload_n (i := 3) dX10_setGround_8 rfl rfl ?_
  refine g_callV (ev_groundIt_no3 hl (a := (va_up a 1 (a 0))) (f := va_up f 11 0) hi hj hg h35 hs) dX10_setGround_9 ml_X10_121 cvX10_groundIt K_X10 rfl mo_30 rfl rfl (Nat.le_of_ble_eq_true rfl) (Nat.le_of_ble_eq_true rfl) (Nat.zero_le _) (Nat.zero_le _) (kr_rt ?_) kx_rt
  refine g_callV (ev_changed_t hl (a := (va_up a 1 (a 0))) (f := va_up (va_up (va_up (va_up f 11 0) 9 2) 10 (a 0 (8 * j + i) + a 0 (64 + (8 * j + i)))) 11 3) (by rw [va_up_self]; decide)) dX10_setGround_12 ml_X10_125 cvX10_changed K_X10 rfl mo_30 rfl rfl (Nat.le_of_ble_eq_true rfl) (Nat.le_of_ble_eq_true rfl) (Nat.zero_le _) (Nat.zero_le _) (kr_rt ?_) kx_rt
  refine g_i2c dX10_setGround_15 rfl ?_
  refine g_iret dX10_setGround_16 rfl rfl ?_
  exact ⟨rfl, rfl⟩

set_option maxRecDepth 100000 in
theorem ev_mSetGround {l : Launch} {G : GG} (hl : l.stackTraces = false) {A : AD} {h : AH} {a : Nat → Nat → Int32} {f : Nat → Int32} {i j : Nat} (hi : i < 8) (hj : j < 8) {z : Int32} (hg : groundP z) (hn : ¬ (z = 35 ∧ 0 < (a 0 (8 * j + i) + a 0 (64 + (8 * j + i))))) (hG : groundP (a 0 (128 + (8 * j + i)))) {ch : Nat} (h6 : f 6 = nI ch) (hch : ch ≤ 8) :
    Ev l G 13 0 0 mX10_setGround [.ref (A 30 0), .int (nI i), .int (nI j), .int z] (mo h A (a, f)) (Rt (some (.int (a 0 (128 + (8 * j + i))))) (mo h A (chA (va_up (va_up a 1 (a 0)) 0 (va_up (a 0) (128 + (8 * j + i)) z)) ch, chF (va_up f 11 0) ch))) := by
  refine Ev.of hl (by decide) (Nat.le_of_ble_eq_true rfl) ?_
  refine g_aload_n (i := 0) dX10_setGround_0 rfl rfl ?_
  refine g_callV (ev_starts hl) dX10_setGround_1 ml_X10_118 cvX10_starts K_X10 rfl mo_30 rfl rfl (Nat.le_of_ble_eq_true rfl) (Nat.le_of_ble_eq_true rfl) (Nat.zero_le _) (Nat.zero_le _) (kr_vd ?_) kx_rt
  refine g_aload_n (i := 0) dX10_setGround_4 rfl rfl ?_
  refine g_aload_n (i := 0) dX10_setGround_5 rfl rfl ?_
  refine g_iload_n (i := 1) dX10_setGround_6 rfl rfl ?_
  refine g_iload_n (i := 2) dX10_setGround_7 rfl rfl ?_
  refine g_iload_n (i := 3) dX10_setGround_8 rfl rfl ?_
  refine g_callV (ev_groundIt hl (a := (va_up a 1 (a 0))) (f := va_up f 11 0) hi hj hg hn) dX10_setGround_9 ml_X10_121 cvX10_groundIt K_X10 rfl mo_30 rfl rfl (Nat.le_of_ble_eq_true rfl) (Nat.le_of_ble_eq_true rfl) (Nat.zero_le _) (Nat.zero_le _) (kr_rt ?_) kx_rt
  refine g_callV (ev_changed hl (a := va_up (va_up a 1 (a 0)) 0 (va_up (a 0) (128 + (8 * j + i)) z)) (f := va_up f 11 0) (ch := ch) h6 (by rw [va_up_self]; decide) hch) dX10_setGround_12 ml_X10_125 cvX10_changed K_X10 rfl mo_30 rfl rfl (Nat.le_of_ble_eq_true rfl) (Nat.le_of_ble_eq_true rfl) (Nat.zero_le _) (Nat.zero_le _) (kr_rt ?_) kx_rt
  refine g_i2c dX10_setGround_15 (gnd_fits hG).2.2.2 ?_
  refine g_iret dX10_setGround_16 rfl (gnd_fits hG).2.1 ?_
  exact ⟨rfl, rfl⟩

set_option maxRecDepth 100000 in
theorem ev_mHeatUp_no1 {l : Launch} {G : GG} (hl : l.stackTraces = false) {A : AD} {h : AH} {a : Nat → Nat → Int32} {f : Nat → Int32} {x y z : Int32} (hc : ¬ cellB x y) :
    Ev l G 13 0 0 mX10_heatUp [.ref (A 30 0), .int x, .int y, .int z] (mo h A (a, f)) (Rt (some (.int (-1))) (mo h A ((va_up a 1 (a 0)), va_up (va_up f 11 0) 11 1))) := by
  refine Ev.of hl (by decide) (Nat.le_of_ble_eq_true rfl) ?_
  refine g_aload_n (i := 0) dX10_heatUp_0 rfl rfl ?_
  refine g_callV (ev_starts hl) dX10_heatUp_1 ml_X10_118 cvX10_starts K_X10 rfl mo_30 rfl rfl (Nat.le_of_ble_eq_true rfl) (Nat.le_of_ble_eq_true rfl) (Nat.zero_le _) (Nat.zero_le _) (kr_vd ?_) kx_rt
  refine g_aload_n (i := 0) dX10_heatUp_4 rfl rfl ?_
  refine g_aload_n (i := 0) dX10_heatUp_5 rfl rfl ?_
  refine g_iload_n (i := 1) dX10_heatUp_6 rfl rfl ?_
  refine g_iload_n (i := 2) dX10_heatUp_7 rfl rfl ?_
  refine g_iload_n (i := 3) dX10_heatUp_8 rfl rfl ?_
  refine g_callV (ev_heatIt_no1 hl (a := (va_up a 1 (a 0))) (f := va_up f 11 0) hc) dX10_heatUp_9 ml_X10_130 cvX10_heatIt K_X10 rfl mo_30 rfl rfl (Nat.le_of_ble_eq_true rfl) (Nat.le_of_ble_eq_true rfl) (Nat.zero_le _) (Nat.zero_le _) (kr_rt ?_) kx_rt
  refine g_callV (ev_changed_t hl (a := (va_up a 1 (a 0))) (f := va_up (va_up f 11 0) 11 1) (by rw [va_up_self]; decide)) dX10_heatUp_12 ml_X10_125 cvX10_changed K_X10 rfl mo_30 rfl rfl (Nat.le_of_ble_eq_true rfl) (Nat.le_of_ble_eq_true rfl) (Nat.zero_le _) (Nat.zero_le _) (kr_rt ?_) kx_rt
  refine g_iret dX10_heatUp_15 rfl rfl ?_
  exact ⟨rfl, rfl⟩

set_option maxRecDepth 100000 in
theorem ev_mHeatUp_no2 {l : Launch} {G : GG} (hl : l.stackTraces = false) {A : AD} {h : AH} {a : Nat → Nat → Int32} {f : Nat → Int32} {x y z : Int32} (hc : cellB x y) (hg : ¬ amountP z) :
    Ev l G 13 0 0 mX10_heatUp [.ref (A 30 0), .int x, .int y, .int z] (mo h A (a, f)) (Rt (some (.int (-1))) (mo h A ((va_up a 1 (a 0)), va_up (va_up f 11 0) 11 2))) := by
  refine Ev.of hl (by decide) (Nat.le_of_ble_eq_true rfl) ?_
  refine g_aload_n (i := 0) dX10_heatUp_0 rfl rfl ?_
  refine g_callV (ev_starts hl) dX10_heatUp_1 ml_X10_118 cvX10_starts K_X10 rfl mo_30 rfl rfl (Nat.le_of_ble_eq_true rfl) (Nat.le_of_ble_eq_true rfl) (Nat.zero_le _) (Nat.zero_le _) (kr_vd ?_) kx_rt
  refine g_aload_n (i := 0) dX10_heatUp_4 rfl rfl ?_
  refine g_aload_n (i := 0) dX10_heatUp_5 rfl rfl ?_
  refine g_iload_n (i := 1) dX10_heatUp_6 rfl rfl ?_
  refine g_iload_n (i := 2) dX10_heatUp_7 rfl rfl ?_
  refine g_iload_n (i := 3) dX10_heatUp_8 rfl rfl ?_
  refine g_callV (ev_heatIt_no2 hl (a := (va_up a 1 (a 0))) (f := va_up f 11 0) hc hg) dX10_heatUp_9 ml_X10_130 cvX10_heatIt K_X10 rfl mo_30 rfl rfl (Nat.le_of_ble_eq_true rfl) (Nat.le_of_ble_eq_true rfl) (Nat.zero_le _) (Nat.zero_le _) (kr_rt ?_) kx_rt
  refine g_callV (ev_changed_t hl (a := (va_up a 1 (a 0))) (f := va_up (va_up f 11 0) 11 2) (by rw [va_up_self]; decide)) dX10_heatUp_12 ml_X10_125 cvX10_changed K_X10 rfl mo_30 rfl rfl (Nat.le_of_ble_eq_true rfl) (Nat.le_of_ble_eq_true rfl) (Nat.zero_le _) (Nat.zero_le _) (kr_rt ?_) kx_rt
  refine g_iret dX10_heatUp_15 rfl rfl ?_
  exact ⟨rfl, rfl⟩

set_option maxRecDepth 100000 in
theorem ev_mHeatUp_no3a {l : Launch} {G : GG} (hl : l.stackTraces = false) {A : AD} {h : AH} {a : Nat → Nat → Int32} {f : Nat → Int32} {i j : Nat} (hi : i < 8) (hj : j < 8) {z : Int32} (hg : amountP z) (hr : a 0 (128 + (8 * j + i)) = 35) :
    Ev l G 13 0 0 mX10_heatUp [.ref (A 30 0), .int (nI i), .int (nI j), .int z] (mo h A (a, f)) (Rt (some (.int (-1))) (mo h A ((va_up a 1 (a 0)), va_up (va_up (va_up (va_up f 11 0) 9 1) 10 (nI (8 * j + i))) 11 3))) := by
  refine Ev.of hl (by decide) (Nat.le_of_ble_eq_true rfl) ?_
  refine g_aload_n (i := 0) dX10_heatUp_0 rfl rfl ?_
  refine g_callV (ev_starts hl) dX10_heatUp_1 ml_X10_118 cvX10_starts K_X10 rfl mo_30 rfl rfl (Nat.le_of_ble_eq_true rfl) (Nat.le_of_ble_eq_true rfl) (Nat.zero_le _) (Nat.zero_le _) (kr_vd ?_) kx_rt
  refine g_aload_n (i := 0) dX10_heatUp_4 rfl rfl ?_
  refine g_aload_n (i := 0) dX10_heatUp_5 rfl rfl ?_
  refine g_iload_n (i := 1) dX10_heatUp_6 rfl rfl ?_
  refine g_iload_n (i := 2) dX10_heatUp_7 rfl rfl ?_
  refine g_iload_n (i := 3) dX10_heatUp_8 rfl rfl ?_
  refine g_callV (ev_heatIt_no3a hl (a := (va_up a 1 (a 0))) (f := va_up f 11 0) hi hj hg hr) dX10_heatUp_9 ml_X10_130 cvX10_heatIt K_X10 rfl mo_30 rfl rfl (Nat.le_of_ble_eq_true rfl) (Nat.le_of_ble_eq_true rfl) (Nat.zero_le _) (Nat.zero_le _) (kr_rt ?_) kx_rt
  refine g_callV (ev_changed_t hl (a := (va_up a 1 (a 0))) (f := va_up (va_up (va_up (va_up f 11 0) 9 1) 10 (nI (8 * j + i))) 11 3) (by rw [va_up_self]; decide)) dX10_heatUp_12 ml_X10_125 cvX10_changed K_X10 rfl mo_30 rfl rfl (Nat.le_of_ble_eq_true rfl) (Nat.le_of_ble_eq_true rfl) (Nat.zero_le _) (Nat.zero_le _) (kr_rt ?_) kx_rt
  refine g_iret dX10_heatUp_15 rfl rfl ?_
  exact ⟨rfl, rfl⟩

set_option maxRecDepth 100000 in
theorem ev_mHeatUp_no3b {l : Launch} {G : GG} (hl : l.stackTraces = false) {A : AD} {h : AH} {a : Nat → Nat → Int32} {f : Nat → Int32} {i j : Nat} (hi : i < 8) (hj : j < 8) {z : Int32} (hg : amountP z) (hr : ¬ a 0 (128 + (8 * j + i)) = 35) (hx : 9999 < a 0 (8 * j + i) + z) :
    Ev l G 13 0 0 mX10_heatUp [.ref (A 30 0), .int (nI i), .int (nI j), .int z] (mo h A (a, f)) (Rt (some (.int (-1))) (mo h A ((va_up a 1 (a 0)), va_up (va_up (va_up (va_up f 11 0) 9 3) 10 (a 0 (8 * j + i) + z - 9999)) 11 3))) := by
  refine Ev.of hl (by decide) (Nat.le_of_ble_eq_true rfl) ?_
  refine g_aload_n (i := 0) dX10_heatUp_0 rfl rfl ?_
  refine g_callV (ev_starts hl) dX10_heatUp_1 ml_X10_118 cvX10_starts K_X10 rfl mo_30 rfl rfl (Nat.le_of_ble_eq_true rfl) (Nat.le_of_ble_eq_true rfl) (Nat.zero_le _) (Nat.zero_le _) (kr_vd ?_) kx_rt
  refine g_aload_n (i := 0) dX10_heatUp_4 rfl rfl ?_
  refine g_aload_n (i := 0) dX10_heatUp_5 rfl rfl ?_
  refine g_iload_n (i := 1) dX10_heatUp_6 rfl rfl ?_
  refine g_iload_n (i := 2) dX10_heatUp_7 rfl rfl ?_
  refine g_iload_n (i := 3) dX10_heatUp_8 rfl rfl ?_
  refine g_callV (ev_heatIt_no3b hl (a := (va_up a 1 (a 0))) (f := va_up f 11 0) hi hj hg hr hx) dX10_heatUp_9 ml_X10_130 cvX10_heatIt K_X10 rfl mo_30 rfl rfl (Nat.le_of_ble_eq_true rfl) (Nat.le_of_ble_eq_true rfl) (Nat.zero_le _) (Nat.zero_le _) (kr_rt ?_) kx_rt
  refine g_callV (ev_changed_t hl (a := (va_up a 1 (a 0))) (f := va_up (va_up (va_up (va_up f 11 0) 9 3) 10 (a 0 (8 * j + i) + z - 9999)) 11 3) (by rw [va_up_self]; decide)) dX10_heatUp_12 ml_X10_125 cvX10_changed K_X10 rfl mo_30 rfl rfl (Nat.le_of_ble_eq_true rfl) (Nat.le_of_ble_eq_true rfl) (Nat.zero_le _) (Nat.zero_le _) (kr_rt ?_) kx_rt
  refine g_iret dX10_heatUp_15 rfl rfl ?_
  exact ⟨rfl, rfl⟩

set_option maxRecDepth 100000 in
theorem ev_mHeatUp {l : Launch} {G : GG} (hl : l.stackTraces = false) {A : AD} {h : AH} {a : Nat → Nat → Int32} {f : Nat → Int32} {i j : Nat} (hi : i < 8) (hj : j < 8) {z : Int32} (hg : amountP z) (hr : ¬ a 0 (128 + (8 * j + i)) = 35) (hx : ¬ 9999 < a 0 (8 * j + i) + z) {ch : Nat} (h6 : f 6 = nI ch) (hch : ch ≤ 8) :
    Ev l G 13 0 0 mX10_heatUp [.ref (A 30 0), .int (nI i), .int (nI j), .int z] (mo h A (a, f)) (Rt (some (.int (a 0 (8 * j + i) + z))) (mo h A (chA (va_up (va_up a 1 (a 0)) 0 (va_up (a 0) (8 * j + i) (a 0 (8 * j + i) + z))) ch, chF (va_up f 11 0) ch))) := by
  refine Ev.of hl (by decide) (Nat.le_of_ble_eq_true rfl) ?_
  refine g_aload_n (i := 0) dX10_heatUp_0 rfl rfl ?_
  refine g_callV (ev_starts hl) dX10_heatUp_1 ml_X10_118 cvX10_starts K_X10 rfl mo_30 rfl rfl (Nat.le_of_ble_eq_true rfl) (Nat.le_of_ble_eq_true rfl) (Nat.zero_le _) (Nat.zero_le _) (kr_vd ?_) kx_rt
  refine g_aload_n (i := 0) dX10_heatUp_4 rfl rfl ?_
  refine g_aload_n (i := 0) dX10_heatUp_5 rfl rfl ?_
  refine g_iload_n (i := 1) dX10_heatUp_6 rfl rfl ?_
  refine g_iload_n (i := 2) dX10_heatUp_7 rfl rfl ?_
  refine g_iload_n (i := 3) dX10_heatUp_8 rfl rfl ?_
  refine g_callV (ev_heatIt hl (a := (va_up a 1 (a 0))) (f := va_up f 11 0) hi hj hg hr hx) dX10_heatUp_9 ml_X10_130 cvX10_heatIt K_X10 rfl mo_30 rfl rfl (Nat.le_of_ble_eq_true rfl) (Nat.le_of_ble_eq_true rfl) (Nat.zero_le _) (Nat.zero_le _) (kr_rt ?_) kx_rt
  refine g_callV (ev_changed hl (a := va_up (va_up a 1 (a 0)) 0 (va_up (a 0) (8 * j + i) (a 0 (8 * j + i) + z))) (f := va_up f 11 0) (ch := ch) h6 (by rw [va_up_self]; decide) hch) dX10_heatUp_12 ml_X10_125 cvX10_changed K_X10 rfl mo_30 rfl rfl (Nat.le_of_ble_eq_true rfl) (Nat.le_of_ble_eq_true rfl) (Nat.zero_le _) (Nat.zero_le _) (kr_rt ?_) kx_rt
  refine g_iret dX10_heatUp_15 rfl rfl ?_
  exact ⟨rfl, rfl⟩

set_option maxRecDepth 100000 in
theorem ev_mSetBorder_no1 {l : Launch} {G : GG} (hl : l.stackTraces = false) {A : AD} {h : AH} {a : Nat → Nat → Int32} {f : Nat → Int32} {x z : Int32} (hc : ¬ (0 ≤ x ∧ x ≤ 3)) :
    Ev l G 12 0 0 mX10_setBorder [.ref (A 30 0), .int x, .int z] (mo h A (a, f)) (Rt (some (.int (-1))) (mo h A ((va_up a 1 (a 0)), va_up (va_up f 11 0) 11 1))) := by
  refine Ev.of hl (by decide) (Nat.le_of_ble_eq_true rfl) ?_
  refine g_aload_n (i := 0) dX10_setBorder_0 rfl rfl ?_
  refine g_callV (ev_starts hl) dX10_setBorder_1 ml_X10_118 cvX10_starts K_X10 rfl mo_30 rfl rfl (Nat.le_of_ble_eq_true rfl) (Nat.le_of_ble_eq_true rfl) (Nat.zero_le _) (Nat.zero_le _) (kr_vd ?_) kx_rt
  refine g_aload_n (i := 0) dX10_setBorder_4 rfl rfl ?_
  refine g_aload_n (i := 0) dX10_setBorder_5 rfl rfl ?_
  refine g_iload_n (i := 1) dX10_setBorder_6 rfl rfl ?_
  refine g_iload_n (i := 2) dX10_setBorder_7 rfl rfl ?_
  refine g_callV (ev_borderIt_no1 hl (a := (va_up a 1 (a 0))) (f := va_up f 11 0) hc) dX10_setBorder_8 ml_X10_137 cvX10_borderIt K_X10 rfl mo_30 rfl rfl (Nat.le_of_ble_eq_true rfl) (Nat.le_of_ble_eq_true rfl) (Nat.zero_le _) (Nat.zero_le _) (kr_rt ?_) kx_rt
  refine g_callV (ev_changed_t hl (a := (va_up a 1 (a 0))) (f := va_up (va_up f 11 0) 11 1) (by rw [va_up_self]; decide)) dX10_setBorder_11 ml_X10_125 cvX10_changed K_X10 rfl mo_30 rfl rfl (Nat.le_of_ble_eq_true rfl) (Nat.le_of_ble_eq_true rfl) (Nat.zero_le _) (Nat.zero_le _) (kr_rt ?_) kx_rt
  refine g_iret dX10_setBorder_14 rfl rfl ?_
  exact ⟨rfl, rfl⟩

set_option maxRecDepth 100000 in
theorem ev_mSetBorder_no2 {l : Launch} {G : GG} (hl : l.stackTraces = false) {A : AD} {h : AH} {a : Nat → Nat → Int32} {f : Nat → Int32} {x z : Int32} (hc : 0 ≤ x ∧ x ≤ 3) (hg : ¬ tempP z) :
    Ev l G 12 0 0 mX10_setBorder [.ref (A 30 0), .int x, .int z] (mo h A (a, f)) (Rt (some (.int (-1))) (mo h A ((va_up a 1 (a 0)), va_up (va_up f 11 0) 11 2))) := by
  refine Ev.of hl (by decide) (Nat.le_of_ble_eq_true rfl) ?_
  refine g_aload_n (i := 0) dX10_setBorder_0 rfl rfl ?_
  refine g_callV (ev_starts hl) dX10_setBorder_1 ml_X10_118 cvX10_starts K_X10 rfl mo_30 rfl rfl (Nat.le_of_ble_eq_true rfl) (Nat.le_of_ble_eq_true rfl) (Nat.zero_le _) (Nat.zero_le _) (kr_vd ?_) kx_rt
  refine g_aload_n (i := 0) dX10_setBorder_4 rfl rfl ?_
  refine g_aload_n (i := 0) dX10_setBorder_5 rfl rfl ?_
  refine g_iload_n (i := 1) dX10_setBorder_6 rfl rfl ?_
  refine g_iload_n (i := 2) dX10_setBorder_7 rfl rfl ?_
  refine g_callV (ev_borderIt_no2 hl (a := (va_up a 1 (a 0))) (f := va_up f 11 0) hc hg) dX10_setBorder_8 ml_X10_137 cvX10_borderIt K_X10 rfl mo_30 rfl rfl (Nat.le_of_ble_eq_true rfl) (Nat.le_of_ble_eq_true rfl) (Nat.zero_le _) (Nat.zero_le _) (kr_rt ?_) kx_rt
  refine g_callV (ev_changed_t hl (a := (va_up a 1 (a 0))) (f := va_up (va_up f 11 0) 11 2) (by rw [va_up_self]; decide)) dX10_setBorder_11 ml_X10_125 cvX10_changed K_X10 rfl mo_30 rfl rfl (Nat.le_of_ble_eq_true rfl) (Nat.le_of_ble_eq_true rfl) (Nat.zero_le _) (Nat.zero_le _) (kr_rt ?_) kx_rt
  refine g_iret dX10_setBorder_14 rfl rfl ?_
  exact ⟨rfl, rfl⟩

set_option maxRecDepth 100000 in
theorem ev_mSetBorder {l : Launch} {G : GG} (hl : l.stackTraces = false) {A : AD} {h : AH} {a : Nat → Nat → Int32} {f : Nat → Int32} {s : Nat} (hs : s < 4) {z : Int32} (hg : tempP z) {ch : Nat} (h6 : f 6 = nI ch) (hch : ch ≤ 8) :
    Ev l G 12 0 0 mX10_setBorder [.ref (A 30 0), .int (nI s), .int z] (mo h A (a, f)) (Rt (some (.int (a 0 (192 + s)))) (mo h A (chA (va_up (va_up a 1 (a 0)) 0 (va_up (a 0) (192 + s) z)) ch, chF (va_up f 11 0) ch))) := by
  refine Ev.of hl (by decide) (Nat.le_of_ble_eq_true rfl) ?_
  refine g_aload_n (i := 0) dX10_setBorder_0 rfl rfl ?_
  refine g_callV (ev_starts hl) dX10_setBorder_1 ml_X10_118 cvX10_starts K_X10 rfl mo_30 rfl rfl (Nat.le_of_ble_eq_true rfl) (Nat.le_of_ble_eq_true rfl) (Nat.zero_le _) (Nat.zero_le _) (kr_vd ?_) kx_rt
  refine g_aload_n (i := 0) dX10_setBorder_4 rfl rfl ?_
  refine g_aload_n (i := 0) dX10_setBorder_5 rfl rfl ?_
  refine g_iload_n (i := 1) dX10_setBorder_6 rfl rfl ?_
  refine g_iload_n (i := 2) dX10_setBorder_7 rfl rfl ?_
  refine g_callV (ev_borderIt hl (a := (va_up a 1 (a 0))) (f := va_up f 11 0) hs hg) dX10_setBorder_8 ml_X10_137 cvX10_borderIt K_X10 rfl mo_30 rfl rfl (Nat.le_of_ble_eq_true rfl) (Nat.le_of_ble_eq_true rfl) (Nat.zero_le _) (Nat.zero_le _) (kr_rt ?_) kx_rt
  refine g_callV (ev_changed hl (a := va_up (va_up a 1 (a 0)) 0 (va_up (a 0) (192 + s) z)) (f := va_up f 11 0) (ch := ch) h6 (by rw [va_up_self]; decide) hch) dX10_setBorder_11 ml_X10_125 cvX10_changed K_X10 rfl mo_30 rfl rfl (Nat.le_of_ble_eq_true rfl) (Nat.le_of_ble_eq_true rfl) (Nat.zero_le _) (Nat.zero_le _) (kr_rt ?_) kx_rt
  refine g_iret dX10_setBorder_14 rfl rfl ?_
  exact ⟨rfl, rfl⟩

set_option maxRecDepth 100000 in
theorem ev_ticksIt_no {l : Launch} {G : GG} (hl : l.stackTraces = false) {A : AD} {h : AH} {a : Nat → Nat → Int32} {f : Nat → Int32} {x : Int32} (hx : ¬ tickP x) :
    Ev l G 13 0 0 mX10_ticksIt [.ref (A 30 0), .int x] (mo h A (a, f)) (Rt (some (.int (-1))) (mo h A (a, va_up f 11 1))) := by
  refine Ev.of hl (by decide) (Nat.le_of_ble_eq_true rfl) ?_
  refine g_iload_n (i := 1) dX10_ticksIt_0 rfl rfl ?_
  refine g_i2l dX10_ticksIt_1 ?_
  refine g_lconst (v := 1) dX10_ticksIt_2 (by decide) ?_
  refine g_ldc2 dX10_ticksIt_3 co_X10_140 ?_
  refine g_callS (ev_in hl (lo := 1) (hi := 20) (by decide) (by decide)) dX10_ticksIt_6 ml_X10_85 csX10_in rfl rfl (Nat.le_of_ble_eq_true rfl) (Nat.le_of_ble_eq_true rfl) (Nat.zero_le _) (Nat.zero_le _) (kr_rt ?_) kx_rt
  refine g_if_ne (tgt := 18) dX10_ticksIt_9 (by decide) (fun c9 => ?_) (fun c9 => ?_)
  · exact absurd (if_neg hx) c9
  · refine g_aload_n (i := 0) dX10_ticksIt_12 rfl rfl ?_
    refine g_iconst (v := 1) dX10_ticksIt_13 (by decide) ?_
    refine g_callV (ev_throwing hl (x := 1)) dX10_ticksIt_14 ml_X10_76 cvX10_throwing K_X10 rfl mo_30 rfl rfl (Nat.le_of_ble_eq_true rfl) (Nat.le_of_ble_eq_true rfl) (Nat.zero_le _) (Nat.zero_le _) (kr_rt ?_) kx_rt
    refine g_iret dX10_ticksIt_17 rfl rfl ?_
    exact ⟨rfl, rfl⟩

set_option maxRecDepth 100000 in
theorem ev_ticksIt {l : Launch} {G : GG} (hl : l.stackTraces = false) {A : AD} {h : AH} {a : Nat → Nat → Int32} {f : Nat → Int32} {T R m : Nat → Int32} {n : Nat} (hn1 : 1 ≤ n) (hn : n ≤ 20) :
    Ev l G 13 0 0 mX10_ticksIt [.ref (A 30 0), .int (nI n)] (mo h A (A3 a T R m, f)) (RtX (some (.int (mtR m n))) (fun x : (Nat → Int32) × (Nat → Int32) => (mo h A (A3 a x.1 x.2 (mtk m n), f)))) := by
  refine Ev.of hl (by decide) (Nat.le_of_ble_eq_true rfl) ?_
  have loop : ∀ (j : Nat) (k : Nat) (T2 R2 : Nat → Int32), k + j = n → Go l G mX10_ticksIt 13 0 0 (RtX (some (.int (mtR m n))) (fun x : (Nat → Int32) × (Nat → Int32) => (mo h A (A3 a x.1 x.2 (mtk m n), f)))) 22 [some (.ref (A 30 0)), some (.int (nI n)), some (.int (mtR m k)), some (.int (nI k))] [] (mo h A (A3 a T2 R2 (mtk m k), f)) := by
    intro j
    induction j with
    | zero =>
      intro k T2 R2 hk
      refine g_iload_n (i := 3) dX10_ticksIt_22 rfl rfl ?_
      refine g_iload_n (i := 1) dX10_ticksIt_23 rfl rfl ?_
      refine g_icmp_ge (tgt := 40) dX10_ticksIt_24 (by decide) (fun c24 => ?_) (fun c24 => ?_)
      · obtain rfl : k = n := by omega
        refine g_iload_n (i := 2) dX10_ticksIt_40 rfl rfl ?_
        refine g_iret dX10_ticksIt_41 rfl rfl ?_
        exact ⟨rfl, (T2, R2), rfl⟩
      · exact absurd ((le_nI (a := n) (b := k) rfl (by omega) (by omega)).mpr (by omega)) c24
    | succ j ih =>
      intro k T2 R2 hk
      refine g_iload_n (i := 3) dX10_ticksIt_22 rfl rfl ?_
      refine g_iload_n (i := 1) dX10_ticksIt_23 rfl rfl ?_
      refine g_icmp_ge (tgt := 40) dX10_ticksIt_24 (by decide) (fun c24 => ?_) (fun c24 => ?_)
      · exact absurd ((le_nI (a := n) (b := k) rfl (by omega) (by omega)).mp c24) (by omega)
      · refine g_iload_n (i := 2) dX10_ticksIt_27 rfl rfl ?_
        refine g_aload_n (i := 0) dX10_ticksIt_28 rfl rfl ?_
        refine g_callV (ev_tick hl) dX10_ticksIt_29 ml_X10_142 cvX10_passesTick K_X10 rfl mo_30 rfl rfl (Nat.le_of_ble_eq_true rfl) (Nat.le_of_ble_eq_true rfl) (Nat.zero_le _) (Nat.zero_le _) (kr_x (fun y9 => ?_)) kx_x
        refine g_iadd dX10_ticksIt_32 ?_
        refine g_istore_n (i := 2) dX10_ticksIt_33 rfl (Nat.le_of_ble_eq_true rfl) ?_
        refine g_iinc (w := 1) dX10_ticksIt_34 (by decide) rfl (nI_succ k).symm (Nat.le_of_ble_eq_true rfl) ?_
        refine g_goto (tgt := 22) dX10_ticksIt_37 (by decide) ?_
        exact ih (k + 1) _ _ (by omega)
  refine g_iload_n (i := 1) dX10_ticksIt_0 rfl rfl ?_
  refine g_i2l dX10_ticksIt_1 ?_
  refine g_lconst (v := 1) dX10_ticksIt_2 (by decide) ?_
  refine g_ldc2 dX10_ticksIt_3 co_X10_140 ?_
  refine g_callS (ev_in hl (lo := 1) (hi := 20) (by decide) (by decide)) dX10_ticksIt_6 ml_X10_85 csX10_in rfl rfl (Nat.le_of_ble_eq_true rfl) (Nat.le_of_ble_eq_true rfl) (Nat.zero_le _) (Nat.zero_le _) (kr_rt ?_) kx_rt
  refine g_if_ne (tgt := 18) dX10_ticksIt_9 (by decide) (fun c9 => ?_) (fun c9 => ?_)
  · refine g_iconst (v := 0) dX10_ticksIt_18 (by decide) ?_
    refine g_istore_n (i := 2) dX10_ticksIt_19 rfl (Nat.le_of_ble_eq_true rfl) ?_
    refine g_iconst (v := 0) dX10_ticksIt_20 (by decide) ?_
    refine g_istore_n (i := 3) dX10_ticksIt_21 rfl (Nat.le_of_ble_eq_true rfl) ?_
    exact loop n 0 T R (Nat.zero_add n)
  · exact absurd c9 (by rw [if_pos ⟨(le_nI (a := 1) rfl (by decide) (by omega)).mpr hn1, (nI_le' (b := 20) rfl (by omega) (by decide)).mpr hn⟩]; decide)

theorem ev_ticksIt2 {l : Launch} {G : GG} (hl : l.stackTraces = false) {A : AD} {h : AH} {a : Nat → Nat → Int32} {f : Nat → Int32} {n : Nat} (hn1 : 1 ≤ n) (hn : n ≤ 20) :
    Ev l G 13 0 0 mX10_ticksIt [.ref (A 30 0), .int (nI n)] (mo h A (a, f)) (RtX (some (.int (mtR (a 0) n))) (fun x : (Nat → Int32) × (Nat → Int32) => (mo h A (A3 a x.1 x.2 (mtk (a 0) n), f)))) := by
  have e := ev_ticksIt hl (G := G) (A := A) (h := h) (a := a) (f := f) (T := a 6) (R := a 7) (m := a 0) hn1 hn
  rw [A3_self] at e
  exact e

set_option maxRecDepth 100000 in
theorem ev_mPass_no {l : Launch} {G : GG} (hl : l.stackTraces = false) {A : AD} {h : AH} {a : Nat → Nat → Int32} {f : Nat → Int32} {x : Int32} (hx : ¬ tickP x) :
    Ev l G 14 0 0 mX10_pass [.ref (A 30 0), .int x] (mo h A (a, f)) (Rt (some (.int (-1))) (mo h A ((va_up a 1 (a 0)), va_up (va_up f 11 0) 11 1))) := by
  refine Ev.of hl (by decide) (Nat.le_of_ble_eq_true rfl) ?_
  refine g_aload_n (i := 0) dX10_pass_0 rfl rfl ?_
  refine g_callV (ev_starts hl) dX10_pass_1 ml_X10_118 cvX10_starts K_X10 rfl mo_30 rfl rfl (Nat.le_of_ble_eq_true rfl) (Nat.le_of_ble_eq_true rfl) (Nat.zero_le _) (Nat.zero_le _) (kr_vd ?_) kx_rt
  refine g_aload_n (i := 0) dX10_pass_4 rfl rfl ?_
  refine g_aload_n (i := 0) dX10_pass_5 rfl rfl ?_
  refine g_iload_n (i := 1) dX10_pass_6 rfl rfl ?_
  refine g_callV (ev_ticksIt_no hl (a := (va_up a 1 (a 0))) (f := va_up f 11 0) hx) dX10_pass_7 ml_X10_146 cvX10_ticksIt K_X10 rfl mo_30 rfl rfl (Nat.le_of_ble_eq_true rfl) (Nat.le_of_ble_eq_true rfl) (Nat.zero_le _) (Nat.zero_le _) (kr_rt ?_) kx_rt
  refine g_callV (ev_changed_t hl (a := (va_up a 1 (a 0))) (f := va_up (va_up f 11 0) 11 1) (by rw [va_up_self]; decide)) dX10_pass_10 ml_X10_125 cvX10_changed K_X10 rfl mo_30 rfl rfl (Nat.le_of_ble_eq_true rfl) (Nat.le_of_ble_eq_true rfl) (Nat.zero_le _) (Nat.zero_le _) (kr_rt ?_) kx_rt
  refine g_iret dX10_pass_13 rfl rfl ?_
  exact ⟨rfl, rfl⟩

set_option maxRecDepth 100000 in
theorem ev_mPass {l : Launch} {G : GG} (hl : l.stackTraces = false) {A : AD} {h : AH} {a : Nat → Nat → Int32} {f : Nat → Int32} {n : Nat} (hn1 : 1 ≤ n) (hn : n ≤ 20) {ch : Nat} (h6 : f 6 = nI ch) (hch : ch ≤ 8) :
    Ev l G 14 0 0 mX10_pass [.ref (A 30 0), .int (nI n)] (mo h A (a, f)) (RtX (some (.int (mtR (a 0) n))) (fun x9 : (Nat → Int32) × (Nat → Int32) => (mo h A (chA (A3 (va_up a 1 (a 0)) x9.1 x9.2 (mtk (a 0) n)) ch, chF (va_up f 11 0) ch)))) := by
  refine Ev.of hl (by decide) (Nat.le_of_ble_eq_true rfl) ?_
  refine g_aload_n (i := 0) dX10_pass_0 rfl rfl ?_
  refine g_callV (ev_starts hl) dX10_pass_1 ml_X10_118 cvX10_starts K_X10 rfl mo_30 rfl rfl (Nat.le_of_ble_eq_true rfl) (Nat.le_of_ble_eq_true rfl) (Nat.zero_le _) (Nat.zero_le _) (kr_vd ?_) kx_rt
  refine g_aload_n (i := 0) dX10_pass_4 rfl rfl ?_
  refine g_aload_n (i := 0) dX10_pass_5 rfl rfl ?_
  refine g_iload_n (i := 1) dX10_pass_6 rfl rfl ?_
  refine g_callV (ev_ticksIt2 hl (a := (va_up a 1 (a 0))) (f := va_up f 11 0) hn1 hn) dX10_pass_7 ml_X10_146 cvX10_ticksIt K_X10 rfl mo_30 rfl rfl (Nat.le_of_ble_eq_true rfl) (Nat.le_of_ble_eq_true rfl) (Nat.zero_le _) (Nat.zero_le _) (kr_x (fun x9 => ?_)) kx_x
  refine g_callV (ev_changed hl (a := A3 (va_up a 1 (a 0)) x9.1 x9.2 (mtk (a 0) n)) (f := va_up f 11 0) (ch := ch) h6 (by rw [va_up_self]; decide) hch) dX10_pass_10 ml_X10_125 cvX10_changed K_X10 rfl mo_30 rfl rfl (Nat.le_of_ble_eq_true rfl) (Nat.le_of_ble_eq_true rfl) (Nat.zero_le _) (Nat.zero_le _) (kr_rt ?_) kx_rt
  refine g_iret dX10_pass_13 rfl rfl ?_
  exact ⟨rfl, x9, rfl⟩

set_option maxRecDepth 100000 in
theorem tub_cp1 {l : Launch} {G : GG} (hl : l.stackTraces = false) {A : AD} {h : AH} {a : Nat → Nat → Int32} {f : Nat → Int32} {v : Int32} {P9 : Post} (hout : ∀ X, Go l G mX10_ticksUntilBelow 13 0 0 P9 50 [some (.ref (A 30 0)), some (.int v), X, none] [] (mo h A (va_up a 2 (a 0), f))) : Go l G mX10_ticksUntilBelow 13 0 0 P9 25 [some (.ref (A 30 0)), some (.int v), some (.int (nI 0)), none] [] (mo h A (a, f)) := by
  have loop : ∀ (j : Nat) (k : Nat), k + j = 202 → Go l G mX10_ticksUntilBelow 13 0 0 P9 25 [some (.ref (A 30 0)), some (.int v), some (.int (nI k)), none] [] (mo h A (va_up a 2 (fun i => if i < k then a 0 i else a 2 i), f)) := by
    intro j
    induction j with
    | zero =>
      intro k hk
      refine g_iload_n (i := 2) dX10_ticksUntilBelow_25 rfl rfl ?_
      refine g_sipush (v := 202) dX10_ticksUntilBelow_26 (by decide) ?_
      refine g_icmp_ge (tgt := 50) dX10_ticksUntilBelow_29 (by decide) (fun c29 => ?_) (fun c29 => ?_)
      · refine Go.heap (mo_a2 (a := a) (f := f) (x := (fun i => if i < k then a 0 i else a 2 i))).symm ?_
        refine Go.arr (f' := a 0) (fun i hi => if_pos (by omega)) ?_
        refine Go.heap (mo_a2 (a := a) (f := f)) ?_
        exact hout _
      · exact absurd ((le_nI (a := 202) (b := k) rfl (by omega) (by omega)).mpr (by omega)) c29
    | succ j ih =>
      intro k hk
      refine g_iload_n (i := 2) dX10_ticksUntilBelow_25 rfl rfl ?_
      refine g_sipush (v := 202) dX10_ticksUntilBelow_26 (by decide) ?_
      refine g_icmp_ge (tgt := 50) dX10_ticksUntilBelow_29 (by decide) (fun c29 => ?_) (fun c29 => ?_)
      · exact absurd ((le_nI (a := 202) (b := k) rfl (by omega) (by omega)).mp c29) (by omega)
      · refine g_aload_n (i := 0) dX10_ticksUntilBelow_32 rfl rfl ?_
        refine g_getf dX10_ticksUntilBelow_33 K_X10 (k := 2) fl_X10_16 (Nat.le_of_ble_eq_true rfl) mo_30 rfl ?_
        refine g_iload_n (i := 2) dX10_ticksUntilBelow_36 rfl rfl ?_
        refine g_aload_n (i := 0) dX10_ticksUntilBelow_37 rfl rfl ?_
        refine g_getf dX10_ticksUntilBelow_38 K_X10 (k := 0) fl_X10_9 (Nat.le_of_ble_eq_true rfl) mo_30 rfl ?_
        refine g_iload_n (i := 2) dX10_ticksUntilBelow_41 rfl rfl ?_
        refine g_iald dX10_ticksUntilBelow_42 mo_31 (ix_nI (j := k) (by omega)) (by omega) ?_
        refine g_iast dX10_ticksUntilBelow_43 mo_33 (ix_nI (j := k) (by omega)) (by omega) rfl (Go.heap mo_a2 ?_)
        refine g_iinc (w := 1) dX10_ticksUntilBelow_44 (by decide) rfl (nI_succ k).symm (Nat.le_of_ble_eq_true rfl) ?_
        refine g_goto (tgt := 25) dX10_ticksUntilBelow_47 (by decide) ?_
        refine Go.heap (h' := (mo h A (va_up a 2 (fun i => if i < (k + 1) then a 0 i else a 2 i), f))) (by rw [va_up2, va_up_self, va_up_ne _ _ (show (0 : Nat) ≠ 2 by decide), cpS]) ?_
        exact ih (k + 1) (by omega)
  refine Go.heap (h' := (mo h A (va_up a 2 (fun i => if i < 0 then a 0 i else a 2 i), f))) ?_ (loop 202 0 rfl)
  congr 2; exact (va_self a 2).symm

set_option maxRecDepth 100000 in
theorem tub_cp2 {l : Launch} {G : GG} (hl : l.stackTraces = false) {A : AD} {h : AH} {a : Nat → Nat → Int32} {f : Nat → Int32} {v w : Int32} {P9 : Post} (hout : ∀ X, Go l G mX10_ticksUntilBelow 13 0 0 P9 104 [some (.ref (A 30 0)), some (.int v), some (.int w), X] [] (mo h A (va_up a 0 (a 2), f))) : Go l G mX10_ticksUntilBelow 13 0 0 P9 79 [some (.ref (A 30 0)), some (.int v), some (.int w), some (.int (nI 0))] [] (mo h A (a, f)) := by
  have loop : ∀ (j : Nat) (k : Nat), k + j = 202 → Go l G mX10_ticksUntilBelow 13 0 0 P9 79 [some (.ref (A 30 0)), some (.int v), some (.int w), some (.int (nI k))] [] (mo h A (va_up a 0 (fun i => if i < k then a 2 i else a 0 i), f)) := by
    intro j
    induction j with
    | zero =>
      intro k hk
      refine g_iload_n (i := 3) dX10_ticksUntilBelow_79 rfl rfl ?_
      refine g_sipush (v := 202) dX10_ticksUntilBelow_80 (by decide) ?_
      refine g_icmp_ge (tgt := 104) dX10_ticksUntilBelow_83 (by decide) (fun c83 => ?_) (fun c83 => ?_)
      · refine Go.heap (mo_a0 (a := a) (f := f) (x := (fun i => if i < k then a 2 i else a 0 i))).symm ?_
        refine Go.arr (f' := a 2) (fun i hi => if_pos (by omega)) ?_
        refine Go.heap (mo_a0 (a := a) (f := f)) ?_
        exact hout _
      · exact absurd ((le_nI (a := 202) (b := k) rfl (by omega) (by omega)).mpr (by omega)) c83
    | succ j ih =>
      intro k hk
      refine g_iload_n (i := 3) dX10_ticksUntilBelow_79 rfl rfl ?_
      refine g_sipush (v := 202) dX10_ticksUntilBelow_80 (by decide) ?_
      refine g_icmp_ge (tgt := 104) dX10_ticksUntilBelow_83 (by decide) (fun c83 => ?_) (fun c83 => ?_)
      · exact absurd ((le_nI (a := 202) (b := k) rfl (by omega) (by omega)).mp c83) (by omega)
      · refine g_aload_n (i := 0) dX10_ticksUntilBelow_86 rfl rfl ?_
        refine g_getf dX10_ticksUntilBelow_87 K_X10 (k := 0) fl_X10_9 (Nat.le_of_ble_eq_true rfl) mo_30 rfl ?_
        refine g_iload_n (i := 3) dX10_ticksUntilBelow_90 rfl rfl ?_
        refine g_aload_n (i := 0) dX10_ticksUntilBelow_91 rfl rfl ?_
        refine g_getf dX10_ticksUntilBelow_92 K_X10 (k := 2) fl_X10_16 (Nat.le_of_ble_eq_true rfl) mo_30 rfl ?_
        refine g_iload_n (i := 3) dX10_ticksUntilBelow_95 rfl rfl ?_
        refine g_iald dX10_ticksUntilBelow_96 mo_33 (ix_nI (j := k) (by omega)) (by omega) ?_
        refine g_iast dX10_ticksUntilBelow_97 mo_31 (ix_nI (j := k) (by omega)) (by omega) rfl (Go.heap mo_a0 ?_)
        refine g_iinc (w := 1) dX10_ticksUntilBelow_98 (by decide) rfl (nI_succ k).symm (Nat.le_of_ble_eq_true rfl) ?_
        refine g_goto (tgt := 79) dX10_ticksUntilBelow_101 (by decide) ?_
        refine Go.heap (h' := (mo h A (va_up a 0 (fun i => if i < (k + 1) then a 2 i else a 0 i), f))) (by rw [va_up2, va_up_self, va_up_ne _ _ (show (2 : Nat) ≠ 0 by decide), cpS]) ?_
        exact ih (k + 1) (by omega)
  refine Go.heap (h' := (mo h A (va_up a 0 (fun i => if i < 0 then a 2 i else a 0 i), f))) ?_ (loop 202 0 rfl)
  congr 2; exact (va_self a 0).symm

set_option maxRecDepth 100000 in
theorem tub_while {l : Launch} {G : GG} (hl : l.stackTraces = false) {A : AD} {h : AH} {a : Nat → Nat → Int32} {f : Nat → Int32} {m : Nat → Int32} {v : Int32} {n9 : Nat} {P9 : Post} (hout : ∀ T R, Go l G mX10_ticksUntilBelow 13 0 0 P9 77 [some (.ref (A 30 0)), some (.int v), some (.int (nI n9)), none] [] (mo h A (A3 a T R (mtk m n9), f))) : ∀ (j : Nat) (k : Nat) (T R : Nat → Int32), k + j = 21 → tbM m v j k = n9 → Go l G mX10_ticksUntilBelow 13 0 0 P9 52 [some (.ref (A 30 0)), some (.int v), some (.int (nI k)), none] [] (mo h A (A3 a T R (mtk m k), f)) := by
  have loop : ∀ (j : Nat) (k : Nat) (T R : Nat → Int32), k + j = 21 → tbM m v j k = n9 → Go l G mX10_ticksUntilBelow 13 0 0 P9 52 [some (.ref (A 30 0)), some (.int v), some (.int (nI k)), none] [] (mo h A (A3 a T R (mtk m k), f)) := by
    intro j
    induction j with
    | zero =>
      intro k T R hk h9
      refine g_iload_n (i := 2) dX10_ticksUntilBelow_52 rfl rfl ?_
      refine g_bipush (v := 20) dX10_ticksUntilBelow_53 (by decide) ?_
      refine g_icmp_gt (tgt := 77) dX10_ticksUntilBelow_55 (by decide) (fun c55 => ?_) (fun c55 => ?_)
      · have e : k = n9 := h9
        subst e
        exact hout _ _
      · exact absurd ((lt_nI (a := 20) (b := k) rfl (by omega) (by omega)).mpr (by omega)) c55
    | succ j ih =>
      intro k T R hk h9
      refine g_iload_n (i := 2) dX10_ticksUntilBelow_52 rfl rfl ?_
      refine g_bipush (v := 20) dX10_ticksUntilBelow_53 (by decide) ?_
      refine g_icmp_gt (tgt := 77) dX10_ticksUntilBelow_55 (by decide) (fun c55 => ?_) (fun c55 => ?_)
      · exact absurd ((lt_nI (a := 20) (b := k) rfl (by omega) (by omega)).mp c55) (by omega)
      · refine g_aload_n (i := 0) dX10_ticksUntilBelow_58 rfl rfl ?_
        refine g_iload_n (i := 1) dX10_ticksUntilBelow_59 rfl rfl ?_
        refine g_callV (ev_isBelow hl) dX10_ticksUntilBelow_60 ml_X10_157 cvX10_isBelow K_X10 rfl mo_30 rfl rfl (Nat.le_of_ble_eq_true rfl) (Nat.le_of_ble_eq_true rfl) (Nat.zero_le _) (Nat.zero_le _) (kr_rt ?_) kx_rt
        refine g_if_ne (tgt := 77) dX10_ticksUntilBelow_63 (by decide) (fun c63 => ?_) (fun c63 => ?_)
        · have e : k = n9 := (if_pos (ite_1 c63)).symm.trans h9
          subst e
          exact hout _ _
        · refine g_aload_n (i := 0) dX10_ticksUntilBelow_66 rfl rfl ?_
          refine g_callV (ev_tick hl) dX10_ticksUntilBelow_67 ml_X10_142 cvX10_passesTick K_X10 rfl mo_30 rfl rfl (Nat.le_of_ble_eq_true rfl) (Nat.le_of_ble_eq_true rfl) (Nat.zero_le _) (Nat.zero_le _) (kr_x (fun y9 => ?_)) kx_x
          refine g_pop dX10_ticksUntilBelow_70 rfl ?_
          refine g_iinc (w := 1) dX10_ticksUntilBelow_71 (by decide) rfl (nI_succ k).symm (Nat.le_of_ble_eq_true rfl) ?_
          refine g_goto (tgt := 52) dX10_ticksUntilBelow_74 (by decide) ?_
          exact ih (k + 1) _ _ (by omega) ((if_neg (ite_0 c63)).symm.trans h9)
  exact loop
theorem tbM_le {m : Nat → Int32} {v : Int32} : ∀ (j k : Nat), tbM m v j k ≤ k + j
  | 0, k => Nat.le_refl _
  | j + 1, k => by
    rw [tbM]
    split
    · omega
    · have := tbM_le (m := m) (v := v) j (k + 1); omega

set_option maxRecDepth 100000 in
theorem ev_mTub {l : Launch} {G : GG} (hl : l.stackTraces = false) {A : AD} {h : AH} {a : Nat → Nat → Int32} {f : Nat → Int32} {v : Int32} (hv : levP v) {n : Nat} (hn : tbM (a 0) v 21 0 = n) (h20 : n ≤ 20) :
    Ev l G 13 0 0 mX10_ticksUntilBelow [.ref (A 30 0), .int v] (mo h A (a, f)) (RtX (some (.int (nI n))) (fun x : (Nat → Int32) × (Nat → Int32) => (mo h A (A3 (va_up a 2 (a 0)) x.1 x.2 (a 0), va_up f 11 0)))) := by
  refine Ev.of hl (by decide) (Nat.le_of_ble_eq_true rfl) ?_
  refine g_aload_n (i := 0) dX10_ticksUntilBelow_0 rfl rfl ?_
  refine g_iconst (v := 0) dX10_ticksUntilBelow_1 (by decide) ?_
  refine g_putf dX10_ticksUntilBelow_2 K_X10 (k := 11) fl_X10_67 (Nat.le_of_ble_eq_true rfl) rfl mo_30 (Nat.le_of_ble_eq_true rfl) rfl rfl (Go.heap (mo_f11) ?_)
  refine g_iload_n (i := 1) dX10_ticksUntilBelow_5 rfl rfl ?_
  refine g_i2l dX10_ticksUntilBelow_6 ?_
  refine g_lconst (v := 1) dX10_ticksUntilBelow_7 (by decide) ?_
  refine g_ldc2 dX10_ticksUntilBelow_8 co_X10_135 ?_
  refine g_callS (ev_in hl (lo := 1) (hi := 9999) (by decide) (by decide)) dX10_ticksUntilBelow_11 ml_X10_85 csX10_in rfl rfl (Nat.le_of_ble_eq_true rfl) (Nat.le_of_ble_eq_true rfl) (Nat.zero_le _) (Nat.zero_le _) (kr_rt ?_) kx_rt
  refine g_if_ne (tgt := 23) dX10_ticksUntilBelow_14 (by decide) (fun c14 => ?_) (fun c14 => ?_)
  · refine g_iconst (v := 0) dX10_ticksUntilBelow_23 (by decide) ?_
    refine g_istore_n (i := 2) dX10_ticksUntilBelow_24 rfl (Nat.le_of_ble_eq_true rfl) ?_
    refine tub_cp1 hl (a := a) (f := va_up f 11 0) (fun X => ?_)
    refine g_iconst (v := 0) dX10_ticksUntilBelow_50 (by decide) ?_
    refine g_istore_n (i := 2) dX10_ticksUntilBelow_51 rfl (Nat.le_of_ble_eq_true rfl) ?_
    refine Go.heap (h' := (mo h A (A3 (va_up a 2 (a 0)) (a 6) (a 7) (mtk (a 0) 0), va_up f 11 0))) (by show mo h A ((va_up a 2 (a 0)), _) = mo h A (A3 (va_up a 2 (a 0)) ((va_up a 2 (a 0)) 6) ((va_up a 2 (a 0)) 7) ((va_up a 2 (a 0)) 0), _); rw [A3_self]) ?_
    refine tub_while hl (m := a 0) (n9 := n) (fun T R => ?_) 21 0 _ _ rfl hn
    refine g_iconst (v := 0) dX10_ticksUntilBelow_77 (by decide) ?_
    refine g_istore_n (i := 3) dX10_ticksUntilBelow_78 rfl (Nat.le_of_ble_eq_true rfl) ?_
    refine tub_cp2 hl (a := A3 (va_up a 2 (a 0)) T R (mtk (a 0) n)) (f := va_up f 11 0) (fun X => ?_)
    refine Go.heap (h' := (mo h A (A3 (va_up a 2 (a 0)) T R (a 0), va_up f 11 0))) (by rw [A3_0]; rfl) ?_
    refine g_iload_n (i := 2) dX10_ticksUntilBelow_104 rfl rfl ?_
    refine g_bipush (v := 20) dX10_ticksUntilBelow_105 (by decide) ?_
    refine g_icmp_le (tgt := 118) dX10_ticksUntilBelow_107 (by decide) (fun c107 => ?_) (fun c107 => ?_)
    · refine g_iload_n (i := 2) dX10_ticksUntilBelow_118 rfl rfl ?_
      refine g_iret dX10_ticksUntilBelow_119 rfl rfl ?_
      exact ⟨rfl, (T, R), rfl⟩
    · exact absurd ((nI_le' (a := n) (b := 20) rfl (by omega) (by omega)).mpr h20) c107
  · exact absurd c14 (by rw [if_pos hv]; decide)

set_option maxRecDepth 100000 in
theorem ev_mTub_no2 {l : Launch} {G : GG} (hl : l.stackTraces = false) {A : AD} {h : AH} {a : Nat → Nat → Int32} {f : Nat → Int32} {v : Int32} (hv : levP v) {n : Nat} (hn : tbM (a 0) v 21 0 = n) (h20 : ¬ n ≤ 20) :
    Ev l G 13 0 0 mX10_ticksUntilBelow [.ref (A 30 0), .int v] (mo h A (a, f)) (RtX (some (.int (-1))) (fun x : (Nat → Int32) × (Nat → Int32) => (mo h A (A3 (va_up a 2 (a 0)) x.1 x.2 (a 0), va_up f 11 2)))) := by
  refine Ev.of hl (by decide) (Nat.le_of_ble_eq_true rfl) ?_
  refine g_aload_n (i := 0) dX10_ticksUntilBelow_0 rfl rfl ?_
  refine g_iconst (v := 0) dX10_ticksUntilBelow_1 (by decide) ?_
  refine g_putf dX10_ticksUntilBelow_2 K_X10 (k := 11) fl_X10_67 (Nat.le_of_ble_eq_true rfl) rfl mo_30 (Nat.le_of_ble_eq_true rfl) rfl rfl (Go.heap (mo_f11) ?_)
  refine g_iload_n (i := 1) dX10_ticksUntilBelow_5 rfl rfl ?_
  refine g_i2l dX10_ticksUntilBelow_6 ?_
  refine g_lconst (v := 1) dX10_ticksUntilBelow_7 (by decide) ?_
  refine g_ldc2 dX10_ticksUntilBelow_8 co_X10_135 ?_
  refine g_callS (ev_in hl (lo := 1) (hi := 9999) (by decide) (by decide)) dX10_ticksUntilBelow_11 ml_X10_85 csX10_in rfl rfl (Nat.le_of_ble_eq_true rfl) (Nat.le_of_ble_eq_true rfl) (Nat.zero_le _) (Nat.zero_le _) (kr_rt ?_) kx_rt
  refine g_if_ne (tgt := 23) dX10_ticksUntilBelow_14 (by decide) (fun c14 => ?_) (fun c14 => ?_)
  · refine g_iconst (v := 0) dX10_ticksUntilBelow_23 (by decide) ?_
    refine g_istore_n (i := 2) dX10_ticksUntilBelow_24 rfl (Nat.le_of_ble_eq_true rfl) ?_
    refine tub_cp1 hl (a := a) (f := va_up f 11 0) (fun X => ?_)
    refine g_iconst (v := 0) dX10_ticksUntilBelow_50 (by decide) ?_
    refine g_istore_n (i := 2) dX10_ticksUntilBelow_51 rfl (Nat.le_of_ble_eq_true rfl) ?_
    refine Go.heap (h' := (mo h A (A3 (va_up a 2 (a 0)) (a 6) (a 7) (mtk (a 0) 0), va_up f 11 0))) (by show mo h A ((va_up a 2 (a 0)), _) = mo h A (A3 (va_up a 2 (a 0)) ((va_up a 2 (a 0)) 6) ((va_up a 2 (a 0)) 7) ((va_up a 2 (a 0)) 0), _); rw [A3_self]) ?_
    refine tub_while hl (m := a 0) (n9 := n) (fun T R => ?_) 21 0 _ _ rfl hn
    refine g_iconst (v := 0) dX10_ticksUntilBelow_77 (by decide) ?_
    refine g_istore_n (i := 3) dX10_ticksUntilBelow_78 rfl (Nat.le_of_ble_eq_true rfl) ?_
    refine tub_cp2 hl (a := A3 (va_up a 2 (a 0)) T R (mtk (a 0) n)) (f := va_up f 11 0) (fun X => ?_)
    refine Go.heap (h' := (mo h A (A3 (va_up a 2 (a 0)) T R (a 0), va_up f 11 0))) (by rw [A3_0]; rfl) ?_
    refine g_iload_n (i := 2) dX10_ticksUntilBelow_104 rfl rfl ?_
    refine g_bipush (v := 20) dX10_ticksUntilBelow_105 (by decide) ?_
    refine g_icmp_le (tgt := 118) dX10_ticksUntilBelow_107 (by decide) (fun c107 => ?_) (fun c107 => ?_)
    · exact absurd ((nI_le' (a := n) (b := 20) rfl (by have := tbM_le (m := a 0) (v := v) 21 0; omega) (by omega)).mp c107) h20
    · refine g_aload_n (i := 0) dX10_ticksUntilBelow_110 rfl rfl ?_
      refine g_iconst (v := 2) dX10_ticksUntilBelow_111 (by decide) ?_
      refine g_callV (ev_throwing hl (x := 2)) dX10_ticksUntilBelow_112 ml_X10_76 cvX10_throwing K_X10 rfl mo_30 rfl rfl (Nat.le_of_ble_eq_true rfl) (Nat.le_of_ble_eq_true rfl) (Nat.zero_le _) (Nat.zero_le _) (kr_rt ?_) kx_rt
      refine g_goto (tgt := 119) dX10_ticksUntilBelow_115 (by decide) ?_
      refine g_iret dX10_ticksUntilBelow_119 rfl rfl ?_
      exact ⟨rfl, (T, R), by rw [va_up2]⟩
  · exact absurd c14 (by rw [if_pos hv]; decide)

set_option maxRecDepth 100000 in
theorem ev_mTub_no1 {l : Launch} {G : GG} (hl : l.stackTraces = false) {A : AD} {h : AH} {a : Nat → Nat → Int32} {f : Nat → Int32} {v : Int32} (hv : ¬ levP v) :
    Ev l G 13 0 0 mX10_ticksUntilBelow [.ref (A 30 0), .int v] (mo h A (a, f)) (Rt (some (.int (-1))) (mo h A (a, va_up f 11 1))) := by
  refine Ev.of hl (by decide) (Nat.le_of_ble_eq_true rfl) ?_
  refine g_aload_n (i := 0) dX10_ticksUntilBelow_0 rfl rfl ?_
  refine g_iconst (v := 0) dX10_ticksUntilBelow_1 (by decide) ?_
  refine g_putf dX10_ticksUntilBelow_2 K_X10 (k := 11) fl_X10_67 (Nat.le_of_ble_eq_true rfl) rfl mo_30 (Nat.le_of_ble_eq_true rfl) rfl rfl (Go.heap (mo_f11) ?_)
  refine g_iload_n (i := 1) dX10_ticksUntilBelow_5 rfl rfl ?_
  refine g_i2l dX10_ticksUntilBelow_6 ?_
  refine g_lconst (v := 1) dX10_ticksUntilBelow_7 (by decide) ?_
  refine g_ldc2 dX10_ticksUntilBelow_8 co_X10_135 ?_
  refine g_callS (ev_in hl (lo := 1) (hi := 9999) (by decide) (by decide)) dX10_ticksUntilBelow_11 ml_X10_85 csX10_in rfl rfl (Nat.le_of_ble_eq_true rfl) (Nat.le_of_ble_eq_true rfl) (Nat.zero_le _) (Nat.zero_le _) (kr_rt ?_) kx_rt
  refine g_if_ne (tgt := 23) dX10_ticksUntilBelow_14 (by decide) (fun c14 => ?_) (fun c14 => ?_)
  · exact absurd (if_neg hv) c14
  · refine g_aload_n (i := 0) dX10_ticksUntilBelow_17 rfl rfl ?_
    refine g_iconst (v := 1) dX10_ticksUntilBelow_18 (by decide) ?_
    refine g_callV (ev_throwing hl (x := 1)) dX10_ticksUntilBelow_19 ml_X10_76 cvX10_throwing K_X10 rfl mo_30 rfl rfl (Nat.le_of_ble_eq_true rfl) (Nat.le_of_ble_eq_true rfl) (Nat.zero_le _) (Nat.zero_le _) (kr_rt ?_) kx_rt
    refine g_iret dX10_ticksUntilBelow_22 rfl rfl ?_
    exact ⟨rfl, by rw [va_up2]⟩

