/-! Model: legends (by wip/whole/gen/m38.py). -/
def orH (H : Nat → Int32) (x : Int32) : Int32 := H x.toNatClampNeg
/-- cell c put into the order, from place q down -/
def orS (H : Nat → Int32) (c : Nat) : Nat → (Nat → Int32) → (Nat → Int32)
  | 0, P => va_up P 0 (nI c)
  | q + 1, P => if orH H (P q) ≤ H c then va_up P (q + 1) (nI c) else orS H c q (va_up P (q + 1) (P q))
def ordS (H R P0 : Nat → Int32) : Nat → (Nat → Int32) × Nat
  | 0 => (P0, 0)
  | k + 1 => if R k = 35 then ordS H R P0 k else (orS H k (ordS H R P0 k).2 (ordS H R P0 k).1, (ordS H R P0 k).2 + 1)
def gpM (H P : Nat → Int32) (k : Nat) : Int32 := orH H (P k) - orH H (P (k - 1))
def ib (k : Nat) (b : Nat → Int32) : Nat → Int32 := fun i => if i < k then (if i = 0 then 1 else 0) else b i
def bsC (H P : Nat → Int32) (k : Nat) : Option Nat → Prop
  | none => True
  | some b => gpM H P b < gpM H P k
/-- the best unmarked of the places 1 to k -/
noncomputable def bsN (H P B : Nat → Int32) : Nat → Option Nat
  | 0 => none
  | k + 1 => @ite _ (B (k + 1) = 0 ∧ bsC H P (k + 1) (bsN H P B k)) (Classical.propDecidable _) (some (k + 1)) (bsN H P B k)
noncomputable def dvN (H P : Nat → Int32) (n : Nat) (B : Nat → Int32) : Nat → Nat → Int32
  | 0 => B
  | q + 1 => match bsN H P (dvN H P n B q) (n - 1) with
    | none => dvN H P n B q
    | some x => va_up (dvN H P n B q) x 1
def cB (B : Nat → Int32) : Nat → Nat
  | 0 => 0
  | k + 1 => cB B k + (if B k = 0 then 0 else 1)
def A2 (a : Nat → Nat → Int32) (P B : Nat → Int32) : Nat → Nat → Int32 := va_up (va_up a 10 P) 11 B
def ordP (a : Nat → Nat → Int32) : Nat → Int32 := (ordS (a 0) (fun c => a 0 (128 + c)) (a 10) 64).1
def ordM (a : Nat → Nat → Int32) : Nat := (ordS (a 0) (fun c => a 0 (128 + c)) (a 10) 64).2
noncomputable def dvB (a : Nat → Nat → Int32) (c : Nat) : Nat → Int32 := dvN (a 0) (ordP a) (ordM a) (ib (ordM a) (a 11)) (c - 1)
noncomputable def lgA (a : Nat → Nat → Int32) (c : Nat) : Nat → Nat → Int32 := A2 a (ordP a) (dvB a c)
def lgF (f : Nat → Int32) (a : Nat → Nat → Int32) : Nat → Int32 := va_up f 20 (nI (ordM a))
def dvT (x v : Int32) : Int32 := if clsP x then v + 1 else v
/-- the sum of the gaps that don't divide, of the places 1 to k -/
def lsN (H P B : Nat → Int32) : Nat → Int32
  | 0 => 0
  | k + 1 => lsN H P B k + (if B (k + 1) = 0 then gpM H P (k + 1) else 0)
def atM (B : Nat → Int32) : Nat → Int32
  | 0 => -1
  | k + 1 => atM B k + (if B k = 0 then 0 else 1)
def fsN (p : Nat → Bool) : Nat → Nat → Option Nat
  | 0, _ => none
  | j + 1, k => if p k = true then some k else fsN p j (k + 1)
section OR
variable {H R P P0 B : Nat → Int32} {c k q n x : Nat}
theorem orH_nI (h : k < 2 ^ 31) : orH H (nI k) = H k := by unfold orH; rw [nI_cl h]
theorem orS_t (e : P q = nI x) (hx : x < 64) (h : H x ≤ H c) : orS H c (q + 1) P = va_up P (q + 1) (nI c) := if_pos (by rw [e, orH_nI (by omega)]; exact h)
theorem orS_f (e : P q = nI x) (hx : x < 64) (h : ¬ H x ≤ H c) : orS H c (q + 1) P = orS H c q (va_up P (q + 1) (P q)) := if_neg (by rw [e, orH_nI (by omega)]; exact h)
theorem orS_V : ∀ (q : Nat) (P : Nat → Int32), q ≤ n → (∀ i, i < n + 1 → i ≠ q → ∃ d, d < k + 1 ∧ P i = nI d) → ∀ i, i < n + 1 → ∃ d, d < k + 1 ∧ orS H k q P i = nI d
  | 0, P, _, h => fun i hi => by
    by_cases e : i = 0
    · subst e; exact ⟨k, by omega, va_up_self _ _ _⟩
    · rw [orS, va_up_ne _ _ e]; exact h i hi e
  | q + 1, P, hq, h => fun i hi => by
    rw [orS]
    split
    · by_cases e : i = q + 1
      · subst e; exact ⟨k, by omega, va_up_self _ _ _⟩
      · rw [va_up_ne _ _ e]; exact h i hi e
    · refine orS_V q _ (by omega) (fun i hi hne => ?_) i hi
      by_cases e : i = q + 1
      · subst e; rw [va_up_self]; exact h q (by omega) (by omega)
      · rw [va_up_ne _ _ e]; exact h i hi e
theorem ordS_le : ∀ k, (ordS H R P0 k).2 ≤ k
  | 0 => Nat.le_refl _
  | k + 1 => by
    have := ordS_le k
    rw [ordS]
    split
    · omega
    · show (ordS H R P0 k).2 + 1 ≤ _; omega
theorem ordS_V : ∀ k, ∀ i, i < (ordS H R P0 k).2 → ∃ d, d < k ∧ (ordS H R P0 k).1 i = nI d
  | 0, i, hi => absurd hi (Nat.not_lt_zero i)
  | k + 1, i, hi => by
    have hv := ordS_V k
    rw [ordS] at hi ⊢
    by_cases e : R k = 35
    · rw [if_pos e] at hi ⊢
      obtain ⟨d, hd, ed⟩ := hv i hi
      exact ⟨d, by omega, ed⟩
    · rw [if_neg e] at hi ⊢
      exact orS_V _ _ (Nat.le_refl _) (fun i hi hne => by
        obtain ⟨d, hd, ed⟩ := hv i (by omega)
        exact ⟨d, by omega, ed⟩) i hi
theorem bs_t (h : B (k + 1) = 0) (h2 : bsC H P (k + 1) (bsN H P B k)) : bsN H P B (k + 1) = some (k + 1) := @if_pos _ (Classical.propDecidable _) ⟨h, h2⟩ _ _ _
theorem bs_f (h : ¬ (B (k + 1) = 0 ∧ bsC H P (k + 1) (bsN H P B k))) : bsN H P B (k + 1) = bsN H P B k := @if_neg _ (Classical.propDecidable _) h _ _ _
theorem bs_in : ∀ k b, bsN H P B k = some b → 1 ≤ b ∧ b ≤ k ∧ B b = 0
  | 0, _, h => by cases h
  | k + 1, b, h => by
    by_cases e : B (k + 1) = 0 ∧ bsC H P (k + 1) (bsN H P B k)
    · rw [bs_t e.1 e.2] at h
      cases h
      exact ⟨by omega, by omega, e.1⟩
    · rw [bs_f e] at h
      have := bs_in k b h
      exact ⟨this.1, by omega, this.2.2⟩
theorem bs_none : ∀ k, bsN H P B k = none → ∀ i, 1 ≤ i → i ≤ k → ¬ B i = 0
  | 0, _, i, h1, h2 => by omega
  | k + 1, h, i, h1, h2 => by
    have e : ¬ (B (k + 1) = 0 ∧ bsC H P (k + 1) (bsN H P B k)) := fun q => by rw [bs_t q.1 q.2] at h; cases h
    rw [bs_f e] at h
    by_cases e2 : i = k + 1
    · subst e2
      exact fun q => e ⟨q, by rw [h]; trivial⟩
    · exact bs_none k h i h1 (by omega)
theorem bs_o (h : ¬ oI (bsN H P B k) = -1) : ∃ b, bsN H P B k = some b ∧ 1 ≤ b ∧ b ≤ k := by
  cases e : bsN H P B k with
  | none => rw [e] at h; exact absurd rfl h
  | some b => have := bs_in k b e; exact ⟨b, rfl, this.1, this.2.1⟩
theorem bs_n (h : oI (bsN H P B k) = -1) (hk : k < 2 ^ 30) : bsN H P B k = none := by
  cases e : bsN H P B k with
  | none => rfl
  | some b => rw [e] at h; have := bs_in k b e; exact absurd h (nI_nm (by omega))
theorem cB_up : ∀ n, cB (va_up B x 1) n ≤ cB B n + 1 ∧ (n ≤ x → cB (va_up B x 1) n = cB B n)
  | 0 => ⟨by rw [cB]; omega, fun _ => rfl⟩
  | n + 1 => by
    have := cB_up n
    rw [cB, cB]
    by_cases e : n = x
    · subst e
      rw [this.2 (Nat.le_refl _)]
      refine ⟨?_, fun q => by omega⟩
      split <;> split <;> omega
    · rw [va_up_ne _ _ e]
      refine ⟨by omega, fun q => by rw [this.2 (by omega)]⟩
theorem cB_ib {b : Nat → Int32} : ∀ k, k ≤ n → cB (ib n b) k ≤ 1 ∧ (k = 0 → cB (ib n b) k = 0)
  | 0, _ => ⟨Nat.zero_le _, fun _ => rfl⟩
  | k + 1, h => by
    have z := cB_ib (b := b) k (by omega)
    refine ⟨?_, fun q => by omega⟩
    rw [cB]
    by_cases e : k = 0
    · have := z.2 e; rw [this]; split <;> omega
    · rw [show ib n b k = 0 from (if_pos (show k < n by omega)).trans (if_neg e), if_pos rfl]; exact z.1
theorem cB_full : ∀ n, (∀ i, i < n → ¬ B i = 0) → cB B n = n
  | 0, _ => rfl
  | n + 1, h => by rw [cB, cB_full n (fun i hi => h i (by omega)), if_neg (h n (by omega))]
theorem dv_up : dvN H P n B (q + 1) = dvN H P n B q ∨ ∃ x, 1 ≤ x ∧ dvN H P n B (q + 1) = va_up (dvN H P n B q) x 1 := by
  rw [dvN]
  cases e : bsN H P (dvN H P n B q) (n - 1) with
  | none => exact Or.inl rfl
  | some x => exact Or.inr ⟨x, (bs_in _ _ e).1, rfl⟩
theorem dv_cnt : ∀ q, cB (dvN H P n B q) n ≤ cB B n + q
  | 0 => Nat.le_refl _
  | q + 1 => by
    have h := dv_cnt q
    rcases dv_up (H := H) (P := P) (n := n) (B := B) (q := q) with e | ⟨x, -, e⟩
    · rw [e]; omega
    · rw [e]; have := (cB_up (B := dvN H P n B q) (x := x) n).1; omega
theorem dv_0 : ∀ q, ¬ B 0 = 0 → ¬ dvN H P n B q 0 = 0
  | 0, h => h
  | q + 1, h => by
    rcases dv_up (H := H) (P := P) (n := n) (B := B) (q := q) with e | ⟨x, hx, e⟩
    · rw [e]; exact dv_0 q h
    · rw [e, va_up_ne _ _ (by omega)]; exact dv_0 q h
theorem dv_some {b : Nat → Int32} (hq : q + 1 < n) : ∃ x, bsN H P (dvN H P n (ib n b) q) (n - 1) = some x ∧ 1 ≤ x ∧ x < n := by
  cases e : bsN H P (dvN H P n (ib n b) q) (n - 1) with
  | some x => have := bs_in _ _ e; exact ⟨x, rfl, this.1, by omega⟩
  | none =>
    have h0 : ¬ ib n b 0 = 0 := by rw [show ib n b 0 = 1 from (if_pos (show 0 < n by omega)).trans (if_pos rfl)]; decide
    have h1 := cB_full (B := dvN H P n (ib n b) q) n (fun i hi => by
      by_cases e0 : i = 0
      · subst e0; exact dv_0 q h0
      · exact bs_none _ e i (by omega) (by omega))
    have h2 := dv_cnt (H := H) (P := P) (n := n) (B := ib n b) q
    have h3 := (cB_ib (n := n) (b := b) n (Nat.le_refl _)).1
    omega
theorem dv_s (e : bsN H P (dvN H P n B q) (n - 1) = some x) : dvN H P n B (q + 1) = va_up (dvN H P n B q) x 1 := by rw [dvN, e]
theorem ib_0 {b : Nat → Int32} : ib 0 b = b := by funext i; simp [ib]
theorem ib_s {b : Nat → Int32} {v : Int32} (h : v = if k = 0 then 1 else 0) : va_up (ib k b) k v = ib (k + 1) b := by
  subst h
  exact cpS (b := fun i => if i = 0 then 1 else 0)
theorem dvT_pos {z : Int32} : 0 < dvT z 1 ∧ 0 < dvT z 2 := by unfold dvT; split <;> decide
end OR
section M10
variable {h : AH} {A : AD} {a : Nat → Nat → Int32} {f : Nat → Int32} {P B x : Nat → Int32} {u v : Int32}
theorem mo_p41 : mo h A (va_up a 10 P, f) 41 0 = some (iArr (A 41 0) 64 P) := rfl
theorem mo_q41 : up (mo h A (va_up a 10 P, f)) 41 0 (iArr (A 41 0) 64 x) = mo h A (va_up a 10 x, f) := by rw [mo_a10, va_up2]
theorem mo_r41 : mo h A (A2 a P B, f) 41 0 = some (iArr (A 41 0) 64 P) := rfl
theorem mo_r42 : mo h A (A2 a P B, f) 42 0 = some (zArr (A 42 0) 64 B) := rfl
theorem mo_s42 : up (mo h A (A2 a P B, f)) 42 0 (zArr (A 42 0) 64 x) = mo h A (A2 a P x, f) := by unfold A2; rw [mo_a11, va_up2]
theorem mo_g20 : up (mo h A (a, va_up f 20 u)) 30 0 (moO A (va_up (va_up f 20 u) 20 v)) = mo h A (a, va_up f 20 v) := by rw [mo_f20, va_up2]
end M10

set_option maxRecDepth 100000 in
theorem or_inner {l : Launch} {G : GG} (hl : l.stackTraces = false) {A : AD} {h : AH} {a : Nat → Nat → Int32} {f : Nat → Int32} {k : Nat} (hk : k < 64) {P9 : Post} : ∀ (q : Nat) (P : Nat → Int32), q < 64 → (∀ i, i < q → ∃ c, c < 64 ∧ P i = nI c) → (∀ X, Go l G mX10_orders 11 0 0 P9 83 [some (.ref (A 30 0)), some (.int (nI k)), X] [] (mo h A (va_up a 10 (orS (a 0) k q P), f))) → Go l G mX10_orders 11 0 0 P9 26 [some (.ref (A 30 0)), some (.int (nI k)), some (.int (nI q))] [] (mo h A (va_up a 10 P, f)) := by
  intro q
  induction q with
  | zero =>
    intro P hq hv hout
    refine g_iload_n (i := 2) dX10_orders_26 rfl rfl ?_
    refine g_if_le (tgt := 76) dX10_orders_27 (by decide) (fun c27 => ?_) (fun c27 => ?_)
    · refine g_aload_n (i := 0) dX10_orders_76 rfl rfl ?_
      refine g_getf dX10_orders_77 K_X10 (k := 18) fl_X10_48 (Nat.le_of_ble_eq_true rfl) mo_30 rfl ?_
      refine g_iload_n (i := 2) dX10_orders_80 rfl rfl ?_
      refine g_iload_n (i := 1) dX10_orders_81 rfl rfl ?_
      refine g_iast dX10_orders_82 mo_p41 (ix_nI (j := 0) (by omega)) (by omega) rfl (Go.heap mo_q41 ?_)
      exact hout _
    · exact absurd (Int32.le_refl 0) c27
  | succ q ih =>
    intro P hq hv hout
    refine g_iload_n (i := 2) dX10_orders_26 rfl rfl ?_
    refine g_if_le (tgt := 76) dX10_orders_27 (by decide) (fun c27 => ?_) (fun c27 => ?_)
    · exact absurd ((nI_le' (a := q + 1) (b := 0) rfl (by omega) (by omega)).mp c27) (by omega)
    · obtain ⟨x, hx, ex⟩ := hv q (by omega)
      refine g_aload_n (i := 0) dX10_orders_30 rfl rfl ?_
      refine g_getf dX10_orders_31 K_X10 (k := 0) fl_X10_9 (Nat.le_of_ble_eq_true rfl) mo_30 rfl ?_
      refine g_iconst (v := 0) dX10_orders_34 (by decide) ?_
      refine g_aload_n (i := 0) dX10_orders_35 rfl rfl ?_
      refine g_getf dX10_orders_36 K_X10 (k := 18) fl_X10_48 (Nat.le_of_ble_eq_true rfl) mo_30 rfl ?_
      refine g_iload_n (i := 2) dX10_orders_39 rfl rfl ?_
      refine g_iconst (v := 1) dX10_orders_40 (by decide) ?_
      refine g_isub dX10_orders_41 ?_
      rw [nI_m]
      refine g_iald dX10_orders_42 mo_p41 (ix_nI (j := q) (by omega)) (by omega) ?_
      refine g_iadd dX10_orders_43 ?_
      refine g_iald dX10_orders_44 mo_31 (show ix (0 + P q) x by rw [ex]; exact ix0 (by omega)) (show x < 202 by omega) ?_
      refine g_aload_n (i := 0) dX10_orders_45 rfl rfl ?_
      refine g_getf dX10_orders_46 K_X10 (k := 0) fl_X10_9 (Nat.le_of_ble_eq_true rfl) mo_30 rfl ?_
      refine g_iconst (v := 0) dX10_orders_49 (by decide) ?_
      refine g_iload_n (i := 1) dX10_orders_50 rfl rfl ?_
      refine g_iadd dX10_orders_51 ?_
      refine g_iald dX10_orders_52 mo_31 (ix0 (k := k) (by omega)) (by omega) ?_
      refine g_icmp_le (tgt := 76) dX10_orders_53 (by decide) (fun c53 => ?_) (fun c53 => ?_)
      · refine g_aload_n (i := 0) dX10_orders_76 rfl rfl ?_
        refine g_getf dX10_orders_77 K_X10 (k := 18) fl_X10_48 (Nat.le_of_ble_eq_true rfl) mo_30 rfl ?_
        refine g_iload_n (i := 2) dX10_orders_80 rfl rfl ?_
        refine g_iload_n (i := 1) dX10_orders_81 rfl rfl ?_
        refine g_iast dX10_orders_82 mo_p41 (ix_nI (j := q + 1) (by omega)) (by omega) rfl (Go.heap mo_q41 ?_)
        rw [orS_t (H := a 0) ex hx c53] at hout
        exact hout _
      · refine g_aload_n (i := 0) dX10_orders_56 rfl rfl ?_
        refine g_getf dX10_orders_57 K_X10 (k := 18) fl_X10_48 (Nat.le_of_ble_eq_true rfl) mo_30 rfl ?_
        refine g_iload_n (i := 2) dX10_orders_60 rfl rfl ?_
        refine g_aload_n (i := 0) dX10_orders_61 rfl rfl ?_
        refine g_getf dX10_orders_62 K_X10 (k := 18) fl_X10_48 (Nat.le_of_ble_eq_true rfl) mo_30 rfl ?_
        refine g_iload_n (i := 2) dX10_orders_65 rfl rfl ?_
        refine g_iconst (v := 1) dX10_orders_66 (by decide) ?_
        refine g_isub dX10_orders_67 ?_
        rw [nI_m]
        refine g_iald dX10_orders_68 mo_p41 (ix_nI (j := q) (by omega)) (by omega) ?_
        refine g_iast dX10_orders_69 mo_p41 (ix_nI (j := q + 1) (by omega)) (by omega) rfl (Go.heap mo_q41 ?_)
        refine g_iinc (w := (-1)) dX10_orders_70 (by decide) rfl (nI_dec q) (Nat.le_of_ble_eq_true rfl) ?_
        refine g_goto (tgt := 26) dX10_orders_73 (by decide) ?_
        rw [orS_f (H := a 0) ex hx c53] at hout
        exact ih _ (by omega) (fun i hi => by rw [va_up_ne _ _ (by omega)]; exact hv i (by omega)) hout

set_option maxRecDepth 100000 in
theorem ev_orders {l : Launch} {G : GG} (hl : l.stackTraces = false) {A : AD} {h : AH} {a : Nat → Nat → Int32} {f : Nat → Int32} :
    Ev l G 11 0 0 mX10_orders [.ref (A 30 0)] (mo h A (a, f)) (Rt none (mo h A (va_up a 10 (ordP a), lgF f a))) := by
  refine Ev.of hl (by decide) (Nat.le_of_ble_eq_true rfl) ?_
  have loop : ∀ (j : Nat) (k : Nat) (X : Option Value), k + j = 64 → Go l G mX10_orders 11 0 0 (Rt none (mo h A (va_up a 10 (ordP a), lgF f a))) 7 [some (.ref (A 30 0)), some (.int (nI k)), X] [] (mo h A (va_up a 10 (ordS (a 0) (fun c => a 0 (128 + c)) (a 10) k).1, va_up f 20 (nI (ordS (a 0) (fun c => a 0 (128 + c)) (a 10) k).2))) := by
    intro j
    induction j with
    | zero =>
      intro k X hk
      refine g_iload_n (i := 1) dX10_orders_7 rfl rfl ?_
      refine g_bipush (v := 64) dX10_orders_8 (by decide) ?_
      refine g_icmp_ge (tgt := 99) dX10_orders_10 (by decide) (fun c10 => ?_) (fun c10 => ?_)
      · obtain rfl : k = 64 := by omega
        refine g_vret dX10_orders_99 rfl ?_
        exact ⟨rfl, rfl⟩
      · exact absurd ((le_nI (a := 64) (b := k) rfl (by omega) (by omega)).mpr (by omega)) c10
    | succ j ih =>
      intro k X hk
      refine g_iload_n (i := 1) dX10_orders_7 rfl rfl ?_
      refine g_bipush (v := 64) dX10_orders_8 (by decide) ?_
      refine g_icmp_ge (tgt := 99) dX10_orders_10 (by decide) (fun c10 => ?_) (fun c10 => ?_)
      · exact absurd ((le_nI (a := 64) (b := k) rfl (by omega) (by omega)).mp c10) (by omega)
      · refine g_aload_n (i := 0) dX10_orders_13 rfl rfl ?_
        refine g_iload_n (i := 1) dX10_orders_14 rfl rfl ?_
        refine g_callV (ev_mRock hl (k := k) (by omega)) dX10_orders_15 ml_X10_89 cvX10_isRock K_X10 rfl mo_30 rfl rfl (Nat.le_of_ble_eq_true rfl) (Nat.le_of_ble_eq_true rfl) (Nat.zero_le _) (Nat.zero_le _) (kr_rt ?_) kx_rt
        refine g_if_ne (tgt := 93) dX10_orders_18 (by decide) (fun c18 => ?_) (fun c18 => ?_)
        · refine g_iinc (w := 1) dX10_orders_93 (by decide) rfl (nI_succ k).symm (Nat.le_of_ble_eq_true rfl) ?_
          refine g_goto (tgt := 7) dX10_orders_96 (by decide) ?_
          have e : (ordS (a 0) (fun c => a 0 (128 + c)) (a 10) (k + 1)) = (ordS (a 0) (fun c => a 0 (128 + c)) (a 10) k) := if_pos (ite_1 c18)
          have z := ih (k + 1) X (by omega)
          rw [e] at z
          exact z
        · refine g_aload_n (i := 0) dX10_orders_21 rfl rfl ?_
          refine g_getf dX10_orders_22 K_X10 (k := 20) fl_X10_190 (Nat.le_of_ble_eq_true rfl) mo_30 rfl ?_
          rw [show va_up f 20 (nI (ordS (a 0) (fun c => a 0 (128 + c)) (a 10) k).2) 20 = nI (ordS (a 0) (fun c => a 0 (128 + c)) (a 10) k).2 from va_up_self _ _ _]
          refine g_istore_n (i := 2) dX10_orders_25 rfl (Nat.le_of_ble_eq_true rfl) ?_
          refine or_inner hl (k := k) (by omega) (ordS (a 0) (fun c => a 0 (128 + c)) (a 10) k).2 (ordS (a 0) (fun c => a 0 (128 + c)) (a 10) k).1 (by have := ordS_le (H := a 0) (R := (fun c => a 0 (128 + c))) (P0 := a 10) k; omega) (fun i hi => ?_) (fun X2 => ?_)
          · obtain ⟨d, hd, ed⟩ := ordS_V (H := a 0) (R := (fun c => a 0 (128 + c))) (P0 := a 10) k i hi
            exact ⟨d, by omega, ed⟩
          · refine g_aload_n (i := 0) dX10_orders_83 rfl rfl ?_
            refine g_dup dX10_orders_84 rfl ?_
            refine g_getf dX10_orders_85 K_X10 (k := 20) fl_X10_190 (Nat.le_of_ble_eq_true rfl) mo_30 rfl ?_
            refine g_iconst (v := 1) dX10_orders_88 (by decide) ?_
            refine g_iadd dX10_orders_89 ?_
            rw [show va_up f 20 (nI (ordS (a 0) (fun c => a 0 (128 + c)) (a 10) k).2) 20 = nI (ordS (a 0) (fun c => a 0 (128 + c)) (a 10) k).2 from va_up_self _ _ _]
            rw [← nI_succ]
            refine g_putf dX10_orders_90 K_X10 (k := 20) fl_X10_190 (Nat.le_of_ble_eq_true rfl) rfl mo_30 (Nat.le_of_ble_eq_true rfl) rfl rfl (Go.heap (mo_f20 (f := va_up f 20 (nI (ordS (a 0) (fun c => a 0 (128 + c)) (a 10) k).2)) (v := nI ((ordS (a 0) (fun c => a 0 (128 + c)) (a 10) k).2 + 1))) ?_)
            refine g_iinc (w := 1) dX10_orders_93 (by decide) rfl (nI_succ k).symm (Nat.le_of_ble_eq_true rfl) ?_
            refine g_goto (tgt := 7) dX10_orders_96 (by decide) ?_
            have e : (ordS (a 0) (fun c => a 0 (128 + c)) (a 10) (k + 1)) = (orS (a 0) k (ordS (a 0) (fun c => a 0 (128 + c)) (a 10) k).2 (ordS (a 0) (fun c => a 0 (128 + c)) (a 10) k).1, (ordS (a 0) (fun c => a 0 (128 + c)) (a 10) k).2 + 1) := if_neg (ite_0 c18)
            have z := ih (k + 1) X2 (by omega)
            rw [e] at z
            refine Go.heap (h' := (mo h A (va_up a 10 (orS (a 0) k (ordS (a 0) (fun c => a 0 (128 + c)) (a 10) k).2 (ordS (a 0) (fun c => a 0 (128 + c)) (a 10) k).1), va_up f 20 (nI ((ordS (a 0) (fun c => a 0 (128 + c)) (a 10) k).2 + 1))))) (by rw [va_up2]) z
  refine g_aload_n (i := 0) dX10_orders_0 rfl rfl ?_
  refine g_iconst (v := 0) dX10_orders_1 (by decide) ?_
  refine g_putf dX10_orders_2 K_X10 (k := 20) fl_X10_190 (Nat.le_of_ble_eq_true rfl) rfl mo_30 (Nat.le_of_ble_eq_true rfl) rfl rfl (Go.heap (mo_f20) ?_)
  refine g_iconst (v := 0) dX10_orders_5 (by decide) ?_
  refine g_istore_n (i := 1) dX10_orders_6 rfl (Nat.le_of_ble_eq_true rfl) ?_
  refine Go.heap (h' := (mo h A (va_up a 10 (ordS (a 0) (fun c => a 0 (128 + c)) (a 10) 0).1, va_up f 20 (nI (ordS (a 0) (fun c => a 0 (128 + c)) (a 10) 0).2)))) ?_ (loop 64 0 _ rfl)
  show mo h A (a, va_up f 20 0) = mo h A (va_up a 10 (a 10), va_up f 20 (nI 0))
  rw [va_self]; rfl

set_option maxRecDepth 100000 in
theorem ev_gap {l : Launch} {G : GG} (hl : l.stackTraces = false) {A : AD} {h : AH} {a : Nat → Nat → Int32} {f : Nat → Int32} {q x1 x2 : Nat} (hq1 : 1 ≤ q) (hq : q < 64) (h1 : a 10 q = nI x1) (h2 : a 10 (q - 1) = nI x2) (hx1 : x1 < 64) (hx2 : x2 < 64) :
    Ev l G 10 0 0 mX10_gap [.ref (A 30 0), .int (nI q)] (mo h A (a, f)) (Rt (some (.int (gpM (a 0) (a 10) q))) (mo h A (a, f))) := by
  refine Ev.of hl (by decide) (Nat.le_of_ble_eq_true rfl) ?_
  refine g_aload_n (i := 0) dX10_gap_0 rfl rfl ?_
  refine g_getf dX10_gap_1 K_X10 (k := 0) fl_X10_9 (Nat.le_of_ble_eq_true rfl) mo_30 rfl ?_
  refine g_iconst (v := 0) dX10_gap_4 (by decide) ?_
  refine g_aload_n (i := 0) dX10_gap_5 rfl rfl ?_
  refine g_getf dX10_gap_6 K_X10 (k := 18) fl_X10_48 (Nat.le_of_ble_eq_true rfl) mo_30 rfl ?_
  refine g_iload_n (i := 1) dX10_gap_9 rfl rfl ?_
  refine g_iald dX10_gap_10 mo_41 (ix_nI (j := q) (by omega)) (by omega) ?_
  refine g_iadd dX10_gap_11 ?_
  refine g_iald dX10_gap_12 mo_31 (show ix (0 + a 10 q) x1 by rw [h1]; exact ix0 (by omega)) (show x1 < 202 by omega) ?_
  refine g_aload_n (i := 0) dX10_gap_13 rfl rfl ?_
  refine g_getf dX10_gap_14 K_X10 (k := 0) fl_X10_9 (Nat.le_of_ble_eq_true rfl) mo_30 rfl ?_
  refine g_iconst (v := 0) dX10_gap_17 (by decide) ?_
  refine g_aload_n (i := 0) dX10_gap_18 rfl rfl ?_
  refine g_getf dX10_gap_19 K_X10 (k := 18) fl_X10_48 (Nat.le_of_ble_eq_true rfl) mo_30 rfl ?_
  refine g_iload_n (i := 1) dX10_gap_22 rfl rfl ?_
  refine g_iconst (v := 1) dX10_gap_23 (by decide) ?_
  refine g_isub dX10_gap_24 ?_
  rw [nI_p hq1]
  refine g_iald dX10_gap_25 mo_41 (ix_nI (j := q - 1) (by omega)) (by omega) ?_
  refine g_iadd dX10_gap_26 ?_
  refine g_iald dX10_gap_27 mo_31 (show ix (0 + a 10 (q - 1)) x2 by rw [h2]; exact ix0 (by omega)) (show x2 < 202 by omega) ?_
  rw [← orH_nI (H := a 0) (k := x1) (by omega), ← orH_nI (H := a 0) (k := x2) (by omega), ← h1, ← h2]
  refine g_isub dX10_gap_28 ?_
  refine g_iret dX10_gap_29 rfl rfl ?_
  exact ⟨rfl, rfl⟩

set_option maxRecDepth 100000 in
theorem dv_init {l : Launch} {G : GG} (hl : l.stackTraces = false) {A : AD} {h : AH} {a : Nat → Nat → Int32} {f : Nat → Int32} {P : Nat → Int32} {n c : Nat} {v : Int32} (h20 : f 20 = nI n) (hn : n ≤ 64) {B : Nat → Int32} {P9 : Post} (hout : (∀ X, Go l G mX10_divides 12 0 0 P9 61 [some (.ref (A 30 0)), some (.int (nI c)), some (.int v), X, none, none] [] (mo h A (A2 a P (ib n B), f)))) : Go l G mX10_divides 12 0 0 P9 32 [some (.ref (A 30 0)), some (.int (nI c)), some (.int v), some (.int (nI 0)), none, none] [] (mo h A (A2 a P B, f)) := by
  have loop : ∀ (j : Nat) (k : Nat), k + j = n → Go l G mX10_divides 12 0 0 P9 32 [some (.ref (A 30 0)), some (.int (nI c)), some (.int v), some (.int (nI k)), none, none] [] (mo h A (A2 a P (ib k B), f)) := by
    intro j
    induction j with
    | zero =>
      intro k hk
      refine g_iload_n (i := 3) dX10_divides_32 rfl rfl ?_
      refine g_aload_n (i := 0) dX10_divides_33 rfl rfl ?_
      refine g_getf dX10_divides_34 K_X10 (k := 20) fl_X10_190 (Nat.le_of_ble_eq_true rfl) mo_30 rfl ?_
      refine g_icmp_ge (tgt := 61) dX10_divides_37 (by decide) (fun c37 => ?_) (fun c37 => ?_)
      · obtain rfl : k = n := by omega
        exact hout _
      · exact absurd ((le_nI (a := n) (b := k) h20 (by omega) (by omega)).mpr (by omega)) c37
    | succ j ih =>
      intro k hk
      refine g_iload_n (i := 3) dX10_divides_32 rfl rfl ?_
      refine g_aload_n (i := 0) dX10_divides_33 rfl rfl ?_
      refine g_getf dX10_divides_34 K_X10 (k := 20) fl_X10_190 (Nat.le_of_ble_eq_true rfl) mo_30 rfl ?_
      refine g_icmp_ge (tgt := 61) dX10_divides_37 (by decide) (fun c37 => ?_) (fun c37 => ?_)
      · exact absurd ((le_nI (a := n) (b := k) h20 (by omega) (by omega)).mp c37) (by omega)
      · refine g_aload_n (i := 0) dX10_divides_40 rfl rfl ?_
        refine g_getf dX10_divides_41 K_X10 (k := 19) fl_X10_51 (Nat.le_of_ble_eq_true rfl) mo_30 rfl ?_
        refine g_iload_n (i := 3) dX10_divides_44 rfl rfl ?_
        refine g_iload_n (i := 3) dX10_divides_45 rfl rfl ?_
        refine g_if_ne (tgt := 53) dX10_divides_46 (by decide) (fun c46 => ?_) (fun c46 => ?_)
        · refine g_iconst (v := 0) dX10_divides_53 (by decide) ?_
          refine g_zast dX10_divides_54 mo_r42 (ix_nI (j := k) (by omega)) (by omega) rfl (Go.heap mo_s42 ?_)
          refine g_iinc (w := 1) dX10_divides_55 (by decide) rfl (nI_succ k).symm (Nat.le_of_ble_eq_true rfl) ?_
          refine g_goto (tgt := 32) dX10_divides_58 (by decide) ?_
          have z := ih (k + 1) (by omega)
          rw [← ib_s (k := k) (b := B) ((if_neg (fun q9 => c46 (congrArg nI q9))).symm)] at z
          exact z
        · refine g_iconst (v := 1) dX10_divides_49 (by decide) ?_
          refine g_goto (tgt := 54) dX10_divides_50 (by decide) ?_
          refine g_zast dX10_divides_54 mo_r42 (ix_nI (j := k) (by omega)) (by omega) rfl (Go.heap mo_s42 ?_)
          refine g_iinc (w := 1) dX10_divides_55 (by decide) rfl (nI_succ k).symm (Nat.le_of_ble_eq_true rfl) ?_
          refine g_goto (tgt := 32) dX10_divides_58 (by decide) ?_
          have z := ih (k + 1) (by omega)
          rw [← ib_s (k := k) (b := B) ((if_pos ((nI_inj (a := k) (b := 0) (by omega) (by omega)).mp c46)).symm)] at z
          exact z
  refine Go.heap (h' := (mo h A (A2 a P (ib 0 B), f))) (by rw [ib_0]) (loop n 0 (Nat.zero_add n))

set_option maxRecDepth 100000 in
theorem dv_best {l : Launch} {G : GG} (hl : l.stackTraces = false) {A : AD} {h : AH} {a : Nat → Nat → Int32} {f : Nat → Int32} {P : Nat → Int32} {n c : Nat} {v : Int32} (h20 : f 20 = nI n) (hn : n ≤ 64) (hv : ∀ i, i < n → ∃ d, d < 64 ∧ P i = nI d) {r : Nat} {B : Nat → Int32} {P9 : Post} (hout : (∀ X, Go l G mX10_divides 12 0 0 P9 129 [some (.ref (A 30 0)), some (.int (nI c)), some (.int v), some (.int (nI r)), some (.int (oI (bsN (a 0) P B (n - 1)))), X] [] (mo h A (A2 a P B, f)))) : ∀ (j : Nat) (k : Nat), k + 1 + j = n → Go l G mX10_divides 12 0 0 P9 74 [some (.ref (A 30 0)), some (.int (nI c)), some (.int v), some (.int (nI r)), some (.int (oI (bsN (a 0) P B k))), some (.int (nI (k + 1)))] [] (mo h A (A2 a P B, f)) := by
  have loop : ∀ (j : Nat) (k : Nat), k + 1 + j = n → Go l G mX10_divides 12 0 0 P9 74 [some (.ref (A 30 0)), some (.int (nI c)), some (.int v), some (.int (nI r)), some (.int (oI (bsN (a 0) P B k))), some (.int (nI (k + 1)))] [] (mo h A (A2 a P B, f)) := by
    intro j
    induction j with
    | zero =>
      intro k hk
      refine g_iload dX10_divides_74 rfl ?_
      refine g_aload_n (i := 0) dX10_divides_76 rfl rfl ?_
      refine g_getf dX10_divides_77 K_X10 (k := 20) fl_X10_190 (Nat.le_of_ble_eq_true rfl) mo_30 rfl ?_
      refine g_icmp_ge (tgt := 129) dX10_divides_80 (by decide) (fun c80 => ?_) (fun c80 => ?_)
      · have e : k = n - 1 := by omega
        subst e
        exact hout _
      · exact absurd ((le_nI (a := n) (b := k + 1) h20 (by omega) (by omega)).mpr (by omega)) c80
    | succ j ih =>
      intro k hk
      refine g_iload dX10_divides_74 rfl ?_
      refine g_aload_n (i := 0) dX10_divides_76 rfl rfl ?_
      refine g_getf dX10_divides_77 K_X10 (k := 20) fl_X10_190 (Nat.le_of_ble_eq_true rfl) mo_30 rfl ?_
      refine g_icmp_ge (tgt := 129) dX10_divides_80 (by decide) (fun c80 => ?_) (fun c80 => ?_)
      · exact absurd ((le_nI (a := n) (b := k + 1) h20 (by omega) (by omega)).mp c80) (by omega)
      · refine g_aload_n (i := 0) dX10_divides_83 rfl rfl ?_
        refine g_getf dX10_divides_84 K_X10 (k := 19) fl_X10_51 (Nat.le_of_ble_eq_true rfl) mo_30 rfl ?_
        refine g_iload dX10_divides_87 rfl ?_
        refine g_zald dX10_divides_89 mo_r42 (ix_nI (j := k + 1) (by omega)) (by omega) ?_
        refine g_if_ne (tgt := 119) dX10_divides_90 (by decide) (fun c90 => ?_) (fun c90 => ?_)
        · refine g_iload dX10_divides_119 rfl ?_
          refine g_istore dX10_divides_121 (Nat.le_of_ble_eq_true rfl) ?_
          refine g_iinc (w := 1) dX10_divides_123 (by decide) rfl (nI_succ (k + 1)).symm (Nat.le_of_ble_eq_true rfl) ?_
          refine g_goto (tgt := 74) dX10_divides_126 (by decide) ?_
          have e : (bsN (a 0) P B (k + 1)) = (bsN (a 0) P B k) := bs_f (fun q9 => c90 q9.1)
          have z := ih (k + 1) (by omega)
          rw [e] at z
          exact z
        · refine g_iload dX10_divides_93 rfl ?_
          refine g_iconst (v := (-1)) dX10_divides_95 (by decide) ?_
          refine g_icmp_eq (tgt := 114) dX10_divides_96 (by decide) (fun c96 => ?_) (fun c96 => ?_)
          · refine g_iload dX10_divides_114 rfl ?_
            refine g_goto (tgt := 121) dX10_divides_116 (by decide) ?_
            refine g_istore dX10_divides_121 (Nat.le_of_ble_eq_true rfl) ?_
            refine g_iinc (w := 1) dX10_divides_123 (by decide) rfl (nI_succ (k + 1)).symm (Nat.le_of_ble_eq_true rfl) ?_
            refine g_goto (tgt := 74) dX10_divides_126 (by decide) ?_
            have e : (bsN (a 0) P B (k + 1)) = some (k + 1) := bs_t c90 (by rw [bs_n c96 (by omega)]; trivial)
            have z := ih (k + 1) (by omega)
            rw [e] at z
            exact z
          · obtain ⟨b, eb, hb1, hb2⟩ := bs_o c96
            obtain ⟨d1, hd1⟩ := hv (k + 1) (by omega)
            obtain ⟨d2, hd2⟩ := hv (k + 1 - 1) (by omega)
            obtain ⟨d3, hd3⟩ := hv b (by omega)
            obtain ⟨d4, hd4⟩ := hv (b - 1) (by omega)
            rw [eb]
            show Go l G mX10_divides 12 _ _ _ _ [_, _, _, _, some (.int (nI b)), _] _ _
            refine g_aload_n (i := 0) dX10_divides_99 rfl rfl ?_
            refine g_iload dX10_divides_100 rfl ?_
            refine g_callV (ev_gap hl (a := A2 a P B) (q := k + 1) (by omega) (by omega) hd1.2 hd2.2 hd1.1 hd2.1) dX10_divides_102 ml_X10_198 cvX10_gap K_X10 rfl mo_30 rfl rfl (Nat.le_of_ble_eq_true rfl) (Nat.le_of_ble_eq_true rfl) (Nat.zero_le _) (Nat.zero_le _) (kr_rt ?_) kx_rt
            refine g_aload_n (i := 0) dX10_divides_105 rfl rfl ?_
            refine g_iload dX10_divides_106 rfl ?_
            refine g_callV (ev_gap hl (a := A2 a P B) (q := b) (by omega) (by omega) hd3.2 hd4.2 hd3.1 hd4.1) dX10_divides_108 ml_X10_198 cvX10_gap K_X10 rfl mo_30 rfl rfl (Nat.le_of_ble_eq_true rfl) (Nat.le_of_ble_eq_true rfl) (Nat.zero_le _) (Nat.zero_le _) (kr_rt ?_) kx_rt
            refine g_icmp_le (tgt := 119) dX10_divides_111 (by decide) (fun c111 => ?_) (fun c111 => ?_)
            · refine g_iload dX10_divides_119 rfl ?_
              refine g_istore dX10_divides_121 (Nat.le_of_ble_eq_true rfl) ?_
              refine g_iinc (w := 1) dX10_divides_123 (by decide) rfl (nI_succ (k + 1)).symm (Nat.le_of_ble_eq_true rfl) ?_
              refine g_goto (tgt := 74) dX10_divides_126 (by decide) ?_
              have e : (bsN (a 0) P B (k + 1)) = (bsN (a 0) P B k) := bs_f (fun q9 => by rw [eb] at q9; exact absurd c111 (Int32.not_le.mpr q9.2))
              have z := ih (k + 1) (by omega)
              rw [e, eb] at z
              exact z
            · refine g_iload dX10_divides_114 rfl ?_
              refine g_goto (tgt := 121) dX10_divides_116 (by decide) ?_
              refine g_istore dX10_divides_121 (Nat.le_of_ble_eq_true rfl) ?_
              refine g_iinc (w := 1) dX10_divides_123 (by decide) rfl (nI_succ (k + 1)).symm (Nat.le_of_ble_eq_true rfl) ?_
              refine g_goto (tgt := 74) dX10_divides_126 (by decide) ?_
              have e : (bsN (a 0) P B (k + 1)) = some (k + 1) := bs_t c90 (by rw [eb]; exact Int32.not_le.mp c111)
              have z := ih (k + 1) (by omega)
              rw [e] at z
              exact z
  exact loop

set_option maxRecDepth 100000 in
theorem dv_rounds {l : Launch} {G : GG} (hl : l.stackTraces = false) {A : AD} {h : AH} {a : Nat → Nat → Int32} {f : Nat → Int32} {P : Nat → Int32} {n c : Nat} {v : Int32} (h20 : f 20 = nI n) (hn : n ≤ 64) (hv : ∀ i, i < n → ∃ d, d < 64 ∧ P i = nI d) (hc : c ≤ n) {B : Nat → Int32} : ∀ (j : Nat) (q : Nat) (X Y : Option Value), q + 1 + j = c → Go l G mX10_divides 12 0 0 (Rt (some (.int 0)) (mo h A (A2 a P (dvN (a 0) P n (ib n B) (c - 1)), f))) 63 [some (.ref (A 30 0)), some (.int (nI c)), some (.int v), some (.int (nI (q + 1))), X, Y] [] (mo h A (A2 a P (dvN (a 0) P n (ib n B) q), f)) := by
  have loop : ∀ (j : Nat) (q : Nat) (X Y : Option Value), q + 1 + j = c → Go l G mX10_divides 12 0 0 (Rt (some (.int 0)) (mo h A (A2 a P (dvN (a 0) P n (ib n B) (c - 1)), f))) 63 [some (.ref (A 30 0)), some (.int (nI c)), some (.int v), some (.int (nI (q + 1))), X, Y] [] (mo h A (A2 a P (dvN (a 0) P n (ib n B) q), f)) := by
    intro j
    induction j with
    | zero =>
      intro q X Y hq
      refine g_iload_n (i := 3) dX10_divides_63 rfl rfl ?_
      refine g_iload_n (i := 1) dX10_divides_64 rfl rfl ?_
      refine g_icmp_ge (tgt := 143) dX10_divides_65 (by decide) (fun c65 => ?_) (fun c65 => ?_)
      · have e : q = c - 1 := by omega
        subst e
        refine g_iconst (v := 0) dX10_divides_143 (by decide) ?_
        refine g_iret dX10_divides_144 rfl rfl ?_
        exact ⟨rfl, rfl⟩
      · exact absurd ((le_nI (a := c) (b := q + 1) rfl (by omega) (by omega)).mpr (by omega)) c65
    | succ j ih =>
      intro q X Y hq
      refine g_iload_n (i := 3) dX10_divides_63 rfl rfl ?_
      refine g_iload_n (i := 1) dX10_divides_64 rfl rfl ?_
      refine g_icmp_ge (tgt := 143) dX10_divides_65 (by decide) (fun c65 => ?_) (fun c65 => ?_)
      · exact absurd ((le_nI (a := c) (b := q + 1) rfl (by omega) (by omega)).mp c65) (by omega)
      · refine g_iconst (v := (-1)) dX10_divides_68 (by decide) ?_
        refine g_istore dX10_divides_69 (Nat.le_of_ble_eq_true rfl) ?_
        refine g_iconst (v := 1) dX10_divides_71 (by decide) ?_
        refine g_istore dX10_divides_72 (Nat.le_of_ble_eq_true rfl) ?_
        refine dv_best hl h20 hn hv (r := q + 1) (B := (dvN (a 0) P n (ib n B) q)) (fun X2 => ?_) (n - 1) 0 (by omega)
        obtain ⟨x, ex, hx1, hx2⟩ := dv_some (H := a 0) (P := P) (n := n) (b := B) (q := q) (by omega)
        rw [ex]
        show Go l G mX10_divides 12 _ _ _ _ [_, _, _, _, some (.int (nI x)), _] _ _
        refine g_aload_n (i := 0) dX10_divides_129 rfl rfl ?_
        refine g_getf dX10_divides_130 K_X10 (k := 19) fl_X10_51 (Nat.le_of_ble_eq_true rfl) mo_30 rfl ?_
        refine g_iload dX10_divides_133 rfl ?_
        refine g_iconst (v := 1) dX10_divides_135 (by decide) ?_
        refine g_zast dX10_divides_136 mo_r42 (ix_nI (j := x) (by omega)) (by omega) rfl (Go.heap mo_s42 ?_)
        refine g_iinc (w := 1) dX10_divides_137 (by decide) rfl (nI_succ (q + 1)).symm (Nat.le_of_ble_eq_true rfl) ?_
        refine g_goto (tgt := 63) dX10_divides_140 (by decide) ?_
        have z := ih (q + 1) (some (.int (nI x))) X2 (by omega)
        rw [dv_s ex] at z
        exact z
  exact loop
theorem ordM_le {a : Nat → Nat → Int32} : ordM a ≤ 64 := ordS_le 64
theorem ordP_V {a : Nat → Nat → Int32} : ∀ i, i < ordM a → ∃ d, d < 64 ∧ ordP a i = nI d := ordS_V 64

set_option maxRecDepth 100000 in
theorem ev_divides {l : Launch} {G : GG} (hl : l.stackTraces = false) {A : AD} {h : AH} {a : Nat → Nat → Int32} {f : Nat → Int32} {c : Nat} (hc1 : 1 ≤ c) (hc6 : c ≤ 6) (hc : c ≤ ordM a) {v : Int32} :
    Ev l G 12 0 0 mX10_divides [.ref (A 30 0), .int (nI c), .int v] (mo h A (a, f)) (Rt (some (.int 0)) (mo h A (lgA a c, lgF f a))) := by
  refine Ev.of hl (by decide) (Nat.le_of_ble_eq_true rfl) ?_
  refine g_aload_n (i := 0) dX10_divides_0 rfl rfl ?_
  refine g_callV (ev_orders hl) dX10_divides_1 ml_X10_193 cvX10_orders K_X10 rfl mo_30 rfl rfl (Nat.le_of_ble_eq_true rfl) (Nat.le_of_ble_eq_true rfl) (Nat.zero_le _) (Nat.zero_le _) (kr_vd ?_) kx_rt
  refine g_iload_n (i := 1) dX10_divides_4 rfl rfl ?_
  refine g_i2l dX10_divides_5 ?_
  refine g_lconst (v := 1) dX10_divides_6 (by decide) ?_
  refine g_ldc2 dX10_divides_7 co_X10_196 ?_
  refine g_callS (ev_in hl (lo := 1) (hi := 6) (by decide) (by decide)) dX10_divides_10 ml_X10_85 csX10_in rfl rfl (Nat.le_of_ble_eq_true rfl) (Nat.le_of_ble_eq_true rfl) (Nat.zero_le _) (Nat.zero_le _) (kr_rt ?_) kx_rt
  refine g_if_ne (tgt := 18) dX10_divides_13 (by decide) (fun c13 => ?_) (fun c13 => ?_)
  · refine g_aload_n (i := 0) dX10_divides_18 rfl rfl ?_
    refine g_getf dX10_divides_19 K_X10 (k := 20) fl_X10_190 (Nat.le_of_ble_eq_true rfl) mo_30 rfl ?_
    refine g_iload_n (i := 1) dX10_divides_22 rfl rfl ?_
    refine g_icmp_ge (tgt := 30) dX10_divides_23 (by decide) (fun c23 => ?_) (fun c23 => ?_)
    · refine g_iconst (v := 0) dX10_divides_30 (by decide) ?_
      refine g_istore_n (i := 3) dX10_divides_31 rfl (Nat.le_of_ble_eq_true rfl) ?_
      have hm := ordM_le (a := a)
      refine Go.heap (h' := (mo h A (A2 a (ordP a) (a 11), lgF f a))) (by show mo h A (va_up a 10 (ordP a), _) = mo h A (va_up (va_up a 10 (ordP a)) 11 ((va_up a 10 (ordP a)) 11), _); rw [va_self]) ?_
      refine dv_init hl (f := lgF f a) (va_up_self _ _ _) hm (fun X => ?_)
      refine g_iconst (v := 1) dX10_divides_61 (by decide) ?_
      refine g_istore_n (i := 3) dX10_divides_62 rfl (Nat.le_of_ble_eq_true rfl) ?_
      exact dv_rounds hl (f := lgF f a) (va_up_self _ _ _) ordM_le ordP_V hc (B := a 11) (c - 1) 0 _ _ (by omega)
    · exact absurd ((nI_le' (a := c) (b := ordM a) (va_up_self _ _ _) (by omega) (by have := ordM_le (a := a); omega)).mpr hc) c23
  · exact absurd c13 (by rw [if_pos (show clsP (nI c) from ⟨(le_nI (a := 1) rfl (by decide) (by omega)).mpr hc1, (nI_le' (b := 6) rfl (by omega) (by decide)).mpr hc6⟩)]; decide)

set_option maxRecDepth 100000 in
theorem ev_divides_no {l : Launch} {G : GG} (hl : l.stackTraces = false) {A : AD} {h : AH} {a : Nat → Nat → Int32} {f : Nat → Int32} {x v : Int32} (hx : ¬ (clsP x ∧ x ≤ nI (ordM a))) :
    Ev l G 12 0 0 mX10_divides [.ref (A 30 0), .int x, .int v] (mo h A (a, f)) (Rt (some (.int (dvT x v))) (mo h A (va_up a 10 (ordP a), lgF f a))) := by
  refine Ev.of hl (by decide) (Nat.le_of_ble_eq_true rfl) ?_
  refine g_aload_n (i := 0) dX10_divides_0 rfl rfl ?_
  refine g_callV (ev_orders hl) dX10_divides_1 ml_X10_193 cvX10_orders K_X10 rfl mo_30 rfl rfl (Nat.le_of_ble_eq_true rfl) (Nat.le_of_ble_eq_true rfl) (Nat.zero_le _) (Nat.zero_le _) (kr_vd ?_) kx_rt
  refine g_iload_n (i := 1) dX10_divides_4 rfl rfl ?_
  refine g_i2l dX10_divides_5 ?_
  refine g_lconst (v := 1) dX10_divides_6 (by decide) ?_
  refine g_ldc2 dX10_divides_7 co_X10_196 ?_
  refine g_callS (ev_in hl (lo := 1) (hi := 6) (by decide) (by decide)) dX10_divides_10 ml_X10_85 csX10_in rfl rfl (Nat.le_of_ble_eq_true rfl) (Nat.le_of_ble_eq_true rfl) (Nat.zero_le _) (Nat.zero_le _) (kr_rt ?_) kx_rt
  refine g_if_ne (tgt := 18) dX10_divides_13 (by decide) (fun c13 => ?_) (fun c13 => ?_)
  · refine g_aload_n (i := 0) dX10_divides_18 rfl rfl ?_
    refine g_getf dX10_divides_19 K_X10 (k := 20) fl_X10_190 (Nat.le_of_ble_eq_true rfl) mo_30 rfl ?_
    refine g_iload_n (i := 1) dX10_divides_22 rfl rfl ?_
    refine g_icmp_ge (tgt := 30) dX10_divides_23 (by decide) (fun c23 => ?_) (fun c23 => ?_)
    · exact absurd ⟨ite_1 c13, by have z : x ≤ va_up f 20 (nI (ordM a)) 20 := c23; rw [va_up_self] at z; exact z⟩ hx
    · refine g_iload_n (i := 2) dX10_divides_26 rfl rfl ?_
      refine g_iconst (v := 1) dX10_divides_27 (by decide) ?_
      refine g_iadd dX10_divides_28 ?_
      refine g_iret dX10_divides_29 rfl rfl ?_
      exact ⟨by rw [dvT, if_pos (ite_1 c13)], rfl⟩
  · refine g_iload_n (i := 2) dX10_divides_16 rfl rfl ?_
    refine g_iret dX10_divides_17 rfl rfl ?_
    exact ⟨by rw [dvT, if_neg (ite_0 c13)], rfl⟩

set_option maxRecDepth 100000 in
theorem ls_loop {l : Launch} {G : GG} (hl : l.stackTraces = false) {A : AD} {h : AH} {a : Nat → Nat → Int32} {f : Nat → Int32} {P B : Nat → Int32} {n : Nat} (h20 : f 20 = nI n) (hn : n ≤ 64) (h11 : f 11 = 0) (hv : ∀ i, i < n → ∃ d, d < 64 ∧ P i = nI d) {v : Int32} : ∀ (j : Nat) (k : Nat), k + 1 + j = n → Go l G mX10_legendSpread 13 0 0 (Rt (some (.int (lsN (a 0) P B (n - 1)))) (mo h A (A2 a P B, f))) 25 [some (.ref (A 30 0)), some (.int v), some (.int (lsN (a 0) P B k)), some (.int (nI (k + 1)))] [] (mo h A (A2 a P B, f)) := by
  have loop : ∀ (j : Nat) (k : Nat), k + 1 + j = n → Go l G mX10_legendSpread 13 0 0 (Rt (some (.int (lsN (a 0) P B (n - 1)))) (mo h A (A2 a P B, f))) 25 [some (.ref (A 30 0)), some (.int v), some (.int (lsN (a 0) P B k)), some (.int (nI (k + 1)))] [] (mo h A (A2 a P B, f)) := by
    intro j
    induction j with
    | zero =>
      intro k hk
      refine g_iload_n (i := 3) dX10_legendSpread_25 rfl rfl ?_
      refine g_aload_n (i := 0) dX10_legendSpread_26 rfl rfl ?_
      refine g_getf dX10_legendSpread_27 K_X10 (k := 20) fl_X10_190 (Nat.le_of_ble_eq_true rfl) mo_30 rfl ?_
      refine g_icmp_ge (tgt := 67) dX10_legendSpread_30 (by decide) (fun c30 => ?_) (fun c30 => ?_)
      · have e : k = n - 1 := by omega
        subst e
        refine g_iload_n (i := 2) dX10_legendSpread_67 rfl rfl ?_
        refine g_iret dX10_legendSpread_68 rfl rfl ?_
        exact ⟨rfl, rfl⟩
      · exact absurd ((le_nI (a := n) (b := k + 1) h20 (by omega) (by omega)).mpr (by omega)) c30
    | succ j ih =>
      intro k hk
      refine g_iload_n (i := 3) dX10_legendSpread_25 rfl rfl ?_
      refine g_aload_n (i := 0) dX10_legendSpread_26 rfl rfl ?_
      refine g_getf dX10_legendSpread_27 K_X10 (k := 20) fl_X10_190 (Nat.le_of_ble_eq_true rfl) mo_30 rfl ?_
      refine g_icmp_ge (tgt := 67) dX10_legendSpread_30 (by decide) (fun c30 => ?_) (fun c30 => ?_)
      · exact absurd ((le_nI (a := n) (b := k + 1) h20 (by omega) (by omega)).mp c30) (by omega)
      · refine g_aload_n (i := 0) dX10_legendSpread_33 rfl rfl ?_
        refine g_getf dX10_legendSpread_34 K_X10 (k := 11) fl_X10_67 (Nat.le_of_ble_eq_true rfl) mo_30 rfl ?_
        refine g_if_ne (tgt := 67) dX10_legendSpread_37 (by decide) (fun c37 => ?_) (fun c37 => ?_)
        · exact absurd h11 c37
        · refine g_iload_n (i := 2) dX10_legendSpread_40 rfl rfl ?_
          refine g_aload_n (i := 0) dX10_legendSpread_41 rfl rfl ?_
          refine g_getf dX10_legendSpread_42 K_X10 (k := 19) fl_X10_51 (Nat.le_of_ble_eq_true rfl) mo_30 rfl ?_
          refine g_iload_n (i := 3) dX10_legendSpread_45 rfl rfl ?_
          refine g_zald dX10_legendSpread_46 mo_r42 (ix_nI (j := k + 1) (by omega)) (by omega) ?_
          refine g_if_eq (tgt := 54) dX10_legendSpread_47 (by decide) (fun c47 => ?_) (fun c47 => ?_)
          · obtain ⟨d1, hd1⟩ := hv (k + 1) (by omega)
            obtain ⟨d2, hd2⟩ := hv (k + 1 - 1) (by omega)
            refine g_aload_n (i := 0) dX10_legendSpread_54 rfl rfl ?_
            refine g_iload_n (i := 3) dX10_legendSpread_55 rfl rfl ?_
            refine g_callV (ev_gap hl (a := A2 a P B) (q := k + 1) (by omega) (by omega) hd1.2 hd2.2 hd1.1 hd2.1) dX10_legendSpread_56 ml_X10_198 cvX10_gap K_X10 rfl mo_30 rfl rfl (Nat.le_of_ble_eq_true rfl) (Nat.le_of_ble_eq_true rfl) (Nat.zero_le _) (Nat.zero_le _) (kr_rt ?_) kx_rt
            refine g_iadd dX10_legendSpread_59 ?_
            refine g_istore_n (i := 2) dX10_legendSpread_60 rfl (Nat.le_of_ble_eq_true rfl) ?_
            refine g_iinc (w := 1) dX10_legendSpread_61 (by decide) rfl (nI_succ (k + 1)).symm (Nat.le_of_ble_eq_true rfl) ?_
            refine g_goto (tgt := 25) dX10_legendSpread_64 (by decide) ?_
            have z := ih (k + 1) (by omega)
            rw [show (lsN (a 0) P B (k + 1)) = (lsN (a 0) P B k) + gpM (a 0) P (k + 1) from by rw [lsN, if_pos c47]] at z
            exact z
          · refine g_iconst (v := 0) dX10_legendSpread_50 (by decide) ?_
            refine g_goto (tgt := 59) dX10_legendSpread_51 (by decide) ?_
            refine g_iadd dX10_legendSpread_59 ?_
            refine g_istore_n (i := 2) dX10_legendSpread_60 rfl (Nat.le_of_ble_eq_true rfl) ?_
            refine g_iinc (w := 1) dX10_legendSpread_61 (by decide) rfl (nI_succ (k + 1)).symm (Nat.le_of_ble_eq_true rfl) ?_
            refine g_goto (tgt := 25) dX10_legendSpread_64 (by decide) ?_
            rw [show (lsN (a 0) P B k) + 0 = (lsN (a 0) P B (k + 1)) from by rw [lsN, if_neg c47]]
            exact ih (k + 1) (by omega)
  exact loop

set_option maxRecDepth 100000 in
theorem ev_mSpread {l : Launch} {G : GG} (hl : l.stackTraces = false) {A : AD} {h : AH} {a : Nat → Nat → Int32} {f : Nat → Int32} {c : Nat} (hc1 : 1 ≤ c) (hc6 : c ≤ 6) (hc : c ≤ ordM a) :
    Ev l G 13 0 0 mX10_legendSpread [.ref (A 30 0), .int (nI c)] (mo h A (a, f)) (Rt (some (.int (lsN (a 0) (ordP a) (dvB a c) (ordM a - 1)))) (mo h A (lgA a c, va_up (lgF f a) 11 0))) := by
  refine Ev.of hl (by decide) (Nat.le_of_ble_eq_true rfl) ?_
  refine g_aload_n (i := 0) dX10_legendSpread_0 rfl rfl ?_
  refine g_aload_n (i := 0) dX10_legendSpread_1 rfl rfl ?_
  refine g_iload_n (i := 1) dX10_legendSpread_2 rfl rfl ?_
  refine g_iconst (v := 1) dX10_legendSpread_3 (by decide) ?_
  refine g_callV (ev_divides hl hc1 hc6 hc (v := 1)) dX10_legendSpread_4 ml_X10_201 cvX10_divides K_X10 rfl mo_30 rfl rfl (Nat.le_of_ble_eq_true rfl) (Nat.le_of_ble_eq_true rfl) (Nat.zero_le _) (Nat.zero_le _) (kr_rt ?_) kx_rt
  refine g_putf dX10_legendSpread_7 K_X10 (k := 11) fl_X10_67 (Nat.le_of_ble_eq_true rfl) rfl mo_30 (Nat.le_of_ble_eq_true rfl) rfl rfl (Go.heap (mo_f11) ?_)
  refine g_aload_n (i := 0) dX10_legendSpread_10 rfl rfl ?_
  refine g_getf dX10_legendSpread_11 K_X10 (k := 11) fl_X10_67 (Nat.le_of_ble_eq_true rfl) mo_30 rfl ?_
  refine g_if_le (tgt := 21) dX10_legendSpread_14 (by decide) (fun c14 => ?_) (fun c14 => ?_)
  · refine g_iconst (v := 0) dX10_legendSpread_21 (by decide) ?_
    refine g_istore_n (i := 2) dX10_legendSpread_22 rfl (Nat.le_of_ble_eq_true rfl) ?_
    refine g_iconst (v := 1) dX10_legendSpread_23 (by decide) ?_
    refine g_istore_n (i := 3) dX10_legendSpread_24 rfl (Nat.le_of_ble_eq_true rfl) ?_
    exact ls_loop hl (f := va_up (lgF f a) 11 0) (P := ordP a) (B := dvB a c) (n := ordM a) rfl ordM_le rfl ordP_V (ordM a - 1) 0 (by omega)
  · exact absurd (show (0 : Int32) ≤ 0 from Int32.le_refl 0) c14

set_option maxRecDepth 100000 in
theorem ev_mSpread_no {l : Launch} {G : GG} (hl : l.stackTraces = false) {A : AD} {h : AH} {a : Nat → Nat → Int32} {f : Nat → Int32} {x : Int32} (hx : ¬ (clsP x ∧ x ≤ nI (ordM a))) :
    Ev l G 13 0 0 mX10_legendSpread [.ref (A 30 0), .int x] (mo h A (a, f)) (Rt (some (.int (-1))) (mo h A (va_up a 10 (ordP a), va_up (lgF f a) 11 (dvT x 1)))) := by
  refine Ev.of hl (by decide) (Nat.le_of_ble_eq_true rfl) ?_
  refine g_aload_n (i := 0) dX10_legendSpread_0 rfl rfl ?_
  refine g_aload_n (i := 0) dX10_legendSpread_1 rfl rfl ?_
  refine g_iload_n (i := 1) dX10_legendSpread_2 rfl rfl ?_
  refine g_iconst (v := 1) dX10_legendSpread_3 (by decide) ?_
  refine g_callV (ev_divides_no hl hx (v := 1)) dX10_legendSpread_4 ml_X10_201 cvX10_divides K_X10 rfl mo_30 rfl rfl (Nat.le_of_ble_eq_true rfl) (Nat.le_of_ble_eq_true rfl) (Nat.zero_le _) (Nat.zero_le _) (kr_rt ?_) kx_rt
  refine g_putf dX10_legendSpread_7 K_X10 (k := 11) fl_X10_67 (Nat.le_of_ble_eq_true rfl) rfl mo_30 (Nat.le_of_ble_eq_true rfl) rfl rfl (Go.heap (mo_f11) ?_)
  refine g_aload_n (i := 0) dX10_legendSpread_10 rfl rfl ?_
  refine g_getf dX10_legendSpread_11 K_X10 (k := 11) fl_X10_67 (Nat.le_of_ble_eq_true rfl) mo_30 rfl ?_
  refine g_if_le (tgt := 21) dX10_legendSpread_14 (by decide) (fun c14 => ?_) (fun c14 => ?_)
  · exact absurd (show dvT x 1 ≤ 0 from c14) (Int32.not_le.mpr dvT_pos.1)
  · refine g_iconst (v := (-1)) dX10_legendSpread_17 (by decide) ?_
    refine g_goto (tgt := 22) dX10_legendSpread_18 (by decide) ?_
    refine g_istore_n (i := 2) dX10_legendSpread_22 rfl (Nat.le_of_ble_eq_true rfl) ?_
    refine g_iconst (v := 1) dX10_legendSpread_23 (by decide) ?_
    refine g_istore_n (i := 3) dX10_legendSpread_24 rfl (Nat.le_of_ble_eq_true rfl) ?_
    refine g_iload_n (i := 3) dX10_legendSpread_25 rfl rfl ?_
    refine g_aload_n (i := 0) dX10_legendSpread_26 rfl rfl ?_
    refine g_getf dX10_legendSpread_27 K_X10 (k := 20) fl_X10_190 (Nat.le_of_ble_eq_true rfl) mo_30 rfl ?_
    refine g_icmp_ge (tgt := 67) dX10_legendSpread_30 (by decide) (fun c30 => ?_) (fun c30 => ?_)
    · refine g_iload_n (i := 2) dX10_legendSpread_67 rfl rfl ?_
      refine g_iret dX10_legendSpread_68 rfl rfl ?_
      exact ⟨rfl, rfl⟩
    · refine g_aload_n (i := 0) dX10_legendSpread_33 rfl rfl ?_
      refine g_getf dX10_legendSpread_34 K_X10 (k := 11) fl_X10_67 (Nat.le_of_ble_eq_true rfl) mo_30 rfl ?_
      refine g_if_ne (tgt := 67) dX10_legendSpread_37 (by decide) (fun c37 => ?_) (fun c37 => ?_)
      · refine g_iload_n (i := 2) dX10_legendSpread_67 rfl rfl ?_
        refine g_iret dX10_legendSpread_68 rfl rfl ?_
        exact ⟨rfl, rfl⟩
      · exact absurd (show dvT x 1 = 0 from c37) (fun q9 => absurd dvT_pos.1 (by rw [q9]; decide))

set_option maxRecDepth 100000 in
theorem ev_mSpreadT {l : Launch} {G : GG} (hl : l.stackTraces = false) {A : AD} {h : AH} {a : Nat → Nat → Int32} {f : Nat → Int32} {c : Nat} (hc1 : 1 ≤ c) (hc6 : c ≤ 6) (hc : c ≤ ordM a) :
    Ev l G 14 0 0 mX10_legendSpreadByTable [.ref (A 30 0), .int (nI c)] (mo h A (a, f)) (Rt (some (.int (lsN (a 0) (ordP a) (dvB a c) (ordM a - 1)))) (mo h A (lgA a c, va_up (lgF f a) 11 0))) := by
  refine Ev.of hl (by decide) (Nat.le_of_ble_eq_true rfl) ?_
  refine g_aload_n (i := 0) dX10_legendSpreadByTable_0 rfl rfl ?_
  refine g_iload_n (i := 1) dX10_legendSpreadByTable_1 rfl rfl ?_
  refine g_callV (ev_mSpread hl hc1 hc6 hc) dX10_legendSpreadByTable_2 ml_X10_204 cvX10_legendSpread K_X10 rfl mo_30 rfl rfl (Nat.le_of_ble_eq_true rfl) (Nat.le_of_ble_eq_true rfl) (Nat.zero_le _) (Nat.zero_le _) (kr_rt ?_) kx_rt
  refine g_iret dX10_legendSpreadByTable_5 rfl rfl ?_
  exact ⟨rfl, rfl⟩

set_option maxRecDepth 100000 in
theorem ev_mSpreadT_no {l : Launch} {G : GG} (hl : l.stackTraces = false) {A : AD} {h : AH} {a : Nat → Nat → Int32} {f : Nat → Int32} {x : Int32} (hx : ¬ (clsP x ∧ x ≤ nI (ordM a))) :
    Ev l G 14 0 0 mX10_legendSpreadByTable [.ref (A 30 0), .int x] (mo h A (a, f)) (Rt (some (.int (-1))) (mo h A (va_up a 10 (ordP a), va_up (lgF f a) 11 (dvT x 1)))) := by
  refine Ev.of hl (by decide) (Nat.le_of_ble_eq_true rfl) ?_
  refine g_aload_n (i := 0) dX10_legendSpreadByTable_0 rfl rfl ?_
  refine g_iload_n (i := 1) dX10_legendSpreadByTable_1 rfl rfl ?_
  refine g_callV (ev_mSpread_no hl hx) dX10_legendSpreadByTable_2 ml_X10_204 cvX10_legendSpread K_X10 rfl mo_30 rfl rfl (Nat.le_of_ble_eq_true rfl) (Nat.le_of_ble_eq_true rfl) (Nat.zero_le _) (Nat.zero_le _) (kr_rt ?_) kx_rt
  refine g_iret dX10_legendSpreadByTable_5 rfl rfl ?_
  exact ⟨rfl, rfl⟩

set_option maxRecDepth 100000 in
theorem cb_some {l : Launch} {G : GG} (hl : l.stackTraces = false) {A : AD} {h : AH} {a : Nat → Nat → Int32} {f : Nat → Int32} {P B : Nat → Int32} {n : Nat} (h20 : f 20 = nI n) (hn : n ≤ 64) (h11 : f 11 = 0) (hv : ∀ i, i < n → ∃ d, d < 64 ∧ P i = nI d) {v u : Int32} {k9 : Nat} : ∀ (j : Nat) (k : Nat), k + j = n → fsN (fun k => decide (atM B (k + 1) = u)) j k = some k9 → Go l G mX10_classBegin 13 0 0 (Rt (some (.int (orH (a 0) (P k9)))) (mo h A (A2 a P B, f))) 15 [some (.ref (A 30 0)), some (.int v), some (.int u), some (.int (atM B k)), some (.int (nI k))] [] (mo h A (A2 a P B, f)) := by
  have loop : ∀ (j : Nat) (k : Nat), k + j = n → fsN (fun k => decide (atM B (k + 1) = u)) j k = some k9 → Go l G mX10_classBegin 13 0 0 (Rt (some (.int (orH (a 0) (P k9)))) (mo h A (A2 a P B, f))) 15 [some (.ref (A 30 0)), some (.int v), some (.int u), some (.int (atM B k)), some (.int (nI k))] [] (mo h A (A2 a P B, f)) := by
    intro j
    induction j with
    | zero =>
      intro k hk hh
      cases hh
    | succ j ih =>
      intro k hk hh
      refine g_iload dX10_classBegin_15 rfl ?_
      refine g_aload_n (i := 0) dX10_classBegin_17 rfl rfl ?_
      refine g_getf dX10_classBegin_18 K_X10 (k := 20) fl_X10_190 (Nat.le_of_ble_eq_true rfl) mo_30 rfl ?_
      refine g_icmp_ge (tgt := 75) dX10_classBegin_21 (by decide) (fun c21 => ?_) (fun c21 => ?_)
      · exact absurd ((le_nI (a := n) (b := k) h20 (by omega) (by omega)).mp c21) (by omega)
      · refine g_aload_n (i := 0) dX10_classBegin_24 rfl rfl ?_
        refine g_getf dX10_classBegin_25 K_X10 (k := 11) fl_X10_67 (Nat.le_of_ble_eq_true rfl) mo_30 rfl ?_
        refine g_if_ne (tgt := 75) dX10_classBegin_28 (by decide) (fun c28 => ?_) (fun c28 => ?_)
        · exact absurd h11 c28
        · refine g_iload_n (i := 3) dX10_classBegin_31 rfl rfl ?_
          refine g_aload_n (i := 0) dX10_classBegin_32 rfl rfl ?_
          refine g_getf dX10_classBegin_33 K_X10 (k := 19) fl_X10_51 (Nat.le_of_ble_eq_true rfl) mo_30 rfl ?_
          refine g_iload dX10_classBegin_36 rfl ?_
          refine g_zald dX10_classBegin_38 mo_r42 (ix_nI (j := k) (by omega)) (by omega) ?_
          refine g_if_eq (tgt := 46) dX10_classBegin_39 (by decide) (fun c39 => ?_) (fun c39 => ?_)
          · refine g_iconst (v := 0) dX10_classBegin_46 (by decide) ?_
            refine g_iadd dX10_classBegin_47 ?_
            refine g_istore_n (i := 3) dX10_classBegin_48 rfl (Nat.le_of_ble_eq_true rfl) ?_
            rw [show atM B k + 0 = atM B (k + 1) from by rw [atM, if_pos c39]]
            refine g_iload_n (i := 3) dX10_classBegin_49 rfl rfl ?_
            refine g_iload_n (i := 2) dX10_classBegin_50 rfl rfl ?_
            refine g_icmp_ne (tgt := 69) dX10_classBegin_51 (by decide) (fun c51 => ?_) (fun c51 => ?_)
            · refine g_iinc (w := 1) dX10_classBegin_69 (by decide) rfl (nI_succ k).symm (Nat.le_of_ble_eq_true rfl) ?_
              refine g_goto (tgt := 15) dX10_classBegin_72 (by decide) ?_
              exact ih (k + 1) (by omega) (by rw [← hh]; exact (if_neg (fun q9 => c51 (of_decide_eq_true q9))).symm)
            · obtain ⟨d, hd, ed⟩ := hv k (by omega)
              refine g_aload_n (i := 0) dX10_classBegin_54 rfl rfl ?_
              refine g_getf dX10_classBegin_55 K_X10 (k := 0) fl_X10_9 (Nat.le_of_ble_eq_true rfl) mo_30 rfl ?_
              refine g_iconst (v := 0) dX10_classBegin_58 (by decide) ?_
              refine g_aload_n (i := 0) dX10_classBegin_59 rfl rfl ?_
              refine g_getf dX10_classBegin_60 K_X10 (k := 18) fl_X10_48 (Nat.le_of_ble_eq_true rfl) mo_30 rfl ?_
              refine g_iload dX10_classBegin_63 rfl ?_
              refine g_iald dX10_classBegin_65 mo_r41 (ix_nI (j := k) (by omega)) (by omega) ?_
              refine g_iadd dX10_classBegin_66 ?_
              refine g_iald dX10_classBegin_67 mo_31 (show ix (0 + P k) d by rw [ed]; exact ix0 (by omega)) (show d < 202 by omega) ?_
              rw [show A2 a P B 0 d = orH (a 0) (P k) from by rw [ed, orH_nI (by omega)]; rfl]
              refine g_iret dX10_classBegin_68 rfl rfl ?_
              have e9 : fsN (fun k => decide (atM B (k + 1) = u)) (j + 1) k = some k := if_pos (decide_eq_true c51)
              rw [e9] at hh
              cases hh
              exact ⟨rfl, rfl⟩
          · refine g_iconst (v := 1) dX10_classBegin_42 (by decide) ?_
            refine g_goto (tgt := 47) dX10_classBegin_43 (by decide) ?_
            refine g_iadd dX10_classBegin_47 ?_
            refine g_istore_n (i := 3) dX10_classBegin_48 rfl (Nat.le_of_ble_eq_true rfl) ?_
            rw [show atM B k + 1 = atM B (k + 1) from by rw [atM, if_neg c39]]
            refine g_iload_n (i := 3) dX10_classBegin_49 rfl rfl ?_
            refine g_iload_n (i := 2) dX10_classBegin_50 rfl rfl ?_
            refine g_icmp_ne (tgt := 69) dX10_classBegin_51 (by decide) (fun c51 => ?_) (fun c51 => ?_)
            · refine g_iinc (w := 1) dX10_classBegin_69 (by decide) rfl (nI_succ k).symm (Nat.le_of_ble_eq_true rfl) ?_
              refine g_goto (tgt := 15) dX10_classBegin_72 (by decide) ?_
              exact ih (k + 1) (by omega) (by rw [← hh]; exact (if_neg (fun q9 => c51 (of_decide_eq_true q9))).symm)
            · obtain ⟨d, hd, ed⟩ := hv k (by omega)
              refine g_aload_n (i := 0) dX10_classBegin_54 rfl rfl ?_
              refine g_getf dX10_classBegin_55 K_X10 (k := 0) fl_X10_9 (Nat.le_of_ble_eq_true rfl) mo_30 rfl ?_
              refine g_iconst (v := 0) dX10_classBegin_58 (by decide) ?_
              refine g_aload_n (i := 0) dX10_classBegin_59 rfl rfl ?_
              refine g_getf dX10_classBegin_60 K_X10 (k := 18) fl_X10_48 (Nat.le_of_ble_eq_true rfl) mo_30 rfl ?_
              refine g_iload dX10_classBegin_63 rfl ?_
              refine g_iald dX10_classBegin_65 mo_r41 (ix_nI (j := k) (by omega)) (by omega) ?_
              refine g_iadd dX10_classBegin_66 ?_
              refine g_iald dX10_classBegin_67 mo_31 (show ix (0 + P k) d by rw [ed]; exact ix0 (by omega)) (show d < 202 by omega) ?_
              rw [show A2 a P B 0 d = orH (a 0) (P k) from by rw [ed, orH_nI (by omega)]; rfl]
              refine g_iret dX10_classBegin_68 rfl rfl ?_
              have e9 : fsN (fun k => decide (atM B (k + 1) = u)) (j + 1) k = some k := if_pos (decide_eq_true c51)
              rw [e9] at hh
              cases hh
              exact ⟨rfl, rfl⟩
  exact loop

set_option maxRecDepth 100000 in
theorem cb_none {l : Launch} {G : GG} (hl : l.stackTraces = false) {A : AD} {h : AH} {a : Nat → Nat → Int32} {f : Nat → Int32} {P B : Nat → Int32} {n : Nat} (h20 : f 20 = nI n) (hn : n ≤ 64) (h11 : f 11 = 0) (hv : ∀ i, i < n → ∃ d, d < 64 ∧ P i = nI d) {v u : Int32} : ∀ (j : Nat) (k : Nat), k + j = n → fsN (fun k => decide (atM B (k + 1) = u)) j k = none → Go l G mX10_classBegin 13 0 0 (Rt (some (.int (-1))) (mo h A (A2 a P B, va_up f 11 3))) 15 [some (.ref (A 30 0)), some (.int v), some (.int u), some (.int (atM B k)), some (.int (nI k))] [] (mo h A (A2 a P B, f)) := by
  have loop : ∀ (j : Nat) (k : Nat), k + j = n → fsN (fun k => decide (atM B (k + 1) = u)) j k = none → Go l G mX10_classBegin 13 0 0 (Rt (some (.int (-1))) (mo h A (A2 a P B, va_up f 11 3))) 15 [some (.ref (A 30 0)), some (.int v), some (.int u), some (.int (atM B k)), some (.int (nI k))] [] (mo h A (A2 a P B, f)) := by
    intro j
    induction j with
    | zero =>
      intro k hk hh
      refine g_iload dX10_classBegin_15 rfl ?_
      refine g_aload_n (i := 0) dX10_classBegin_17 rfl rfl ?_
      refine g_getf dX10_classBegin_18 K_X10 (k := 20) fl_X10_190 (Nat.le_of_ble_eq_true rfl) mo_30 rfl ?_
      refine g_icmp_ge (tgt := 75) dX10_classBegin_21 (by decide) (fun c21 => ?_) (fun c21 => ?_)
      · refine g_aload_n (i := 0) dX10_classBegin_75 rfl rfl ?_
        refine g_getf dX10_classBegin_76 K_X10 (k := 11) fl_X10_67 (Nat.le_of_ble_eq_true rfl) mo_30 rfl ?_
        refine g_if_le (tgt := 86) dX10_classBegin_79 (by decide) (fun c79 => ?_) (fun c79 => ?_)
        · refine g_aload_n (i := 0) dX10_classBegin_86 rfl rfl ?_
          refine g_iconst (v := 3) dX10_classBegin_87 (by decide) ?_
          refine g_callV (ev_throwing hl (x := 3)) dX10_classBegin_88 ml_X10_76 cvX10_throwing K_X10 rfl mo_30 rfl rfl (Nat.le_of_ble_eq_true rfl) (Nat.le_of_ble_eq_true rfl) (Nat.zero_le _) (Nat.zero_le _) (kr_rt ?_) kx_rt
          refine g_iret dX10_classBegin_91 rfl rfl ?_
          exact ⟨rfl, rfl⟩
        · exact absurd (show f 11 ≤ 0 by rw [h11]; exact Int32.le_refl 0) c79
      · exact absurd ((le_nI (a := n) (b := k) h20 (by omega) (by omega)).mpr (by omega)) c21
    | succ j ih =>
      intro k hk hh
      refine g_iload dX10_classBegin_15 rfl ?_
      refine g_aload_n (i := 0) dX10_classBegin_17 rfl rfl ?_
      refine g_getf dX10_classBegin_18 K_X10 (k := 20) fl_X10_190 (Nat.le_of_ble_eq_true rfl) mo_30 rfl ?_
      refine g_icmp_ge (tgt := 75) dX10_classBegin_21 (by decide) (fun c21 => ?_) (fun c21 => ?_)
      · exact absurd ((le_nI (a := n) (b := k) h20 (by omega) (by omega)).mp c21) (by omega)
      · refine g_aload_n (i := 0) dX10_classBegin_24 rfl rfl ?_
        refine g_getf dX10_classBegin_25 K_X10 (k := 11) fl_X10_67 (Nat.le_of_ble_eq_true rfl) mo_30 rfl ?_
        refine g_if_ne (tgt := 75) dX10_classBegin_28 (by decide) (fun c28 => ?_) (fun c28 => ?_)
        · exact absurd h11 c28
        · refine g_iload_n (i := 3) dX10_classBegin_31 rfl rfl ?_
          refine g_aload_n (i := 0) dX10_classBegin_32 rfl rfl ?_
          refine g_getf dX10_classBegin_33 K_X10 (k := 19) fl_X10_51 (Nat.le_of_ble_eq_true rfl) mo_30 rfl ?_
          refine g_iload dX10_classBegin_36 rfl ?_
          refine g_zald dX10_classBegin_38 mo_r42 (ix_nI (j := k) (by omega)) (by omega) ?_
          refine g_if_eq (tgt := 46) dX10_classBegin_39 (by decide) (fun c39 => ?_) (fun c39 => ?_)
          · refine g_iconst (v := 0) dX10_classBegin_46 (by decide) ?_
            refine g_iadd dX10_classBegin_47 ?_
            refine g_istore_n (i := 3) dX10_classBegin_48 rfl (Nat.le_of_ble_eq_true rfl) ?_
            rw [show atM B k + 0 = atM B (k + 1) from by rw [atM, if_pos c39]]
            refine g_iload_n (i := 3) dX10_classBegin_49 rfl rfl ?_
            refine g_iload_n (i := 2) dX10_classBegin_50 rfl rfl ?_
            refine g_icmp_ne (tgt := 69) dX10_classBegin_51 (by decide) (fun c51 => ?_) (fun c51 => ?_)
            · refine g_iinc (w := 1) dX10_classBegin_69 (by decide) rfl (nI_succ k).symm (Nat.le_of_ble_eq_true rfl) ?_
              refine g_goto (tgt := 15) dX10_classBegin_72 (by decide) ?_
              exact ih (k + 1) (by omega) (by rw [← hh]; exact (if_neg (fun q9 => c51 (of_decide_eq_true q9))).symm)
            · have e9 : fsN (fun k => decide (atM B (k + 1) = u)) (j + 1) k = some k := if_pos (decide_eq_true c51)
              rw [e9] at hh
              cases hh
          · refine g_iconst (v := 1) dX10_classBegin_42 (by decide) ?_
            refine g_goto (tgt := 47) dX10_classBegin_43 (by decide) ?_
            refine g_iadd dX10_classBegin_47 ?_
            refine g_istore_n (i := 3) dX10_classBegin_48 rfl (Nat.le_of_ble_eq_true rfl) ?_
            rw [show atM B k + 1 = atM B (k + 1) from by rw [atM, if_neg c39]]
            refine g_iload_n (i := 3) dX10_classBegin_49 rfl rfl ?_
            refine g_iload_n (i := 2) dX10_classBegin_50 rfl rfl ?_
            refine g_icmp_ne (tgt := 69) dX10_classBegin_51 (by decide) (fun c51 => ?_) (fun c51 => ?_)
            · refine g_iinc (w := 1) dX10_classBegin_69 (by decide) rfl (nI_succ k).symm (Nat.le_of_ble_eq_true rfl) ?_
              refine g_goto (tgt := 15) dX10_classBegin_72 (by decide) ?_
              exact ih (k + 1) (by omega) (by rw [← hh]; exact (if_neg (fun q9 => c51 (of_decide_eq_true q9))).symm)
            · have e9 : fsN (fun k => decide (atM B (k + 1) = u)) (j + 1) k = some k := if_pos (decide_eq_true c51)
              rw [e9] at hh
              cases hh
  exact loop

set_option maxRecDepth 100000 in
theorem ev_mClassBegin {l : Launch} {G : GG} (hl : l.stackTraces = false) {A : AD} {h : AH} {a : Nat → Nat → Int32} {f : Nat → Int32} {c : Nat} (hc1 : 1 ≤ c) (hc6 : c ≤ 6) (hc : c ≤ ordM a) {u : Int32} {k9 : Nat} (hk : fsN (fun k => decide (atM (dvB a c) (k + 1) = u)) (ordM a) 0 = some k9) :
    Ev l G 13 0 0 mX10_classBegin [.ref (A 30 0), .int (nI c), .int u] (mo h A (a, f)) (Rt (some (.int (orH (a 0) (ordP a k9)))) (mo h A (lgA a c, va_up (lgF f a) 11 0))) := by
  refine Ev.of hl (by decide) (Nat.le_of_ble_eq_true rfl) ?_
  refine g_aload_n (i := 0) dX10_classBegin_0 rfl rfl ?_
  refine g_aload_n (i := 0) dX10_classBegin_1 rfl rfl ?_
  refine g_iload_n (i := 1) dX10_classBegin_2 rfl rfl ?_
  refine g_iconst (v := 1) dX10_classBegin_3 (by decide) ?_
  refine g_callV (ev_divides hl hc1 hc6 hc (v := 1)) dX10_classBegin_4 ml_X10_201 cvX10_divides K_X10 rfl mo_30 rfl rfl (Nat.le_of_ble_eq_true rfl) (Nat.le_of_ble_eq_true rfl) (Nat.zero_le _) (Nat.zero_le _) (kr_rt ?_) kx_rt
  refine g_putf dX10_classBegin_7 K_X10 (k := 11) fl_X10_67 (Nat.le_of_ble_eq_true rfl) rfl mo_30 (Nat.le_of_ble_eq_true rfl) rfl rfl (Go.heap (mo_f11) ?_)
  refine g_iconst (v := (-1)) dX10_classBegin_10 (by decide) ?_
  refine g_istore_n (i := 3) dX10_classBegin_11 rfl (Nat.le_of_ble_eq_true rfl) ?_
  refine g_iconst (v := 0) dX10_classBegin_12 (by decide) ?_
  refine g_istore dX10_classBegin_13 (Nat.le_of_ble_eq_true rfl) ?_
  exact cb_some hl (f := va_up (lgF f a) 11 0) (P := ordP a) (B := dvB a c) (n := ordM a) rfl ordM_le rfl ordP_V (ordM a) 0 (Nat.zero_add _) hk

set_option maxRecDepth 100000 in
theorem ev_mClassBegin_no3 {l : Launch} {G : GG} (hl : l.stackTraces = false) {A : AD} {h : AH} {a : Nat → Nat → Int32} {f : Nat → Int32} {c : Nat} (hc1 : 1 ≤ c) (hc6 : c ≤ 6) (hc : c ≤ ordM a) {u : Int32} (hk : fsN (fun k => decide (atM (dvB a c) (k + 1) = u)) (ordM a) 0 = none) :
    Ev l G 13 0 0 mX10_classBegin [.ref (A 30 0), .int (nI c), .int u] (mo h A (a, f)) (Rt (some (.int (-1))) (mo h A (lgA a c, va_up (lgF f a) 11 3))) := by
  refine Ev.of hl (by decide) (Nat.le_of_ble_eq_true rfl) ?_
  refine g_aload_n (i := 0) dX10_classBegin_0 rfl rfl ?_
  refine g_aload_n (i := 0) dX10_classBegin_1 rfl rfl ?_
  refine g_iload_n (i := 1) dX10_classBegin_2 rfl rfl ?_
  refine g_iconst (v := 1) dX10_classBegin_3 (by decide) ?_
  refine g_callV (ev_divides hl hc1 hc6 hc (v := 1)) dX10_classBegin_4 ml_X10_201 cvX10_divides K_X10 rfl mo_30 rfl rfl (Nat.le_of_ble_eq_true rfl) (Nat.le_of_ble_eq_true rfl) (Nat.zero_le _) (Nat.zero_le _) (kr_rt ?_) kx_rt
  refine g_putf dX10_classBegin_7 K_X10 (k := 11) fl_X10_67 (Nat.le_of_ble_eq_true rfl) rfl mo_30 (Nat.le_of_ble_eq_true rfl) rfl rfl (Go.heap (mo_f11) ?_)
  refine g_iconst (v := (-1)) dX10_classBegin_10 (by decide) ?_
  refine g_istore_n (i := 3) dX10_classBegin_11 rfl (Nat.le_of_ble_eq_true rfl) ?_
  refine g_iconst (v := 0) dX10_classBegin_12 (by decide) ?_
  refine g_istore dX10_classBegin_13 (Nat.le_of_ble_eq_true rfl) ?_
  have z := cb_none hl (v := nI c) (f := va_up (lgF f a) 11 0) (P := ordP a) (B := dvB a c) (n := ordM a) rfl ordM_le rfl ordP_V (ordM a) 0 (Nat.zero_add _) hk (l := l) (G := G) (A := A) (h := h) (a := a)
  rw [va_up2] at z
  exact z

set_option maxRecDepth 100000 in
theorem ev_mClassBegin_no {l : Launch} {G : GG} (hl : l.stackTraces = false) {A : AD} {h : AH} {a : Nat → Nat → Int32} {f : Nat → Int32} {x : Int32} (hx : ¬ (clsP x ∧ x ≤ nI (ordM a))) {u : Int32} :
    Ev l G 13 0 0 mX10_classBegin [.ref (A 30 0), .int x, .int u] (mo h A (a, f)) (Rt (some (.int (-1))) (mo h A (va_up a 10 (ordP a), va_up (lgF f a) 11 (dvT x 1)))) := by
  refine Ev.of hl (by decide) (Nat.le_of_ble_eq_true rfl) ?_
  refine g_aload_n (i := 0) dX10_classBegin_0 rfl rfl ?_
  refine g_aload_n (i := 0) dX10_classBegin_1 rfl rfl ?_
  refine g_iload_n (i := 1) dX10_classBegin_2 rfl rfl ?_
  refine g_iconst (v := 1) dX10_classBegin_3 (by decide) ?_
  refine g_callV (ev_divides_no hl hx (v := 1)) dX10_classBegin_4 ml_X10_201 cvX10_divides K_X10 rfl mo_30 rfl rfl (Nat.le_of_ble_eq_true rfl) (Nat.le_of_ble_eq_true rfl) (Nat.zero_le _) (Nat.zero_le _) (kr_rt ?_) kx_rt
  refine g_putf dX10_classBegin_7 K_X10 (k := 11) fl_X10_67 (Nat.le_of_ble_eq_true rfl) rfl mo_30 (Nat.le_of_ble_eq_true rfl) rfl rfl (Go.heap (mo_f11) ?_)
  refine g_iconst (v := (-1)) dX10_classBegin_10 (by decide) ?_
  refine g_istore_n (i := 3) dX10_classBegin_11 rfl (Nat.le_of_ble_eq_true rfl) ?_
  refine g_iconst (v := 0) dX10_classBegin_12 (by decide) ?_
  refine g_istore dX10_classBegin_13 (Nat.le_of_ble_eq_true rfl) ?_
  refine g_iload dX10_classBegin_15 rfl ?_
  refine g_aload_n (i := 0) dX10_classBegin_17 rfl rfl ?_
  refine g_getf dX10_classBegin_18 K_X10 (k := 20) fl_X10_190 (Nat.le_of_ble_eq_true rfl) mo_30 rfl ?_
  refine g_icmp_ge (tgt := 75) dX10_classBegin_21 (by decide) (fun c21 => ?_) (fun c21 => ?_)
  · refine g_aload_n (i := 0) dX10_classBegin_75 rfl rfl ?_
    refine g_getf dX10_classBegin_76 K_X10 (k := 11) fl_X10_67 (Nat.le_of_ble_eq_true rfl) mo_30 rfl ?_
    refine g_if_le (tgt := 86) dX10_classBegin_79 (by decide) (fun c79 => ?_) (fun c79 => ?_)
    · exact absurd (show dvT x 1 ≤ 0 from c79) (Int32.not_le.mpr dvT_pos.1)
    · refine g_iconst (v := (-1)) dX10_classBegin_82 (by decide) ?_
      refine g_goto (tgt := 91) dX10_classBegin_83 (by decide) ?_
      refine g_iret dX10_classBegin_91 rfl rfl ?_
      exact ⟨rfl, rfl⟩
  · refine g_aload_n (i := 0) dX10_classBegin_24 rfl rfl ?_
    refine g_getf dX10_classBegin_25 K_X10 (k := 11) fl_X10_67 (Nat.le_of_ble_eq_true rfl) mo_30 rfl ?_
    refine g_if_ne (tgt := 75) dX10_classBegin_28 (by decide) (fun c28 => ?_) (fun c28 => ?_)
    · refine g_aload_n (i := 0) dX10_classBegin_75 rfl rfl ?_
      refine g_getf dX10_classBegin_76 K_X10 (k := 11) fl_X10_67 (Nat.le_of_ble_eq_true rfl) mo_30 rfl ?_
      refine g_if_le (tgt := 86) dX10_classBegin_79 (by decide) (fun c79 => ?_) (fun c79 => ?_)
      · exact absurd (show dvT x 1 ≤ 0 from c79) (Int32.not_le.mpr dvT_pos.1)
      · refine g_iconst (v := (-1)) dX10_classBegin_82 (by decide) ?_
        refine g_goto (tgt := 91) dX10_classBegin_83 (by decide) ?_
        refine g_iret dX10_classBegin_91 rfl rfl ?_
        exact ⟨rfl, rfl⟩
    · exact absurd (show dvT x 1 = 0 from c28) (fun q9 => absurd dvT_pos.1 (by rw [q9]; decide))

set_option maxRecDepth 100000 in
theorem coS_loop {l : Launch} {G : GG} (hl : l.stackTraces = false) {A : AD} {h : AH} {a : Nat → Nat → Int32} {f : Nat → Int32} {P B : Nat → Int32} {n : Nat} (h20 : f 20 = nI n) (hn : n ≤ 64) (h11 : f 11 = 0) (hv : ∀ i, i < n → ∃ d, d < 64 ∧ P i = nI d) {v : Int32} {i j9 : Nat} {k9 : Nat} : ∀ (j : Nat) (k : Nat), k + j = n → fsN (fun k => decide (P k = nI (8 * j9 + i))) j k = some k9 → Go l G mX10_classOf 13 0 0 (Rt (some (.int (atM B (k9 + 1)))) (mo h A (A2 a P B, f))) 37 [some (.ref (A 30 0)), some (.int (nI i)), some (.int (nI j9)), some (.int v), some (.int (atM B k)), some (.int (nI k))] [] (mo h A (A2 a P B, f)) := by
  have loop : ∀ (j : Nat) (k : Nat), k + j = n → fsN (fun k => decide (P k = nI (8 * j9 + i))) j k = some k9 → Go l G mX10_classOf 13 0 0 (Rt (some (.int (atM B (k9 + 1)))) (mo h A (A2 a P B, f))) 37 [some (.ref (A 30 0)), some (.int (nI i)), some (.int (nI j9)), some (.int v), some (.int (atM B k)), some (.int (nI k))] [] (mo h A (A2 a P B, f)) := by
    intro j
    induction j with
    | zero =>
      intro k hk hh
      cases hh
    | succ j ih =>
      intro k hk hh
      refine g_iload dX10_classOf_37 rfl ?_
      refine g_aload_n (i := 0) dX10_classOf_39 rfl rfl ?_
      refine g_getf dX10_classOf_40 K_X10 (k := 20) fl_X10_190 (Nat.le_of_ble_eq_true rfl) mo_30 rfl ?_
      refine g_icmp_ge (tgt := 91) dX10_classOf_43 (by decide) (fun c43 => ?_) (fun c43 => ?_)
      · exact absurd ((le_nI (a := n) (b := k) h20 (by omega) (by omega)).mp c43) (by omega)
      · refine g_iload dX10_classOf_46 rfl ?_
        refine g_aload_n (i := 0) dX10_classOf_48 rfl rfl ?_
        refine g_getf dX10_classOf_49 K_X10 (k := 19) fl_X10_51 (Nat.le_of_ble_eq_true rfl) mo_30 rfl ?_
        refine g_iload dX10_classOf_52 rfl ?_
        refine g_zald dX10_classOf_54 mo_r42 (ix_nI (j := k) (by omega)) (by omega) ?_
        refine g_if_eq (tgt := 62) dX10_classOf_55 (by decide) (fun c55 => ?_) (fun c55 => ?_)
        · refine g_iconst (v := 0) dX10_classOf_62 (by decide) ?_
          refine g_iadd dX10_classOf_63 ?_
          refine g_istore dX10_classOf_64 (Nat.le_of_ble_eq_true rfl) ?_
          rw [show atM B k + 0 = atM B (k + 1) from by rw [atM, if_pos c55]]
          refine g_aload_n (i := 0) dX10_classOf_66 rfl rfl ?_
          refine g_getf dX10_classOf_67 K_X10 (k := 18) fl_X10_48 (Nat.le_of_ble_eq_true rfl) mo_30 rfl ?_
          refine g_iload dX10_classOf_70 rfl ?_
          refine g_iald dX10_classOf_72 mo_r41 (ix_nI (j := k) (by omega)) (by omega) ?_
          refine g_bipush (v := 8) dX10_classOf_73 (by decide) ?_
          refine g_iload_n (i := 2) dX10_classOf_75 rfl rfl ?_
          refine g_imul dX10_classOf_76 ?_
          refine g_iload_n (i := 1) dX10_classOf_77 rfl rfl ?_
          refine g_iadd dX10_classOf_78 ?_
          rw [cel]
          refine g_icmp_ne (tgt := 85) dX10_classOf_79 (by decide) (fun c79 => ?_) (fun c79 => ?_)
          · refine g_iinc (w := 1) dX10_classOf_85 (by decide) rfl (nI_succ k).symm (Nat.le_of_ble_eq_true rfl) ?_
            refine g_goto (tgt := 37) dX10_classOf_88 (by decide) ?_
            exact ih (k + 1) (by omega) (by rw [← hh]; exact (if_neg (fun q9 => c79 (of_decide_eq_true q9))).symm)
          · refine g_iload dX10_classOf_82 rfl ?_
            refine g_iret dX10_classOf_84 rfl rfl ?_
            have e9 : fsN (fun k => decide (P k = nI (8 * j9 + i))) (j + 1) k = some k := if_pos (decide_eq_true c79)
            rw [e9] at hh
            cases hh
            exact ⟨rfl, rfl⟩
        · refine g_iconst (v := 1) dX10_classOf_58 (by decide) ?_
          refine g_goto (tgt := 63) dX10_classOf_59 (by decide) ?_
          refine g_iadd dX10_classOf_63 ?_
          refine g_istore dX10_classOf_64 (Nat.le_of_ble_eq_true rfl) ?_
          rw [show atM B k + 1 = atM B (k + 1) from by rw [atM, if_neg c55]]
          refine g_aload_n (i := 0) dX10_classOf_66 rfl rfl ?_
          refine g_getf dX10_classOf_67 K_X10 (k := 18) fl_X10_48 (Nat.le_of_ble_eq_true rfl) mo_30 rfl ?_
          refine g_iload dX10_classOf_70 rfl ?_
          refine g_iald dX10_classOf_72 mo_r41 (ix_nI (j := k) (by omega)) (by omega) ?_
          refine g_bipush (v := 8) dX10_classOf_73 (by decide) ?_
          refine g_iload_n (i := 2) dX10_classOf_75 rfl rfl ?_
          refine g_imul dX10_classOf_76 ?_
          refine g_iload_n (i := 1) dX10_classOf_77 rfl rfl ?_
          refine g_iadd dX10_classOf_78 ?_
          rw [cel]
          refine g_icmp_ne (tgt := 85) dX10_classOf_79 (by decide) (fun c79 => ?_) (fun c79 => ?_)
          · refine g_iinc (w := 1) dX10_classOf_85 (by decide) rfl (nI_succ k).symm (Nat.le_of_ble_eq_true rfl) ?_
            refine g_goto (tgt := 37) dX10_classOf_88 (by decide) ?_
            exact ih (k + 1) (by omega) (by rw [← hh]; exact (if_neg (fun q9 => c79 (of_decide_eq_true q9))).symm)
          · refine g_iload dX10_classOf_82 rfl ?_
            refine g_iret dX10_classOf_84 rfl rfl ?_
            have e9 : fsN (fun k => decide (P k = nI (8 * j9 + i))) (j + 1) k = some k := if_pos (decide_eq_true c79)
            rw [e9] at hh
            cases hh
            exact ⟨rfl, rfl⟩
  exact loop

set_option maxRecDepth 100000 in
theorem coN_loop {l : Launch} {G : GG} (hl : l.stackTraces = false) {A : AD} {h : AH} {a : Nat → Nat → Int32} {f : Nat → Int32} {P B : Nat → Int32} {n : Nat} (h20 : f 20 = nI n) (hn : n ≤ 64) (h11 : f 11 = 0) (hv : ∀ i, i < n → ∃ d, d < 64 ∧ P i = nI d) {v : Int32} {i j9 : Nat} : ∀ (j : Nat) (k : Nat), k + j = n → fsN (fun k => decide (P k = nI (8 * j9 + i))) j k = none → Go l G mX10_classOf 13 0 0 (Rt (some (.int (-1))) (mo h A (A2 a P B, va_up f 11 4))) 37 [some (.ref (A 30 0)), some (.int (nI i)), some (.int (nI j9)), some (.int v), some (.int (atM B k)), some (.int (nI k))] [] (mo h A (A2 a P B, f)) := by
  have loop : ∀ (j : Nat) (k : Nat), k + j = n → fsN (fun k => decide (P k = nI (8 * j9 + i))) j k = none → Go l G mX10_classOf 13 0 0 (Rt (some (.int (-1))) (mo h A (A2 a P B, va_up f 11 4))) 37 [some (.ref (A 30 0)), some (.int (nI i)), some (.int (nI j9)), some (.int v), some (.int (atM B k)), some (.int (nI k))] [] (mo h A (A2 a P B, f)) := by
    intro j
    induction j with
    | zero =>
      intro k hk hh
      refine g_iload dX10_classOf_37 rfl ?_
      refine g_aload_n (i := 0) dX10_classOf_39 rfl rfl ?_
      refine g_getf dX10_classOf_40 K_X10 (k := 20) fl_X10_190 (Nat.le_of_ble_eq_true rfl) mo_30 rfl ?_
      refine g_icmp_ge (tgt := 91) dX10_classOf_43 (by decide) (fun c43 => ?_) (fun c43 => ?_)
      · refine g_aload_n (i := 0) dX10_classOf_91 rfl rfl ?_
        refine g_iconst (v := 4) dX10_classOf_92 (by decide) ?_
        refine g_callV (ev_throwing hl (x := 4)) dX10_classOf_93 ml_X10_76 cvX10_throwing K_X10 rfl mo_30 rfl rfl (Nat.le_of_ble_eq_true rfl) (Nat.le_of_ble_eq_true rfl) (Nat.zero_le _) (Nat.zero_le _) (kr_rt ?_) kx_rt
        refine g_iret dX10_classOf_96 rfl rfl ?_
        exact ⟨rfl, rfl⟩
      · exact absurd ((le_nI (a := n) (b := k) h20 (by omega) (by omega)).mpr (by omega)) c43
    | succ j ih =>
      intro k hk hh
      refine g_iload dX10_classOf_37 rfl ?_
      refine g_aload_n (i := 0) dX10_classOf_39 rfl rfl ?_
      refine g_getf dX10_classOf_40 K_X10 (k := 20) fl_X10_190 (Nat.le_of_ble_eq_true rfl) mo_30 rfl ?_
      refine g_icmp_ge (tgt := 91) dX10_classOf_43 (by decide) (fun c43 => ?_) (fun c43 => ?_)
      · exact absurd ((le_nI (a := n) (b := k) h20 (by omega) (by omega)).mp c43) (by omega)
      · refine g_iload dX10_classOf_46 rfl ?_
        refine g_aload_n (i := 0) dX10_classOf_48 rfl rfl ?_
        refine g_getf dX10_classOf_49 K_X10 (k := 19) fl_X10_51 (Nat.le_of_ble_eq_true rfl) mo_30 rfl ?_
        refine g_iload dX10_classOf_52 rfl ?_
        refine g_zald dX10_classOf_54 mo_r42 (ix_nI (j := k) (by omega)) (by omega) ?_
        refine g_if_eq (tgt := 62) dX10_classOf_55 (by decide) (fun c55 => ?_) (fun c55 => ?_)
        · refine g_iconst (v := 0) dX10_classOf_62 (by decide) ?_
          refine g_iadd dX10_classOf_63 ?_
          refine g_istore dX10_classOf_64 (Nat.le_of_ble_eq_true rfl) ?_
          rw [show atM B k + 0 = atM B (k + 1) from by rw [atM, if_pos c55]]
          refine g_aload_n (i := 0) dX10_classOf_66 rfl rfl ?_
          refine g_getf dX10_classOf_67 K_X10 (k := 18) fl_X10_48 (Nat.le_of_ble_eq_true rfl) mo_30 rfl ?_
          refine g_iload dX10_classOf_70 rfl ?_
          refine g_iald dX10_classOf_72 mo_r41 (ix_nI (j := k) (by omega)) (by omega) ?_
          refine g_bipush (v := 8) dX10_classOf_73 (by decide) ?_
          refine g_iload_n (i := 2) dX10_classOf_75 rfl rfl ?_
          refine g_imul dX10_classOf_76 ?_
          refine g_iload_n (i := 1) dX10_classOf_77 rfl rfl ?_
          refine g_iadd dX10_classOf_78 ?_
          rw [cel]
          refine g_icmp_ne (tgt := 85) dX10_classOf_79 (by decide) (fun c79 => ?_) (fun c79 => ?_)
          · refine g_iinc (w := 1) dX10_classOf_85 (by decide) rfl (nI_succ k).symm (Nat.le_of_ble_eq_true rfl) ?_
            refine g_goto (tgt := 37) dX10_classOf_88 (by decide) ?_
            exact ih (k + 1) (by omega) (by rw [← hh]; exact (if_neg (fun q9 => c79 (of_decide_eq_true q9))).symm)
          · have e9 : fsN (fun k => decide (P k = nI (8 * j9 + i))) (j + 1) k = some k := if_pos (decide_eq_true c79)
            rw [e9] at hh
            cases hh
        · refine g_iconst (v := 1) dX10_classOf_58 (by decide) ?_
          refine g_goto (tgt := 63) dX10_classOf_59 (by decide) ?_
          refine g_iadd dX10_classOf_63 ?_
          refine g_istore dX10_classOf_64 (Nat.le_of_ble_eq_true rfl) ?_
          rw [show atM B k + 1 = atM B (k + 1) from by rw [atM, if_neg c55]]
          refine g_aload_n (i := 0) dX10_classOf_66 rfl rfl ?_
          refine g_getf dX10_classOf_67 K_X10 (k := 18) fl_X10_48 (Nat.le_of_ble_eq_true rfl) mo_30 rfl ?_
          refine g_iload dX10_classOf_70 rfl ?_
          refine g_iald dX10_classOf_72 mo_r41 (ix_nI (j := k) (by omega)) (by omega) ?_
          refine g_bipush (v := 8) dX10_classOf_73 (by decide) ?_
          refine g_iload_n (i := 2) dX10_classOf_75 rfl rfl ?_
          refine g_imul dX10_classOf_76 ?_
          refine g_iload_n (i := 1) dX10_classOf_77 rfl rfl ?_
          refine g_iadd dX10_classOf_78 ?_
          rw [cel]
          refine g_icmp_ne (tgt := 85) dX10_classOf_79 (by decide) (fun c79 => ?_) (fun c79 => ?_)
          · refine g_iinc (w := 1) dX10_classOf_85 (by decide) rfl (nI_succ k).symm (Nat.le_of_ble_eq_true rfl) ?_
            refine g_goto (tgt := 37) dX10_classOf_88 (by decide) ?_
            exact ih (k + 1) (by omega) (by rw [← hh]; exact (if_neg (fun q9 => c79 (of_decide_eq_true q9))).symm)
          · have e9 : fsN (fun k => decide (P k = nI (8 * j9 + i))) (j + 1) k = some k := if_pos (decide_eq_true c79)
            rw [e9] at hh
            cases hh
  exact loop

set_option maxRecDepth 100000 in
theorem ev_mClassOf {l : Launch} {G : GG} (hl : l.stackTraces = false) {A : AD} {h : AH} {a : Nat → Nat → Int32} {f : Nat → Int32} {i j9 : Nat} (hi : i < 8) (hj : j9 < 8) {c : Nat} (hc1 : 1 ≤ c) (hc6 : c ≤ 6) (hc : c ≤ ordM a) {k9 : Nat} (hk : fsN (fun k => decide (ordP a k = nI (8 * j9 + i))) (ordM a) 0 = some k9) :
    Ev l G 13 0 0 mX10_classOf [.ref (A 30 0), .int (nI i), .int (nI j9), .int (nI c)] (mo h A (a, f)) (Rt (some (.int (atM (dvB a c) (k9 + 1)))) (mo h A (lgA a c, va_up (lgF f a) 11 0))) := by
  refine Ev.of hl (by decide) (Nat.le_of_ble_eq_true rfl) ?_
  refine g_aload_n (i := 0) dX10_classOf_0 rfl rfl ?_
  refine g_iload_n (i := 1) dX10_classOf_1 rfl rfl ?_
  refine g_iload_n (i := 2) dX10_classOf_2 rfl rfl ?_
  refine g_callS (ev_mIsCell hl) dX10_classOf_3 ml_X10_108 csX10_isCell rfl rfl (Nat.le_of_ble_eq_true rfl) (Nat.le_of_ble_eq_true rfl) (Nat.zero_le _) (Nat.zero_le _) (kr_rt ?_) kx_rt
  refine g_if_eq (tgt := 18) dX10_classOf_6 (by decide) (fun c6 => ?_) (fun c6 => ?_)
  · exact absurd c6 (by rw [if_pos (cellB_nI hi hj)]; decide)
  · refine g_aload_n (i := 0) dX10_classOf_9 rfl rfl ?_
    refine g_iload_n (i := 3) dX10_classOf_10 rfl rfl ?_
    refine g_iconst (v := 2) dX10_classOf_11 (by decide) ?_
    refine g_callV (ev_divides hl hc1 hc6 hc (v := 2)) dX10_classOf_12 ml_X10_201 cvX10_divides K_X10 rfl mo_30 rfl rfl (Nat.le_of_ble_eq_true rfl) (Nat.le_of_ble_eq_true rfl) (Nat.zero_le _) (Nat.zero_le _) (kr_rt ?_) kx_rt
    refine g_goto (tgt := 19) dX10_classOf_15 (by decide) ?_
    refine g_putf dX10_classOf_19 K_X10 (k := 11) fl_X10_67 (Nat.le_of_ble_eq_true rfl) rfl mo_30 (Nat.le_of_ble_eq_true rfl) rfl rfl (Go.heap (mo_f11) ?_)
    refine g_aload_n (i := 0) dX10_classOf_22 rfl rfl ?_
    refine g_getf dX10_classOf_23 K_X10 (k := 11) fl_X10_67 (Nat.le_of_ble_eq_true rfl) mo_30 rfl ?_
    refine g_if_le (tgt := 31) dX10_classOf_26 (by decide) (fun c26 => ?_) (fun c26 => ?_)
    · refine g_iconst (v := (-1)) dX10_classOf_31 (by decide) ?_
      refine g_istore dX10_classOf_32 (Nat.le_of_ble_eq_true rfl) ?_
      refine g_iconst (v := 0) dX10_classOf_34 (by decide) ?_
      refine g_istore dX10_classOf_35 (Nat.le_of_ble_eq_true rfl) ?_
      exact coS_loop hl (f := va_up (lgF f a) 11 0) (P := ordP a) (B := dvB a c) (n := ordM a) rfl ordM_le rfl ordP_V (ordM a) 0 (Nat.zero_add _) hk
    · exact absurd (show (0 : Int32) ≤ 0 from Int32.le_refl 0) c26

set_option maxRecDepth 100000 in
theorem ev_mClassOf_no4 {l : Launch} {G : GG} (hl : l.stackTraces = false) {A : AD} {h : AH} {a : Nat → Nat → Int32} {f : Nat → Int32} {i j9 : Nat} (hi : i < 8) (hj : j9 < 8) {c : Nat} (hc1 : 1 ≤ c) (hc6 : c ≤ 6) (hc : c ≤ ordM a) (hk : fsN (fun k => decide (ordP a k = nI (8 * j9 + i))) (ordM a) 0 = none) :
    Ev l G 13 0 0 mX10_classOf [.ref (A 30 0), .int (nI i), .int (nI j9), .int (nI c)] (mo h A (a, f)) (Rt (some (.int (-1))) (mo h A (lgA a c, va_up (lgF f a) 11 4))) := by
  refine Ev.of hl (by decide) (Nat.le_of_ble_eq_true rfl) ?_
  refine g_aload_n (i := 0) dX10_classOf_0 rfl rfl ?_
  refine g_iload_n (i := 1) dX10_classOf_1 rfl rfl ?_
  refine g_iload_n (i := 2) dX10_classOf_2 rfl rfl ?_
  refine g_callS (ev_mIsCell hl) dX10_classOf_3 ml_X10_108 csX10_isCell rfl rfl (Nat.le_of_ble_eq_true rfl) (Nat.le_of_ble_eq_true rfl) (Nat.zero_le _) (Nat.zero_le _) (kr_rt ?_) kx_rt
  refine g_if_eq (tgt := 18) dX10_classOf_6 (by decide) (fun c6 => ?_) (fun c6 => ?_)
  · exact absurd c6 (by rw [if_pos (cellB_nI hi hj)]; decide)
  · refine g_aload_n (i := 0) dX10_classOf_9 rfl rfl ?_
    refine g_iload_n (i := 3) dX10_classOf_10 rfl rfl ?_
    refine g_iconst (v := 2) dX10_classOf_11 (by decide) ?_
    refine g_callV (ev_divides hl hc1 hc6 hc (v := 2)) dX10_classOf_12 ml_X10_201 cvX10_divides K_X10 rfl mo_30 rfl rfl (Nat.le_of_ble_eq_true rfl) (Nat.le_of_ble_eq_true rfl) (Nat.zero_le _) (Nat.zero_le _) (kr_rt ?_) kx_rt
    refine g_goto (tgt := 19) dX10_classOf_15 (by decide) ?_
    refine g_putf dX10_classOf_19 K_X10 (k := 11) fl_X10_67 (Nat.le_of_ble_eq_true rfl) rfl mo_30 (Nat.le_of_ble_eq_true rfl) rfl rfl (Go.heap (mo_f11) ?_)
    refine g_aload_n (i := 0) dX10_classOf_22 rfl rfl ?_
    refine g_getf dX10_classOf_23 K_X10 (k := 11) fl_X10_67 (Nat.le_of_ble_eq_true rfl) mo_30 rfl ?_
    refine g_if_le (tgt := 31) dX10_classOf_26 (by decide) (fun c26 => ?_) (fun c26 => ?_)
    · refine g_iconst (v := (-1)) dX10_classOf_31 (by decide) ?_
      refine g_istore dX10_classOf_32 (Nat.le_of_ble_eq_true rfl) ?_
      refine g_iconst (v := 0) dX10_classOf_34 (by decide) ?_
      refine g_istore dX10_classOf_35 (Nat.le_of_ble_eq_true rfl) ?_
      have z := coN_loop hl (v := nI c) (f := va_up (lgF f a) 11 0) (P := ordP a) (B := dvB a c) (n := ordM a) rfl ordM_le rfl ordP_V (ordM a) 0 (Nat.zero_add _) hk (l := l) (G := G) (A := A) (h := h) (a := a)
      rw [va_up2] at z
      exact z
    · exact absurd (show (0 : Int32) ≤ 0 from Int32.le_refl 0) c26

set_option maxRecDepth 100000 in
theorem ev_mClassOf_no {l : Launch} {G : GG} (hl : l.stackTraces = false) {A : AD} {h : AH} {a : Nat → Nat → Int32} {f : Nat → Int32} {i j9 : Nat} (hi : i < 8) (hj : j9 < 8) {x : Int32} (hx : ¬ (clsP x ∧ x ≤ nI (ordM a))) :
    Ev l G 13 0 0 mX10_classOf [.ref (A 30 0), .int (nI i), .int (nI j9), .int x] (mo h A (a, f)) (Rt (some (.int (-1))) (mo h A (va_up a 10 (ordP a), va_up (lgF f a) 11 (dvT x 2)))) := by
  refine Ev.of hl (by decide) (Nat.le_of_ble_eq_true rfl) ?_
  refine g_aload_n (i := 0) dX10_classOf_0 rfl rfl ?_
  refine g_iload_n (i := 1) dX10_classOf_1 rfl rfl ?_
  refine g_iload_n (i := 2) dX10_classOf_2 rfl rfl ?_
  refine g_callS (ev_mIsCell hl) dX10_classOf_3 ml_X10_108 csX10_isCell rfl rfl (Nat.le_of_ble_eq_true rfl) (Nat.le_of_ble_eq_true rfl) (Nat.zero_le _) (Nat.zero_le _) (kr_rt ?_) kx_rt
  refine g_if_eq (tgt := 18) dX10_classOf_6 (by decide) (fun c6 => ?_) (fun c6 => ?_)
  · exact absurd c6 (by rw [if_pos (cellB_nI hi hj)]; decide)
  · refine g_aload_n (i := 0) dX10_classOf_9 rfl rfl ?_
    refine g_iload_n (i := 3) dX10_classOf_10 rfl rfl ?_
    refine g_iconst (v := 2) dX10_classOf_11 (by decide) ?_
    refine g_callV (ev_divides_no hl hx (v := 2)) dX10_classOf_12 ml_X10_201 cvX10_divides K_X10 rfl mo_30 rfl rfl (Nat.le_of_ble_eq_true rfl) (Nat.le_of_ble_eq_true rfl) (Nat.zero_le _) (Nat.zero_le _) (kr_rt ?_) kx_rt
    refine g_goto (tgt := 19) dX10_classOf_15 (by decide) ?_
    refine g_putf dX10_classOf_19 K_X10 (k := 11) fl_X10_67 (Nat.le_of_ble_eq_true rfl) rfl mo_30 (Nat.le_of_ble_eq_true rfl) rfl rfl (Go.heap (mo_f11) ?_)
    refine g_aload_n (i := 0) dX10_classOf_22 rfl rfl ?_
    refine g_getf dX10_classOf_23 K_X10 (k := 11) fl_X10_67 (Nat.le_of_ble_eq_true rfl) mo_30 rfl ?_
    refine g_if_le (tgt := 31) dX10_classOf_26 (by decide) (fun c26 => ?_) (fun c26 => ?_)
    · exact absurd (show dvT x 2 ≤ 0 from c26) (Int32.not_le.mpr dvT_pos.2)
    · refine g_iconst (v := (-1)) dX10_classOf_29 (by decide) ?_
      refine g_iret dX10_classOf_30 rfl rfl ?_
      exact ⟨rfl, rfl⟩

set_option maxRecDepth 100000 in
theorem ev_mClassOf_no1 {l : Launch} {G : GG} (hl : l.stackTraces = false) {A : AD} {h : AH} {a : Nat → Nat → Int32} {f : Nat → Int32} {x y z : Int32} (hc : ¬ cellB x y) :
    Ev l G 13 0 0 mX10_classOf [.ref (A 30 0), .int x, .int y, .int z] (mo h A (a, f)) (Rt (some (.int (-1))) (mo h A (a, va_up f 11 1))) := by
  refine Ev.of hl (by decide) (Nat.le_of_ble_eq_true rfl) ?_
  refine g_aload_n (i := 0) dX10_classOf_0 rfl rfl ?_
  refine g_iload_n (i := 1) dX10_classOf_1 rfl rfl ?_
  refine g_iload_n (i := 2) dX10_classOf_2 rfl rfl ?_
  refine g_callS (ev_mIsCell hl) dX10_classOf_3 ml_X10_108 csX10_isCell rfl rfl (Nat.le_of_ble_eq_true rfl) (Nat.le_of_ble_eq_true rfl) (Nat.zero_le _) (Nat.zero_le _) (kr_rt ?_) kx_rt
  refine g_if_eq (tgt := 18) dX10_classOf_6 (by decide) (fun c6 => ?_) (fun c6 => ?_)
  · refine g_iconst (v := 1) dX10_classOf_18 (by decide) ?_
    refine g_putf dX10_classOf_19 K_X10 (k := 11) fl_X10_67 (Nat.le_of_ble_eq_true rfl) rfl mo_30 (Nat.le_of_ble_eq_true rfl) rfl rfl (Go.heap (mo_f11) ?_)
    refine g_aload_n (i := 0) dX10_classOf_22 rfl rfl ?_
    refine g_getf dX10_classOf_23 K_X10 (k := 11) fl_X10_67 (Nat.le_of_ble_eq_true rfl) mo_30 rfl ?_
    refine g_if_le (tgt := 31) dX10_classOf_26 (by decide) (fun c26 => ?_) (fun c26 => ?_)
    · exact absurd (show (1 : Int32) ≤ 0 from c26) (by decide)
    · refine g_iconst (v := (-1)) dX10_classOf_29 (by decide) ?_
      refine g_iret dX10_classOf_30 rfl rfl ?_
      exact ⟨rfl, rfl⟩
  · exact absurd (if_neg hc) c6

