/-! Model: run (by wip/whole/gen/m42.py). -/
/-- the fields as the reading begins, of a text of s letters -/
def rnF (f : Nat → Int32) : Nat → Int32 := va_up (va_up (va_up f 11 0) 26 (f 13)) 13 0
theorem rn_f0 {g : Nat → Int32} {x : Int32} : va_up (va_up (va_up (va_up (va_up g 26 x) 13 0) 25 0) 24 0) 27 0 = rf (va_up (va_up g 26 x) 13 0) 0 false 0 := by
  funext k
  unfold rf va_up
  by_cases e1 : k = 27
  · subst e1; simp
  · by_cases e2 : k = 24
    · subst e2; simp; rfl
    · by_cases e3 : k = 25
      · subst e3; simp; rfl
      · simp [e1, e2, e3]

set_option maxRecDepth 100000 in
theorem rn_read {l : Launch} {G : GG} (hl : l.stackTraces = false) {A : AD} {h : AH} {a : Nat → Nat → Int32} {f : Nat → Int32} {T : TX} (h26 : f 26 = nI T.2) (h5 : ∀ i, i < T.2 → a 5 i = nI (T.1 i)) (h60 : T.2 ≤ 60) (hT : tOk T) (h13 : ∀ i, i < 5 → a 13 i = nI (bgN i)) (h12 : ∀ i, i < 24 → a 12 i = nI (ltN i)) {P9 : Post} {b9 : Bool} {p9 n9 : Nat} {C9 : Nat → Int32} (hout : (Go l G mX10_run 16 0 0 P9 92 [some (.ref (A 30 0)), some (.int 0), none, none] [] (mo h A (va_up a 14 C9, rf f p9 (!b9) n9)))) : ∀ (j : Nat) (p n : Nat) (C : Nat → Int32), 6 * n ≤ p → p ≤ T.2 → T.2 + 1 ≤ p + j → tmM T j p n C = (b9, p9, n9, C9) → Go l G mX10_run 16 0 0 P9 34 [some (.ref (A 30 0)), some (.int 1), none, none] [] (mo h A (va_up a 14 C, rf f p false n)) := by
  intro j
  induction j with
  | zero => intros; omega
  | succ j ih =>
    intro p n C hn hp hj hm
    by_cases hfu : fuM T p
    · have h8 := fu_in hp hfu
      have h9 := raM_in (i := (wdM T p)) h8.2
      have ex := tm_x (j := j) (n := n) (C := C) hfu
      cases hw : (raM T (wdM T p) (p + lkW T p (wdM T p))).2.2 with
      | true =>
        rw [hw] at ex
        refine g_iload_n (i := 1) dX10_run_34 rfl rfl ?_
        refine g_if_eq (tgt := 92) dX10_run_35 (by decide) (fun c35 => ?_) (fun c35 => ?_)
        · exact absurd c35 (by decide)
        · refine g_aload_n (i := 0) dX10_run_38 rfl rfl ?_
          refine g_callV (ev_readCmd hl h26 h5 h60 hT (p := p) (n := n) hp h13 h12 (C := C) (by omega) hfu) dX10_run_39 ml_X10_257 cvX10_readCommand K_X10 rfl mo_30 rfl rfl (Nat.le_of_ble_eq_true rfl) (Nat.le_of_ble_eq_true rfl) (Nat.zero_le _) (Nat.zero_le _) (kr_vd ?_) kx_rt
          rw [hw]
          refine g_aload_n (i := 0) dX10_run_42 rfl rfl ?_
          refine g_getf dX10_run_43 K_X10 (k := 27) fl_X10_220 (Nat.le_of_ble_eq_true rfl) mo_30 rfl ?_
          refine g_if_ne (tgt := 64) dX10_run_46 (by decide) (fun c46 => ?_) (fun c46 => ?_)
          · refine g_iconst (v := 0) dX10_run_64 (by decide) ?_
            refine g_istore_n (i := 1) dX10_run_65 rfl (Nat.le_of_ble_eq_true rfl) ?_
            refine g_iload_n (i := 1) dX10_run_66 rfl rfl ?_
            refine g_if_eq (tgt := 34) dX10_run_67 (by decide) (fun c67 => ?_) (fun c67 => ?_)
            · refine g_iload_n (i := 1) dX10_run_34 rfl rfl ?_
              refine g_if_eq (tgt := 92) dX10_run_35 (by decide) (fun c35 => ?_) (fun c35 => ?_)
              · have e9 := ex.trans (if_pos rfl)
                rw [e9] at hm
                obtain ⟨rfl, rfl, rfl, rfl⟩ : _ ∧ _ ∧ _ ∧ _ := by injection hm with a1 a2; injection a2 with a2 a3; injection a3 with a3 a4; exact ⟨a1, a2, a3, a4⟩
                exact hout
              · exact absurd rfl c35
            · exact absurd rfl c67
          · exact absurd (show (1 : Int32) = 0 from c46) (by decide)
      | false =>
        rw [hw] at ex
        by_cases hlt : (raM T (wdM T p) (p + lkW T p (wdM T p))).2.1 < T.2
        · by_cases hx2 : nxt T (raM T (wdM T p) (p + lkW T p (wdM T p))).2.1 59 = true
          · have hx := (hr_nx hT (c := 59) (by decide)).mpr hx2
            refine g_iload_n (i := 1) dX10_run_34 rfl rfl ?_
            refine g_if_eq (tgt := 92) dX10_run_35 (by decide) (fun c35 => ?_) (fun c35 => ?_)
            · exact absurd c35 (by decide)
            · refine g_aload_n (i := 0) dX10_run_38 rfl rfl ?_
              refine g_callV (ev_readCmd hl h26 h5 h60 hT (p := p) (n := n) hp h13 h12 (C := C) (by omega) hfu) dX10_run_39 ml_X10_257 cvX10_readCommand K_X10 rfl mo_30 rfl rfl (Nat.le_of_ble_eq_true rfl) (Nat.le_of_ble_eq_true rfl) (Nat.zero_le _) (Nat.zero_le _) (kr_vd ?_) kx_rt
              rw [hw]
              refine g_aload_n (i := 0) dX10_run_42 rfl rfl ?_
              refine g_getf dX10_run_43 K_X10 (k := 27) fl_X10_220 (Nat.le_of_ble_eq_true rfl) mo_30 rfl ?_
              refine g_if_ne (tgt := 64) dX10_run_46 (by decide) (fun c46 => ?_) (fun c46 => ?_)
              · exact absurd (show (0 : Int32) = 0 from rfl) c46
              · refine g_aload_n (i := 0) dX10_run_49 rfl rfl ?_
                refine g_getf dX10_run_50 K_X10 (k := 25) fl_X10_214 (Nat.le_of_ble_eq_true rfl) mo_30 rfl ?_
                refine g_aload_n (i := 0) dX10_run_53 rfl rfl ?_
                refine g_getf dX10_run_54 K_X10 (k := 26) fl_X10_217 (Nat.le_of_ble_eq_true rfl) mo_30 rfl ?_
                refine g_icmp_ge (tgt := 64) dX10_run_57 (by decide) (fun c57 => ?_) (fun c57 => ?_)
                · exact absurd ((le_nI (a := T.2) (b := (raM T (wdM T p) (p + lkW T p (wdM T p))).2.1) h26 (by omega) (by omega)).mp c57) (by omega)
                · refine g_iconst (v := 1) dX10_run_60 (by decide) ?_
                  refine g_goto (tgt := 65) dX10_run_61 (by decide) ?_
                  refine g_istore_n (i := 1) dX10_run_65 rfl (Nat.le_of_ble_eq_true rfl) ?_
                  refine g_iload_n (i := 1) dX10_run_66 rfl rfl ?_
                  refine g_if_eq (tgt := 34) dX10_run_67 (by decide) (fun c67 => ?_) (fun c67 => ?_)
                  · exact absurd c67 (by decide)
                  · refine g_aload_n (i := 0) dX10_run_70 rfl rfl ?_
                    refine g_bipush (v := 59) dX10_run_71 (by decide) ?_
                    refine g_callV (ev_expects_y hl h26 h5 h60 hT (a := va_up a 14 (raC T (wdM T p) (p + lkW T p (wdM T p)) (va_up C (4 * n) (nI (wdM T p))) (4 * n + 1))) (p := (raM T (wdM T p) (p + lkW T p (wdM T p))).2.1) (n := n + 1) h9.2 hx) dX10_run_73 ml_X10_234 cvX10_expects K_X10 rfl mo_30 rfl rfl (Nat.le_of_ble_eq_true rfl) (Nat.le_of_ble_eq_true rfl) (Nat.zero_le _) (Nat.zero_le _) (kr_vd ?_) kx_rt
                    refine g_aload_n (i := 0) dX10_run_76 rfl rfl ?_
                    refine g_getf dX10_run_77 K_X10 (k := 27) fl_X10_220 (Nat.le_of_ble_eq_true rfl) mo_30 rfl ?_
                    refine g_if_ne (tgt := 87) dX10_run_80 (by decide) (fun c80 => ?_) (fun c80 => ?_)
                    · exact absurd (show (0 : Int32) = 0 from rfl) c80
                    · refine g_iconst (v := 1) dX10_run_83 (by decide) ?_
                      refine g_goto (tgt := 88) dX10_run_84 (by decide) ?_
                      refine g_istore_n (i := 1) dX10_run_88 rfl (Nat.le_of_ble_eq_true rfl) ?_
                      refine g_goto (tgt := 34) dX10_run_89 (by decide) ?_
                      exact ih ((raM T (wdM T p) (p + lkW T p (wdM T p))).2.1 + 1) (n + 1) (raC T (wdM T p) (p + lkW T p (wdM T p)) (va_up C (4 * n) (nI (wdM T p))) (4 * n + 1)) (by omega) (by omega) (by omega) ((ex.trans ((if_neg (by decide)).trans ((if_neg (fun q => q hlt)).trans (if_pos hx2)))).symm.trans hm)
          · have hx : ¬ hrI T (raM T (wdM T p) (p + lkW T p (wdM T p))).2.1 = 59 := fun q => hx2 ((hr_nx hT (c := 59) (by decide)).mp q)
            refine g_iload_n (i := 1) dX10_run_34 rfl rfl ?_
            refine g_if_eq (tgt := 92) dX10_run_35 (by decide) (fun c35 => ?_) (fun c35 => ?_)
            · exact absurd c35 (by decide)
            · refine g_aload_n (i := 0) dX10_run_38 rfl rfl ?_
              refine g_callV (ev_readCmd hl h26 h5 h60 hT (p := p) (n := n) hp h13 h12 (C := C) (by omega) hfu) dX10_run_39 ml_X10_257 cvX10_readCommand K_X10 rfl mo_30 rfl rfl (Nat.le_of_ble_eq_true rfl) (Nat.le_of_ble_eq_true rfl) (Nat.zero_le _) (Nat.zero_le _) (kr_vd ?_) kx_rt
              rw [hw]
              refine g_aload_n (i := 0) dX10_run_42 rfl rfl ?_
              refine g_getf dX10_run_43 K_X10 (k := 27) fl_X10_220 (Nat.le_of_ble_eq_true rfl) mo_30 rfl ?_
              refine g_if_ne (tgt := 64) dX10_run_46 (by decide) (fun c46 => ?_) (fun c46 => ?_)
              · exact absurd (show (0 : Int32) = 0 from rfl) c46
              · refine g_aload_n (i := 0) dX10_run_49 rfl rfl ?_
                refine g_getf dX10_run_50 K_X10 (k := 25) fl_X10_214 (Nat.le_of_ble_eq_true rfl) mo_30 rfl ?_
                refine g_aload_n (i := 0) dX10_run_53 rfl rfl ?_
                refine g_getf dX10_run_54 K_X10 (k := 26) fl_X10_217 (Nat.le_of_ble_eq_true rfl) mo_30 rfl ?_
                refine g_icmp_ge (tgt := 64) dX10_run_57 (by decide) (fun c57 => ?_) (fun c57 => ?_)
                · exact absurd ((le_nI (a := T.2) (b := (raM T (wdM T p) (p + lkW T p (wdM T p))).2.1) h26 (by omega) (by omega)).mp c57) (by omega)
                · refine g_iconst (v := 1) dX10_run_60 (by decide) ?_
                  refine g_goto (tgt := 65) dX10_run_61 (by decide) ?_
                  refine g_istore_n (i := 1) dX10_run_65 rfl (Nat.le_of_ble_eq_true rfl) ?_
                  refine g_iload_n (i := 1) dX10_run_66 rfl rfl ?_
                  refine g_if_eq (tgt := 34) dX10_run_67 (by decide) (fun c67 => ?_) (fun c67 => ?_)
                  · exact absurd c67 (by decide)
                  · refine g_aload_n (i := 0) dX10_run_70 rfl rfl ?_
                    refine g_bipush (v := 59) dX10_run_71 (by decide) ?_
                    refine g_callV (ev_expects_n hl h26 h5 h60 hT (a := va_up a 14 (raC T (wdM T p) (p + lkW T p (wdM T p)) (va_up C (4 * n) (nI (wdM T p))) (4 * n + 1))) (p := (raM T (wdM T p) (p + lkW T p (wdM T p))).2.1) (n := n + 1) h9.2 hx) dX10_run_73 ml_X10_234 cvX10_expects K_X10 rfl mo_30 rfl rfl (Nat.le_of_ble_eq_true rfl) (Nat.le_of_ble_eq_true rfl) (Nat.zero_le _) (Nat.zero_le _) (kr_vd ?_) kx_rt
                    refine g_aload_n (i := 0) dX10_run_76 rfl rfl ?_
                    refine g_getf dX10_run_77 K_X10 (k := 27) fl_X10_220 (Nat.le_of_ble_eq_true rfl) mo_30 rfl ?_
                    refine g_if_ne (tgt := 87) dX10_run_80 (by decide) (fun c80 => ?_) (fun c80 => ?_)
                    · refine g_iconst (v := 0) dX10_run_87 (by decide) ?_
                      refine g_istore_n (i := 1) dX10_run_88 rfl (Nat.le_of_ble_eq_true rfl) ?_
                      refine g_goto (tgt := 34) dX10_run_89 (by decide) ?_
                      refine g_iload_n (i := 1) dX10_run_34 rfl rfl ?_
                      refine g_if_eq (tgt := 92) dX10_run_35 (by decide) (fun c35 => ?_) (fun c35 => ?_)
                      · have e9 := ex.trans ((if_neg (by decide)).trans ((if_neg (fun q => q hlt)).trans (if_neg hx2)))
                        rw [e9] at hm
                        obtain ⟨rfl, rfl, rfl, rfl⟩ : _ ∧ _ ∧ _ ∧ _ := by injection hm with a1 a2; injection a2 with a2 a3; injection a3 with a3 a4; exact ⟨a1, a2, a3, a4⟩
                        exact hout
                      · exact absurd rfl c35
                    · exact absurd (show (1 : Int32) = 0 from c80) (by decide)
        · refine g_iload_n (i := 1) dX10_run_34 rfl rfl ?_
          refine g_if_eq (tgt := 92) dX10_run_35 (by decide) (fun c35 => ?_) (fun c35 => ?_)
          · exact absurd c35 (by decide)
          · refine g_aload_n (i := 0) dX10_run_38 rfl rfl ?_
            refine g_callV (ev_readCmd hl h26 h5 h60 hT (p := p) (n := n) hp h13 h12 (C := C) (by omega) hfu) dX10_run_39 ml_X10_257 cvX10_readCommand K_X10 rfl mo_30 rfl rfl (Nat.le_of_ble_eq_true rfl) (Nat.le_of_ble_eq_true rfl) (Nat.zero_le _) (Nat.zero_le _) (kr_vd ?_) kx_rt
            rw [hw]
            refine g_aload_n (i := 0) dX10_run_42 rfl rfl ?_
            refine g_getf dX10_run_43 K_X10 (k := 27) fl_X10_220 (Nat.le_of_ble_eq_true rfl) mo_30 rfl ?_
            refine g_if_ne (tgt := 64) dX10_run_46 (by decide) (fun c46 => ?_) (fun c46 => ?_)
            · exact absurd (show (0 : Int32) = 0 from rfl) c46
            · refine g_aload_n (i := 0) dX10_run_49 rfl rfl ?_
              refine g_getf dX10_run_50 K_X10 (k := 25) fl_X10_214 (Nat.le_of_ble_eq_true rfl) mo_30 rfl ?_
              refine g_aload_n (i := 0) dX10_run_53 rfl rfl ?_
              refine g_getf dX10_run_54 K_X10 (k := 26) fl_X10_217 (Nat.le_of_ble_eq_true rfl) mo_30 rfl ?_
              refine g_icmp_ge (tgt := 64) dX10_run_57 (by decide) (fun c57 => ?_) (fun c57 => ?_)
              · refine g_iconst (v := 0) dX10_run_64 (by decide) ?_
                refine g_istore_n (i := 1) dX10_run_65 rfl (Nat.le_of_ble_eq_true rfl) ?_
                refine g_iload_n (i := 1) dX10_run_66 rfl rfl ?_
                refine g_if_eq (tgt := 34) dX10_run_67 (by decide) (fun c67 => ?_) (fun c67 => ?_)
                · refine g_iload_n (i := 1) dX10_run_34 rfl rfl ?_
                  refine g_if_eq (tgt := 92) dX10_run_35 (by decide) (fun c35 => ?_) (fun c35 => ?_)
                  · have e9 := ex.trans ((if_neg (by decide)).trans (if_pos hlt))
                    rw [e9] at hm
                    obtain ⟨rfl, rfl, rfl, rfl⟩ : _ ∧ _ ∧ _ ∧ _ := by injection hm with a1 a2; injection a2 with a2 a3; injection a3 with a3 a4; exact ⟨a1, a2, a3, a4⟩
                    exact hout
                  · exact absurd rfl c35
                · exact absurd rfl c67
              · exact absurd ((le_nI (a := T.2) (b := (raM T (wdM T p) (p + lkW T p (wdM T p))).2.1) h26 (by omega) (by omega)).mpr (by omega)) c57
    · refine g_iload_n (i := 1) dX10_run_34 rfl rfl ?_
      refine g_if_eq (tgt := 92) dX10_run_35 (by decide) (fun c35 => ?_) (fun c35 => ?_)
      · exact absurd c35 (by decide)
      · refine g_aload_n (i := 0) dX10_run_38 rfl rfl ?_
        refine g_callV (ev_readCmd_no hl h26 h5 h60 hT (p := p) (n := n) hp h13 h12 (C := C) (by omega) hfu) dX10_run_39 ml_X10_257 cvX10_readCommand K_X10 rfl mo_30 rfl rfl (Nat.le_of_ble_eq_true rfl) (Nat.le_of_ble_eq_true rfl) (Nat.zero_le _) (Nat.zero_le _) (kr_vd ?_) kx_rt
        refine g_aload_n (i := 0) dX10_run_42 rfl rfl ?_
        refine g_getf dX10_run_43 K_X10 (k := 27) fl_X10_220 (Nat.le_of_ble_eq_true rfl) mo_30 rfl ?_
        refine g_if_ne (tgt := 64) dX10_run_46 (by decide) (fun c46 => ?_) (fun c46 => ?_)
        · refine g_iconst (v := 0) dX10_run_64 (by decide) ?_
          refine g_istore_n (i := 1) dX10_run_65 rfl (Nat.le_of_ble_eq_true rfl) ?_
          refine g_iload_n (i := 1) dX10_run_66 rfl rfl ?_
          refine g_if_eq (tgt := 34) dX10_run_67 (by decide) (fun c67 => ?_) (fun c67 => ?_)
          · refine g_iload_n (i := 1) dX10_run_34 rfl rfl ?_
            refine g_if_eq (tgt := 92) dX10_run_35 (by decide) (fun c35 => ?_) (fun c35 => ?_)
            · have e9 := tm_1 (j := j) (n := n) (C := C) hfu
              rw [e9] at hm
              obtain ⟨rfl, rfl, rfl, rfl⟩ : _ ∧ _ ∧ _ ∧ _ := by injection hm with a1 a2; injection a2 with a2 a3; injection a3 with a3 a4; exact ⟨a1, a2, a3, a4⟩
              exact hout
            · exact absurd rfl c35
          · exact absurd rfl c67
        · exact absurd (show (1 : Int32) = 0 from c46) (by decide)

set_option maxRecDepth 100000 in
theorem rn_cmds {l : Launch} {G : GG} (hl : l.stackTraces = false) {A : AD} {h : AH} {a : Nat → Nat → Int32} {P9 : Post} {m9 f9 : Nat → Int32} {n9 k9 : Nat} (hn9 : n9 ≤ 59) (hout : (∀ T R, Go l G mX10_run 16 0 0 P9 181 [some (.ref (A 30 0)), some (.int 0), some (.int (nI n9)), none] [] (mo h A (A3 a T R m9, f9)))) : ∀ (j : Nat) (k : Nat) (m f T R : Nat → Int32), k + j = n9 → f 24 = nI n9 → dsR (a 14) j k m f = ((m9, f9), none) → Go l G mX10_run 16 0 0 P9 115 [some (.ref (A 30 0)), some (.int 0), some (.int (nI k)), none] [] (mo h A (A3 a T R m, f)) := by
  have loop : ∀ (j : Nat) (k : Nat) (m f T R : Nat → Int32), k + j = n9 → f 24 = nI n9 → dsR (a 14) j k m f = ((m9, f9), none) → Go l G mX10_run 16 0 0 P9 115 [some (.ref (A 30 0)), some (.int 0), some (.int (nI k)), none] [] (mo h A (A3 a T R m, f)) := by
    intro j
    induction j with
    | zero =>
      intro k m f T R hk h24 hr
      refine g_iload_n (i := 2) dX10_run_115 rfl rfl ?_
      refine g_aload_n (i := 0) dX10_run_116 rfl rfl ?_
      refine g_getf dX10_run_117 K_X10 (k := 24) fl_X10_247 (Nat.le_of_ble_eq_true rfl) mo_30 rfl ?_
      refine g_icmp_ge (tgt := 181) dX10_run_120 (by decide) (fun c120 => ?_) (fun c120 => ?_)
      · obtain rfl : k = n9 := by omega
        injection hr with h1 h2
        injection h1 with h1 h3
        subst h1
        subst h3
        exact hout _ _
      · exact absurd ((le_nI (a := n9) (b := k) h24 (by omega) (by omega)).mpr (by omega)) c120
    | succ j ih =>
      intro k m f T R hk h24 hr
      refine g_iload_n (i := 2) dX10_run_115 rfl rfl ?_
      refine g_aload_n (i := 0) dX10_run_116 rfl rfl ?_
      refine g_getf dX10_run_117 K_X10 (k := 24) fl_X10_247 (Nat.le_of_ble_eq_true rfl) mo_30 rfl ?_
      refine g_icmp_ge (tgt := 181) dX10_run_120 (by decide) (fun c120 => ?_) (fun c120 => ?_)
      · exact absurd ((le_nI (a := n9) (b := k) h24 (by omega) (by omega)).mp c120) (by omega)
      · refine g_aload_n (i := 0) dX10_run_123 rfl rfl ?_
        refine g_iconst (v := 4) dX10_run_124 (by decide) ?_
        refine g_iload_n (i := 2) dX10_run_125 rfl rfl ?_
        refine g_imul dX10_run_126 ?_
        rw [show 4 * nI k = nI (4 * k) from (Int32.ofNat_mul 4 k).symm]
        refine g_callV (ev_does hl (k := k) (by omega)) dX10_run_127 ml_X10_260 cvX10_does K_X10 rfl mo_30 rfl rfl (Nat.le_of_ble_eq_true rfl) (Nat.le_of_ble_eq_true rfl) (Nat.zero_le _) (Nat.zero_le _) (kr_xv (fun x9 => ?_)) kx_x
        refine g_aload_n (i := 0) dX10_run_130 rfl rfl ?_
        refine g_getf dX10_run_131 K_X10 (k := 11) fl_X10_67 (Nat.le_of_ble_eq_true rfl) mo_30 rfl ?_
        refine g_if_le (tgt := 175) dX10_run_134 (by decide) (fun c134 => ?_) (fun c134 => ?_)
        · refine g_iinc (w := 1) dX10_run_175 (by decide) rfl (nI_succ k).symm (Nat.le_of_ble_eq_true rfl) ?_
          refine g_goto (tgt := 115) dX10_run_178 (by decide) ?_
          exact ih (k + 1) _ _ _ _ (by omega) (show (dsM m f (cmA (a 14) k)).2 24 = nI n9 from (dsM_f (by decide) (by decide) (by decide)).trans h24) ((show dsR (a 14) (j + 1) k m f = _ from if_pos c134).symm.trans hr)
        · exact absurd hr (by rw [show dsR (a 14) (j + 1) k m f = _ from if_neg c134]; intro z; injection z with z1 z2; cases z2)
  exact loop

set_option maxRecDepth 100000 in
theorem rn_cmdsN {l : Launch} {G : GG} (hl : l.stackTraces = false) {A : AD} {h : AH} {a : Nat → Nat → Int32} {P9 : Post} {m9 f9 : Nat → Int32} {n9 k9 : Nat} (hn9 : n9 ≤ 59) (hout : (∀ T R, k9 < n9 → Go l G mX10_run 16 0 0 P9 137 [some (.ref (A 30 0)), some (.int 0), some (.int (nI k9)), none] [] (mo h A (A3 a T R m9, f9)))) : ∀ (j : Nat) (k : Nat) (m f T R : Nat → Int32), k + j = n9 → f 24 = nI n9 → dsR (a 14) j k m f = ((m9, f9), some k9) → Go l G mX10_run 16 0 0 P9 115 [some (.ref (A 30 0)), some (.int 0), some (.int (nI k)), none] [] (mo h A (A3 a T R m, f)) := by
  have loop : ∀ (j : Nat) (k : Nat) (m f T R : Nat → Int32), k + j = n9 → f 24 = nI n9 → dsR (a 14) j k m f = ((m9, f9), some k9) → Go l G mX10_run 16 0 0 P9 115 [some (.ref (A 30 0)), some (.int 0), some (.int (nI k)), none] [] (mo h A (A3 a T R m, f)) := by
    intro j
    induction j with
    | zero =>
      intro k m f T R hk h24 hr
      injection hr with h1 h2
      cases h2
    | succ j ih =>
      intro k m f T R hk h24 hr
      refine g_iload_n (i := 2) dX10_run_115 rfl rfl ?_
      refine g_aload_n (i := 0) dX10_run_116 rfl rfl ?_
      refine g_getf dX10_run_117 K_X10 (k := 24) fl_X10_247 (Nat.le_of_ble_eq_true rfl) mo_30 rfl ?_
      refine g_icmp_ge (tgt := 181) dX10_run_120 (by decide) (fun c120 => ?_) (fun c120 => ?_)
      · exact absurd ((le_nI (a := n9) (b := k) h24 (by omega) (by omega)).mp c120) (by omega)
      · refine g_aload_n (i := 0) dX10_run_123 rfl rfl ?_
        refine g_iconst (v := 4) dX10_run_124 (by decide) ?_
        refine g_iload_n (i := 2) dX10_run_125 rfl rfl ?_
        refine g_imul dX10_run_126 ?_
        rw [show 4 * nI k = nI (4 * k) from (Int32.ofNat_mul 4 k).symm]
        refine g_callV (ev_does hl (k := k) (by omega)) dX10_run_127 ml_X10_260 cvX10_does K_X10 rfl mo_30 rfl rfl (Nat.le_of_ble_eq_true rfl) (Nat.le_of_ble_eq_true rfl) (Nat.zero_le _) (Nat.zero_le _) (kr_xv (fun x9 => ?_)) kx_x
        refine g_aload_n (i := 0) dX10_run_130 rfl rfl ?_
        refine g_getf dX10_run_131 K_X10 (k := 11) fl_X10_67 (Nat.le_of_ble_eq_true rfl) mo_30 rfl ?_
        refine g_if_le (tgt := 175) dX10_run_134 (by decide) (fun c134 => ?_) (fun c134 => ?_)
        · refine g_iinc (w := 1) dX10_run_175 (by decide) rfl (nI_succ k).symm (Nat.le_of_ble_eq_true rfl) ?_
          refine g_goto (tgt := 115) dX10_run_178 (by decide) ?_
          exact ih (k + 1) _ _ _ _ (by omega) (show (dsM m f (cmA (a 14) k)).2 24 = nI n9 from (dsM_f (by decide) (by decide) (by decide)).trans h24) ((show dsR (a 14) (j + 1) k m f = _ from if_pos c134).symm.trans hr)
        · have e9 := (show dsR (a 14) (j + 1) k m f = _ from if_neg c134).symm.trans hr
          injection e9 with h1 h2
          injection h2 with h2
          subst h2
          rw [h1]
          exact hout _ _ (by omega)
  exact loop

set_option maxRecDepth 100000 in
theorem rn_back {l : Launch} {G : GG} (hl : l.stackTraces = false) {A : AD} {h : AH} {a : Nat → Nat → Int32} {f : Nat → Int32} {w : Int32} {P9 : Post} (hout : ∀ X, Go l G mX10_run 16 0 0 P9 164 [some (.ref (A 30 0)), some (.int 0), some (.int w), X] [] (mo h A (va_up a 0 (a 1), f))) : Go l G mX10_run 16 0 0 P9 139 [some (.ref (A 30 0)), some (.int 0), some (.int w), some (.int (nI 0))] [] (mo h A (a, f)) := by
  have loop : ∀ (j : Nat) (k : Nat), k + j = 202 → Go l G mX10_run 16 0 0 P9 139 [some (.ref (A 30 0)), some (.int 0), some (.int w), some (.int (nI k))] [] (mo h A (va_up a 0 (fun i => if i < k then a 1 i else a 0 i), f)) := by
    intro j
    induction j with
    | zero =>
      intro k hk
      refine g_iload_n (i := 3) dX10_run_139 rfl rfl ?_
      refine g_sipush (v := 202) dX10_run_140 (by decide) ?_
      refine g_icmp_ge (tgt := 164) dX10_run_143 (by decide) (fun c143 => ?_) (fun c143 => ?_)
      · refine Go.heap (mo_a0 (a := a) (f := f) (x := (fun i => if i < k then a 1 i else a 0 i))).symm ?_
        refine Go.arr (f' := a 1) (fun i hi => if_pos (by omega)) ?_
        refine Go.heap (mo_a0 (a := a) (f := f)) ?_
        exact hout _
      · exact absurd ((le_nI (a := 202) (b := k) rfl (by omega) (by omega)).mpr (by omega)) c143
    | succ j ih =>
      intro k hk
      refine g_iload_n (i := 3) dX10_run_139 rfl rfl ?_
      refine g_sipush (v := 202) dX10_run_140 (by decide) ?_
      refine g_icmp_ge (tgt := 164) dX10_run_143 (by decide) (fun c143 => ?_) (fun c143 => ?_)
      · exact absurd ((le_nI (a := 202) (b := k) rfl (by omega) (by omega)).mp c143) (by omega)
      · refine g_aload_n (i := 0) dX10_run_146 rfl rfl ?_
        refine g_getf dX10_run_147 K_X10 (k := 0) fl_X10_9 (Nat.le_of_ble_eq_true rfl) mo_30 rfl ?_
        refine g_iload_n (i := 3) dX10_run_150 rfl rfl ?_
        refine g_aload_n (i := 0) dX10_run_151 rfl rfl ?_
        refine g_getf dX10_run_152 K_X10 (k := 1) fl_X10_13 (Nat.le_of_ble_eq_true rfl) mo_30 rfl ?_
        refine g_iload_n (i := 3) dX10_run_155 rfl rfl ?_
        refine g_iald dX10_run_156 mo_32 (ix_nI (j := k) (by omega)) (by omega) ?_
        refine g_iast dX10_run_157 mo_31 (ix_nI (j := k) (by omega)) (by omega) rfl (Go.heap mo_a0 ?_)
        refine g_iinc (w := 1) dX10_run_158 (by decide) rfl (nI_succ k).symm (Nat.le_of_ble_eq_true rfl) ?_
        refine g_goto (tgt := 139) dX10_run_161 (by decide) ?_
        refine Go.heap (h' := (mo h A (va_up a 0 (fun i => if i < (k + 1) then a 1 i else a 0 i), f))) (by rw [va_up2, va_up_self, va_up_ne _ _ (show (1 : Nat) ≠ 0 by decide), cpS]) ?_
        exact ih (k + 1) (by omega)
  refine Go.heap (h' := (mo h A (va_up a 0 (fun i => if i < 0 then a 1 i else a 0 i), f))) ?_ (loop 202 0 rfl)
  congr 2; exact (va_self a 0).symm

set_option maxRecDepth 100000 in
theorem ev_mRun_no1 {l : Launch} {G : GG} (hl : l.stackTraces = false) {A : AD} {h : AH} {a : Nat → Nat → Int32} {f : Nat → Int32} {T : TX} (hf13 : f 13 = nI T.2) (h5 : ∀ i, i < T.2 → a 5 i = nI (T.1 i)) (h60 : T.2 ≤ 60) (hT : tOk T) (h13 : ∀ i, i < 5 → a 13 i = nI (bgN i)) (h12 : ∀ i, i < 24 → a 12 i = nI (ltN i)) {p9 n9 : Nat} {C9 : Nat → Int32} (hm : tmM T 61 0 0 (a 14) = (false, p9, n9, C9)) :
    Ev l G 16 0 0 mX10_run [.ref (A 30 0)] (mo h A (a, f)) (Rt (some (.int (-1))) (mo h A ((va_up (va_up a 1 (a 0)) 14 C9), va_up (va_up (rf (rnF f) p9 true n9) 7 (nI p9)) 11 1))) := by
  refine Ev.of hl (by decide) (Nat.le_of_ble_eq_true rfl) ?_
  refine g_aload_n (i := 0) dX10_run_0 rfl rfl ?_
  refine g_callV (ev_starts hl) dX10_run_1 ml_X10_118 cvX10_starts K_X10 rfl mo_30 rfl rfl (Nat.le_of_ble_eq_true rfl) (Nat.le_of_ble_eq_true rfl) (Nat.zero_le _) (Nat.zero_le _) (kr_vd ?_) kx_rt
  refine g_aload_n (i := 0) dX10_run_4 rfl rfl ?_
  refine g_aload_n (i := 0) dX10_run_5 rfl rfl ?_
  refine g_getf dX10_run_6 K_X10 (k := 13) fl_X10_211 (Nat.le_of_ble_eq_true rfl) mo_30 rfl ?_
  refine g_putf dX10_run_9 K_X10 (k := 26) fl_X10_217 (Nat.le_of_ble_eq_true rfl) rfl mo_30 (Nat.le_of_ble_eq_true rfl) rfl rfl (Go.heap mo_f26 ?_)
  refine g_aload_n (i := 0) dX10_run_12 rfl rfl ?_
  refine g_iconst (v := 0) dX10_run_13 (by decide) ?_
  refine g_putf dX10_run_14 K_X10 (k := 13) fl_X10_211 (Nat.le_of_ble_eq_true rfl) rfl mo_30 (Nat.le_of_ble_eq_true rfl) rfl rfl (Go.heap mo_f13 ?_)
  refine g_aload_n (i := 0) dX10_run_17 rfl rfl ?_
  refine g_iconst (v := 0) dX10_run_18 (by decide) ?_
  refine g_putf dX10_run_19 K_X10 (k := 25) fl_X10_214 (Nat.le_of_ble_eq_true rfl) rfl mo_30 (Nat.le_of_ble_eq_true rfl) rfl rfl (Go.heap mo_f25 ?_)
  refine g_aload_n (i := 0) dX10_run_22 rfl rfl ?_
  refine g_iconst (v := 0) dX10_run_23 (by decide) ?_
  refine g_putf dX10_run_24 K_X10 (k := 24) fl_X10_247 (Nat.le_of_ble_eq_true rfl) rfl mo_30 (Nat.le_of_ble_eq_true rfl) rfl rfl (Go.heap mo_f24 ?_)
  refine g_aload_n (i := 0) dX10_run_27 rfl rfl ?_
  refine g_iconst (v := 0) dX10_run_28 (by decide) ?_
  refine g_putf dX10_run_29 K_X10 (k := 27) fl_X10_220 (Nat.le_of_ble_eq_true rfl) rfl mo_30 (Nat.le_of_ble_eq_true rfl) rfl rfl (Go.heap mo_f27 ?_)
  refine g_iconst (v := 1) dX10_run_32 (by decide) ?_
  refine g_istore_n (i := 1) dX10_run_33 rfl (Nat.le_of_ble_eq_true rfl) ?_
  refine Go.heap (h' := (mo h A (va_up (va_up a 1 (a 0)) 14 (a 14), rf (rnF f) 0 false 0))) ?_ (rn_read hl (a := (va_up a 1 (a 0))) (f := rnF f) (T := T) hf13 h5 h60 hT h13 h12 (b9 := false) (p9 := p9) (n9 := n9) (C9 := C9) ?_ 61 0 0 (a 14) (by omega) (by omega) (by omega) hm)
  · show mo h A ((va_up a 1 (a 0)), _) = mo h A (va_up (va_up a 1 (a 0)) 14 ((va_up a 1 (a 0)) 14), _)
    rw [va_self, rn_f0]; rfl
  · refine g_aload_n (i := 0) dX10_run_92 rfl rfl ?_
    refine g_getf dX10_run_93 K_X10 (k := 27) fl_X10_220 (Nat.le_of_ble_eq_true rfl) mo_30 rfl ?_
    refine g_if_eq (tgt := 113) dX10_run_96 (by decide) (fun c96 => ?_) (fun c96 => ?_)
    · exact absurd (show (1 : Int32) = 0 from c96) (by decide)
    · refine g_aload_n (i := 0) dX10_run_99 rfl rfl ?_
      refine g_aload_n (i := 0) dX10_run_100 rfl rfl ?_
      refine g_getf dX10_run_101 K_X10 (k := 25) fl_X10_214 (Nat.le_of_ble_eq_true rfl) mo_30 rfl ?_
      refine g_putf dX10_run_104 K_X10 (k := 7) fl_X10_25 (Nat.le_of_ble_eq_true rfl) rfl mo_30 (Nat.le_of_ble_eq_true rfl) rfl rfl (Go.heap mo_f7 ?_)
      refine g_aload_n (i := 0) dX10_run_107 rfl rfl ?_
      refine g_iconst (v := 1) dX10_run_108 (by decide) ?_
      refine g_callV (ev_throwing hl (x := 1)) dX10_run_109 ml_X10_76 cvX10_throwing K_X10 rfl mo_30 rfl rfl (Nat.le_of_ble_eq_true rfl) (Nat.le_of_ble_eq_true rfl) (Nat.zero_le _) (Nat.zero_le _) (kr_rt ?_) kx_rt
      refine g_iret dX10_run_112 rfl rfl ?_
      exact ⟨rfl, rfl⟩

theorem tm_in {T : TX} {b9 : Bool} {p9 n9 : Nat} {C9 : Nat → Int32} : ∀ (j p n : Nat) (C : Nat → Int32), 6 * n ≤ p → p ≤ T.2 → tmM T j p n C = (b9, p9, n9, C9) → p9 ≤ T.2 ∧ 6 * n9 ≤ p9 + 1
  | 0, p, n, C, hn, hp, hm => by
    rw [tmM] at hm
    injection hm with a1 a2; injection a2 with a2 a3; injection a3 with a3 a4
    omega
  | j + 1, p, n, C, hn, hp, hm => by
    by_cases hfu : fuM T p
    · have h8 := fu_in hp hfu
      have h9 := raM_in (i := wdM T p) h8.2
      rw [tm_x hfu] at hm
      split at hm
      · injection hm with a1 a2; injection a2 with a2 a3; injection a3 with a3 a4
        omega
      · split at hm
        · injection hm with a1 a2; injection a2 with a2 a3; injection a3 with a3 a4
          omega
        · next hlt =>
          split at hm
          · exact tm_in j _ _ _ (by omega) (by omega) hm
          · injection hm with a1 a2; injection a2 with a2 a3; injection a3 with a3 a4
            omega
    · rw [tm_1 hfu] at hm
      have h1 := lkW_le hp (wdM_lt (T := T) (p := p))
      injection hm with a1 a2; injection a2 with a2 a3; injection a3 with a3 a4
      omega
theorem tm_n {T : TX} {b9 : Bool} {p9 n9 : Nat} {C9 a14 : Nat → Int32} (h60 : T.2 ≤ 60) (hm : tmM T 61 0 0 a14 = (b9, p9, n9, C9)) : n9 ≤ 59 := by
  have := tm_in 61 0 0 a14 (by omega) (by omega) hm
  omega

set_option maxRecDepth 100000 in
theorem ev_mRun_no2 {l : Launch} {G : GG} (hl : l.stackTraces = false) {A : AD} {h : AH} {a : Nat → Nat → Int32} {f : Nat → Int32} {T : TX} (hf13 : f 13 = nI T.2) (h5 : ∀ i, i < T.2 → a 5 i = nI (T.1 i)) (h60 : T.2 ≤ 60) (hT : tOk T) (h13 : ∀ i, i < 5 → a 13 i = nI (bgN i)) (h12 : ∀ i, i < 24 → a 12 i = nI (ltN i)) {p9 n9 : Nat} {C9 : Nat → Int32} (hm : tmM T 61 0 0 (a 14) = (true, p9, n9, C9)) {m9 f9 : Nat → Int32} {k9 : Nat} (hr : dsR C9 n9 0 (a 0) (rf (rnF f) p9 false n9) = ((m9, f9), some k9)) :
    Ev l G 16 0 0 mX10_run [.ref (A 30 0)] (mo h A (a, f)) (RtX (some (.int (-1))) (fun x : (Nat → Int32) × (Nat → Int32) => (mo h A (A3 (va_up (va_up a 1 (a 0)) 14 C9) x.1 x.2 (a 0), va_up (va_up f9 8 (nI k9)) 11 2)))) := by
  refine Ev.of hl (by decide) (Nat.le_of_ble_eq_true rfl) ?_
  refine g_aload_n (i := 0) dX10_run_0 rfl rfl ?_
  refine g_callV (ev_starts hl) dX10_run_1 ml_X10_118 cvX10_starts K_X10 rfl mo_30 rfl rfl (Nat.le_of_ble_eq_true rfl) (Nat.le_of_ble_eq_true rfl) (Nat.zero_le _) (Nat.zero_le _) (kr_vd ?_) kx_rt
  refine g_aload_n (i := 0) dX10_run_4 rfl rfl ?_
  refine g_aload_n (i := 0) dX10_run_5 rfl rfl ?_
  refine g_getf dX10_run_6 K_X10 (k := 13) fl_X10_211 (Nat.le_of_ble_eq_true rfl) mo_30 rfl ?_
  refine g_putf dX10_run_9 K_X10 (k := 26) fl_X10_217 (Nat.le_of_ble_eq_true rfl) rfl mo_30 (Nat.le_of_ble_eq_true rfl) rfl rfl (Go.heap mo_f26 ?_)
  refine g_aload_n (i := 0) dX10_run_12 rfl rfl ?_
  refine g_iconst (v := 0) dX10_run_13 (by decide) ?_
  refine g_putf dX10_run_14 K_X10 (k := 13) fl_X10_211 (Nat.le_of_ble_eq_true rfl) rfl mo_30 (Nat.le_of_ble_eq_true rfl) rfl rfl (Go.heap mo_f13 ?_)
  refine g_aload_n (i := 0) dX10_run_17 rfl rfl ?_
  refine g_iconst (v := 0) dX10_run_18 (by decide) ?_
  refine g_putf dX10_run_19 K_X10 (k := 25) fl_X10_214 (Nat.le_of_ble_eq_true rfl) rfl mo_30 (Nat.le_of_ble_eq_true rfl) rfl rfl (Go.heap mo_f25 ?_)
  refine g_aload_n (i := 0) dX10_run_22 rfl rfl ?_
  refine g_iconst (v := 0) dX10_run_23 (by decide) ?_
  refine g_putf dX10_run_24 K_X10 (k := 24) fl_X10_247 (Nat.le_of_ble_eq_true rfl) rfl mo_30 (Nat.le_of_ble_eq_true rfl) rfl rfl (Go.heap mo_f24 ?_)
  refine g_aload_n (i := 0) dX10_run_27 rfl rfl ?_
  refine g_iconst (v := 0) dX10_run_28 (by decide) ?_
  refine g_putf dX10_run_29 K_X10 (k := 27) fl_X10_220 (Nat.le_of_ble_eq_true rfl) rfl mo_30 (Nat.le_of_ble_eq_true rfl) rfl rfl (Go.heap mo_f27 ?_)
  refine g_iconst (v := 1) dX10_run_32 (by decide) ?_
  refine g_istore_n (i := 1) dX10_run_33 rfl (Nat.le_of_ble_eq_true rfl) ?_
  refine Go.heap (h' := (mo h A (va_up (va_up a 1 (a 0)) 14 (a 14), rf (rnF f) 0 false 0))) ?_ (rn_read hl (a := (va_up a 1 (a 0))) (f := rnF f) (T := T) hf13 h5 h60 hT h13 h12 (b9 := true) (p9 := p9) (n9 := n9) (C9 := C9) ?_ 61 0 0 (a 14) (by omega) (by omega) (by omega) hm)
  · show mo h A ((va_up a 1 (a 0)), _) = mo h A (va_up (va_up a 1 (a 0)) 14 ((va_up a 1 (a 0)) 14), _)
    rw [va_self, rn_f0]; rfl
  · have hn9 := tm_n (a14 := a 14) h60 hm
    refine g_aload_n (i := 0) dX10_run_92 rfl rfl ?_
    refine g_getf dX10_run_93 K_X10 (k := 27) fl_X10_220 (Nat.le_of_ble_eq_true rfl) mo_30 rfl ?_
    refine g_if_eq (tgt := 113) dX10_run_96 (by decide) (fun c96 => ?_) (fun c96 => ?_)
    · refine g_iconst (v := 0) dX10_run_113 (by decide) ?_
      refine g_istore_n (i := 2) dX10_run_114 rfl (Nat.le_of_ble_eq_true rfl) ?_
      refine Go.heap (h' := (mo h A (A3 (va_up (va_up a 1 (a 0)) 14 C9) ((va_up (va_up a 1 (a 0)) 14 C9) 6) ((va_up (va_up a 1 (a 0)) 14 C9) 7) (a 0), rf (rnF f) p9 false n9))) (by show mo h A ((va_up (va_up a 1 (a 0)) 14 C9), _) = mo h A (A3 (va_up (va_up a 1 (a 0)) 14 C9) ((va_up (va_up a 1 (a 0)) 14 C9) 6) ((va_up (va_up a 1 (a 0)) 14 C9) 7) ((va_up (va_up a 1 (a 0)) 14 C9) 0), _); rw [A3_self]; rfl) ?_
      refine rn_cmdsN hl (a := (va_up (va_up a 1 (a 0)) 14 C9)) (m9 := m9) (f9 := f9) hn9 (fun T2 R2 => ?_) n9 0 (a 0) _ _ _ (Nat.zero_add _) rfl hr
      intro hk9
      refine g_iconst (v := 0) dX10_run_137 (by decide) ?_
      refine g_istore_n (i := 3) dX10_run_138 rfl (Nat.le_of_ble_eq_true rfl) ?_
      refine rn_back hl (a := A3 (va_up (va_up a 1 (a 0)) 14 C9) T2 R2 m9) (f := f9) (fun X => ?_)
      refine Go.heap (h' := (mo h A (A3 (va_up (va_up a 1 (a 0)) 14 C9) T2 R2 (a 0), f9))) (by rw [A3_0]; rfl) ?_
      refine g_aload_n (i := 0) dX10_run_164 rfl rfl ?_
      refine g_iload_n (i := 2) dX10_run_165 rfl rfl ?_
      refine g_putf dX10_run_166 K_X10 (k := 8) fl_X10_29 (Nat.le_of_ble_eq_true rfl) rfl mo_30 (Nat.le_of_ble_eq_true rfl) rfl rfl (Go.heap mo_f8 ?_)
      refine g_aload_n (i := 0) dX10_run_169 rfl rfl ?_
      refine g_iconst (v := 2) dX10_run_170 (by decide) ?_
      refine g_callV (ev_throwing hl (x := 2)) dX10_run_171 ml_X10_76 cvX10_throwing K_X10 rfl mo_30 rfl rfl (Nat.le_of_ble_eq_true rfl) (Nat.le_of_ble_eq_true rfl) (Nat.zero_le _) (Nat.zero_le _) (kr_rt ?_) kx_rt
      refine g_iret dX10_run_174 rfl rfl ?_
      exact ⟨rfl, (T2, R2), rfl⟩
    · exact absurd (show (0 : Int32) = 0 from rfl) c96

set_option maxRecDepth 100000 in
theorem ev_mRun {l : Launch} {G : GG} (hl : l.stackTraces = false) {A : AD} {h : AH} {a : Nat → Nat → Int32} {f : Nat → Int32} {T : TX} (hf13 : f 13 = nI T.2) (h5 : ∀ i, i < T.2 → a 5 i = nI (T.1 i)) (h60 : T.2 ≤ 60) (hT : tOk T) (h13 : ∀ i, i < 5 → a 13 i = nI (bgN i)) (h12 : ∀ i, i < 24 → a 12 i = nI (ltN i)) {p9 n9 : Nat} {C9 : Nat → Int32} (hm : tmM T 61 0 0 (a 14) = (true, p9, n9, C9)) {m9 f9 : Nat → Int32} (hr : dsR C9 n9 0 (a 0) (rf (rnF f) p9 false n9) = ((m9, f9), none)) {ch : Nat} (h6 : f 6 = nI ch) (hch : ch ≤ 8) (h11 : f9 11 = 0) :
    Ev l G 16 0 0 mX10_run [.ref (A 30 0)] (mo h A (a, f)) (RtX (some (.int (nI n9))) (fun x : (Nat → Int32) × (Nat → Int32) => (mo h A (chA (A3 (va_up (va_up a 1 (a 0)) 14 C9) x.1 x.2 m9) ch, chF f9 ch)))) := by
  refine Ev.of hl (by decide) (Nat.le_of_ble_eq_true rfl) ?_
  refine g_aload_n (i := 0) dX10_run_0 rfl rfl ?_
  refine g_callV (ev_starts hl) dX10_run_1 ml_X10_118 cvX10_starts K_X10 rfl mo_30 rfl rfl (Nat.le_of_ble_eq_true rfl) (Nat.le_of_ble_eq_true rfl) (Nat.zero_le _) (Nat.zero_le _) (kr_vd ?_) kx_rt
  refine g_aload_n (i := 0) dX10_run_4 rfl rfl ?_
  refine g_aload_n (i := 0) dX10_run_5 rfl rfl ?_
  refine g_getf dX10_run_6 K_X10 (k := 13) fl_X10_211 (Nat.le_of_ble_eq_true rfl) mo_30 rfl ?_
  refine g_putf dX10_run_9 K_X10 (k := 26) fl_X10_217 (Nat.le_of_ble_eq_true rfl) rfl mo_30 (Nat.le_of_ble_eq_true rfl) rfl rfl (Go.heap mo_f26 ?_)
  refine g_aload_n (i := 0) dX10_run_12 rfl rfl ?_
  refine g_iconst (v := 0) dX10_run_13 (by decide) ?_
  refine g_putf dX10_run_14 K_X10 (k := 13) fl_X10_211 (Nat.le_of_ble_eq_true rfl) rfl mo_30 (Nat.le_of_ble_eq_true rfl) rfl rfl (Go.heap mo_f13 ?_)
  refine g_aload_n (i := 0) dX10_run_17 rfl rfl ?_
  refine g_iconst (v := 0) dX10_run_18 (by decide) ?_
  refine g_putf dX10_run_19 K_X10 (k := 25) fl_X10_214 (Nat.le_of_ble_eq_true rfl) rfl mo_30 (Nat.le_of_ble_eq_true rfl) rfl rfl (Go.heap mo_f25 ?_)
  refine g_aload_n (i := 0) dX10_run_22 rfl rfl ?_
  refine g_iconst (v := 0) dX10_run_23 (by decide) ?_
  refine g_putf dX10_run_24 K_X10 (k := 24) fl_X10_247 (Nat.le_of_ble_eq_true rfl) rfl mo_30 (Nat.le_of_ble_eq_true rfl) rfl rfl (Go.heap mo_f24 ?_)
  refine g_aload_n (i := 0) dX10_run_27 rfl rfl ?_
  refine g_iconst (v := 0) dX10_run_28 (by decide) ?_
  refine g_putf dX10_run_29 K_X10 (k := 27) fl_X10_220 (Nat.le_of_ble_eq_true rfl) rfl mo_30 (Nat.le_of_ble_eq_true rfl) rfl rfl (Go.heap mo_f27 ?_)
  refine g_iconst (v := 1) dX10_run_32 (by decide) ?_
  refine g_istore_n (i := 1) dX10_run_33 rfl (Nat.le_of_ble_eq_true rfl) ?_
  refine Go.heap (h' := (mo h A (va_up (va_up a 1 (a 0)) 14 (a 14), rf (rnF f) 0 false 0))) ?_ (rn_read hl (a := (va_up a 1 (a 0))) (f := rnF f) (T := T) hf13 h5 h60 hT h13 h12 (b9 := true) (p9 := p9) (n9 := n9) (C9 := C9) ?_ 61 0 0 (a 14) (by omega) (by omega) (by omega) hm)
  · show mo h A ((va_up a 1 (a 0)), _) = mo h A (va_up (va_up a 1 (a 0)) 14 ((va_up a 1 (a 0)) 14), _)
    rw [va_self, rn_f0]; rfl
  · have hn9 := tm_n (a14 := a 14) h60 hm
    refine g_aload_n (i := 0) dX10_run_92 rfl rfl ?_
    refine g_getf dX10_run_93 K_X10 (k := 27) fl_X10_220 (Nat.le_of_ble_eq_true rfl) mo_30 rfl ?_
    refine g_if_eq (tgt := 113) dX10_run_96 (by decide) (fun c96 => ?_) (fun c96 => ?_)
    · refine g_iconst (v := 0) dX10_run_113 (by decide) ?_
      refine g_istore_n (i := 2) dX10_run_114 rfl (Nat.le_of_ble_eq_true rfl) ?_
      refine Go.heap (h' := (mo h A (A3 (va_up (va_up a 1 (a 0)) 14 C9) ((va_up (va_up a 1 (a 0)) 14 C9) 6) ((va_up (va_up a 1 (a 0)) 14 C9) 7) (a 0), rf (rnF f) p9 false n9))) (by show mo h A ((va_up (va_up a 1 (a 0)) 14 C9), _) = mo h A (A3 (va_up (va_up a 1 (a 0)) 14 C9) ((va_up (va_up a 1 (a 0)) 14 C9) 6) ((va_up (va_up a 1 (a 0)) 14 C9) 7) ((va_up (va_up a 1 (a 0)) 14 C9) 0), _); rw [A3_self]; rfl) ?_
      refine rn_cmds (k9 := 0) hl (a := (va_up (va_up a 1 (a 0)) 14 C9)) (m9 := m9) (f9 := f9) hn9 (fun T2 R2 => ?_) n9 0 (a 0) _ _ _ (Nat.zero_add _) rfl hr
      refine g_aload_n (i := 0) dX10_run_181 rfl rfl ?_
      refine g_aload_n (i := 0) dX10_run_182 rfl rfl ?_
      refine g_getf dX10_run_183 K_X10 (k := 24) fl_X10_247 (Nat.le_of_ble_eq_true rfl) mo_30 rfl ?_
      rw [show f9 24 = nI n9 from (show f9 24 = rf (rnF f) p9 false n9 24 from (congrArg (fun z => z.1.2 24) hr).symm.trans (dsR_f (by decide) (by decide) (by decide) _ _ _ _))]
      refine g_callV (ev_changed hl (a := A3 (va_up (va_up a 1 (a 0)) 14 C9) T2 R2 m9) (f := f9) (ch := ch) ((show f9 6 = rf (rnF f) p9 false n9 6 from (congrArg (fun z => z.1.2 6) hr).symm.trans (dsR_f (by decide) (by decide) (by decide) _ _ _ _)).trans h6) (by rw [h11]; decide) hch) dX10_run_186 ml_X10_125 cvX10_changed K_X10 rfl mo_30 rfl rfl (Nat.le_of_ble_eq_true rfl) (Nat.le_of_ble_eq_true rfl) (Nat.zero_le _) (Nat.zero_le _) (kr_rt ?_) kx_rt
      refine g_iret dX10_run_189 rfl rfl ?_
      exact ⟨rfl, (T2, R2), rfl⟩
    · exact absurd (show (0 : Int32) = 0 from rfl) c96

