/-! The law's cases 8 to 15 (by wip/whole/gen/m63.py). -/
set_option maxRecDepth 100000 in
theorem lw_c8 {l : Launch} {G : GG} (hl : l.stackTraces = false) {A : AD} {k KC KS : Nat} {P : Post} (hk : k < 512) (hj : 5 * k + 4 < (gX G).2.1) {X : CL} {Y : YS} {fo : Nat → Int64} {fd : Nat → UInt64} (hR : RelX k X Y) {v6 v7 v8 : Option Value} (nx : lwN l G A k KC KS P) : Go l G mL_law 40 (KC + 25) (KS + 3550) P 684 (lwL G A k v6 v7 v8) [] (LW A X Y fo fd) := by
  obtain ⟨M, N, c, q, H, L, R, t, l9, O⟩ := X
  obtain ⟨a, f⟩ := Y
  have hR : RelP k M N t l9 O a f := hR
  obtain ⟨mc, ms, hmc, hms, hE⟩ := jt_refusalReason (G := G) (A := A) (fo := fo) (fd := fd) hl hR
  refine g_aload_n (i := 1) dL_law_684 rfl rfl ?_
  refine g_aload_n (i := 3) dL_law_685 rfl rfl ?_
  refine g_callS hE dL_law_686 ml_L_186 csL_refusalReason rfl rfl (Nat.le_of_ble_eq_true rfl) (Nat.le_of_ble_eq_true rfl) (by omega) (by omega) (kr_jw (KC := KC) (KS := KS) (by omega) (by omega) (fun k0 X2 f2 d2 Pm hM hJ => ?_)) kx_jw
  refine g_istore dL_law_689 (Nat.le_of_ble_eq_true rfl) ?_
  refine g_aload_n (i := 2) dL_law_691 rfl rfl ?_
  refine g_callV hM dL_law_692 ml_L_189 cvX10_refusalReason K_X10 rfl LW_30 rfl rfl (Nat.le_of_ble_eq_true rfl) (Nat.le_of_ble_eq_true rfl) (Nat.zero_le _) (Nat.zero_le _) (kr_jm hJ (fun b Y2 h11 hb hR2 => ?_)) (kx_jm hJ)
  refine g_istore dL_law_695 (Nat.le_of_ble_eq_true rfl) ?_
  refine g_aload_n (i := 2) dL_law_697 rfl rfl ?_
  refine g_callV (ev_thrownL hl) dL_law_698 ml_L_157 cvX10_thrown K_X10 rfl LW_30 rfl rfl (Nat.le_of_ble_eq_true rfl) (Nat.le_of_ble_eq_true rfl) (Nat.zero_le _) (Nat.zero_le _) (kr_rt ?_) kx_rt
  refine g_iload dL_law_701 rfl ?_
  refine g_icmp_eq (tgt := 708) dL_law_703 (by decide) (fun _ => ?_) (fun c9 => absurd h11 c9)
  refine g_iload dL_law_708 rfl ?_
  refine g_if_ne (tgt := 725) dL_law_710 (by decide) (fun _ => ?_) (fun c0 => ?_)
  · refine g_goto (tgt := 2620) dL_law_725 (by decide) ?_
    exact nx _ _ _ _ _ _ _ hR2
  · have e8 : f2 0 = b.toInt64 := hb c0
    refine g_aload_n (i := 3) dL_law_713 rfl rfl ?_
    refine g_iconst (v := 0) dL_law_714 (by decide) ?_
    refine g_lald dL_law_715 LW_60 (ix_nI (j := 0) (by decide)) (by decide) ?_
    refine g_iload dL_law_716 rfl ?_
    refine g_i2l dL_law_718 ?_
    refine g_lcmp dL_law_719 ?_
    refine g_if_eq (tgt := 725) dL_law_720 (by decide) (fun _ => ?_) (fun c9 => absurd (lgc0.mpr e8) c9)
    refine g_goto (tgt := 2620) dL_law_725 (by decide) ?_
    exact nx _ _ _ _ _ _ _ hR2

set_option maxRecDepth 100000 in
theorem lw_c9 {l : Launch} {G : GG} (hl : l.stackTraces = false) {A : AD} {k KC KS : Nat} {P : Post} (hk : k < 512) (hj : 5 * k + 4 < (gX G).2.1) {X : CL} {Y : YS} {fo : Nat → Int64} {fd : Nat → UInt64} (hR : RelX k X Y) {v6 v7 v8 : Option Value} (nx : lwN l G A k KC KS P) : Go l G mL_law 40 (KC + 25) (KS + 3550) P 728 (lwL G A k v6 v7 v8) [] (LW A X Y fo fd) := by
  obtain ⟨M, N, c, q, H, L, R, t, l9, O⟩ := X
  obtain ⟨a, f⟩ := Y
  have hR : RelP k M N t l9 O a f := hR
  obtain ⟨mc, ms, hmc, hms, hE⟩ := jt_refusalDetail (G := G) (A := A) (fo := fo) (fd := fd) hl hR
  refine g_aload_n (i := 1) dL_law_728 rfl rfl ?_
  refine g_aload_n (i := 3) dL_law_729 rfl rfl ?_
  refine g_callS hE dL_law_730 ml_L_190 csL_refusalDetail rfl rfl (Nat.le_of_ble_eq_true rfl) (Nat.le_of_ble_eq_true rfl) (by omega) (by omega) (kr_jw (KC := KC) (KS := KS) (by omega) (by omega) (fun k0 X2 f2 d2 Pm hM hJ => ?_)) kx_jw
  refine g_istore dL_law_733 (Nat.le_of_ble_eq_true rfl) ?_
  refine g_aload_n (i := 2) dL_law_735 rfl rfl ?_
  refine g_callV hM dL_law_736 ml_L_192 cvX10_refusalDetail K_X10 rfl LW_30 rfl rfl (Nat.le_of_ble_eq_true rfl) (Nat.le_of_ble_eq_true rfl) (Nat.zero_le _) (Nat.zero_le _) (kr_jm hJ (fun b Y2 h11 hb hR2 => ?_)) (kx_jm hJ)
  refine g_istore dL_law_739 (Nat.le_of_ble_eq_true rfl) ?_
  refine g_aload_n (i := 2) dL_law_741 rfl rfl ?_
  refine g_callV (ev_thrownL hl) dL_law_742 ml_L_157 cvX10_thrown K_X10 rfl LW_30 rfl rfl (Nat.le_of_ble_eq_true rfl) (Nat.le_of_ble_eq_true rfl) (Nat.zero_le _) (Nat.zero_le _) (kr_rt ?_) kx_rt
  refine g_iload dL_law_745 rfl ?_
  refine g_icmp_eq (tgt := 752) dL_law_747 (by decide) (fun _ => ?_) (fun c9 => absurd h11 c9)
  refine g_iload dL_law_752 rfl ?_
  refine g_if_ne (tgt := 769) dL_law_754 (by decide) (fun _ => ?_) (fun c0 => ?_)
  · refine g_goto (tgt := 2620) dL_law_769 (by decide) ?_
    exact nx _ _ _ _ _ _ _ hR2
  · have e8 : f2 0 = b.toInt64 := hb c0
    refine g_aload_n (i := 3) dL_law_757 rfl rfl ?_
    refine g_iconst (v := 0) dL_law_758 (by decide) ?_
    refine g_lald dL_law_759 LW_60 (ix_nI (j := 0) (by decide)) (by decide) ?_
    refine g_iload dL_law_760 rfl ?_
    refine g_i2l dL_law_762 ?_
    refine g_lcmp dL_law_763 ?_
    refine g_if_eq (tgt := 769) dL_law_764 (by decide) (fun _ => ?_) (fun c9 => absurd (lgc0.mpr e8) c9)
    refine g_goto (tgt := 2620) dL_law_769 (by decide) ?_
    exact nx _ _ _ _ _ _ _ hR2

set_option maxRecDepth 100000 in
theorem lw_c10 {l : Launch} {G : GG} (hl : l.stackTraces = false) {A : AD} {k KC KS : Nat} {P : Post} (hk : k < 512) (hj : 5 * k + 4 < (gX G).2.1) {X : CL} {Y : YS} {fo : Nat → Int64} {fd : Nat → UInt64} (hR : RelX k X Y) {v6 v7 v8 : Option Value} (nx : lwN l G A k KC KS P) : Go l G mL_law 40 (KC + 25) (KS + 3550) P 772 (lwL G A k v6 v7 v8) [] (LW A X Y fo fd) := by
  obtain ⟨M, N, c, q, H, L, R, t, l9, O⟩ := X
  obtain ⟨a, f⟩ := Y
  have hR : RelP k M N t l9 O a f := hR
  obtain ⟨mc, ms, hmc, hms, hE⟩ := jt_setBorder (G := G) (A := A) (fo := fo) (fd := fd) hl hR (p0 := ((gX G).2.2 (5 * k + 1))) (p1 := ((gX G).2.2 (5 * k + 2)))
  refine g_aload_n (i := 1) dL_law_772 rfl rfl ?_
  refine g_aload_n (i := 0) dL_law_773 rfl rfl ?_
  refine g_iload dL_law_774 rfl ?_
  refine g_iconst (v := 1) dL_law_776 (by decide) ?_
  refine g_iadd dL_law_777 ?_
  refine g_sld dL_law_778 (lw_ix1 hk) (by omega) ?_
  refine g_aload_n (i := 0) dL_law_779 rfl rfl ?_
  refine g_iload dL_law_780 rfl ?_
  refine g_iconst (v := 2) dL_law_782 (by decide) ?_
  refine g_iadd dL_law_783 ?_
  refine g_sld dL_law_784 (lw_ix2 hk) (by omega) ?_
  refine g_aload_n (i := 3) dL_law_785 rfl rfl ?_
  refine g_callS hE dL_law_786 ml_L_193 csL_setBorder rfl rfl (Nat.le_of_ble_eq_true rfl) (Nat.le_of_ble_eq_true rfl) (by omega) (by omega) (kr_jw (KC := KC) (KS := KS) (by omega) (by omega) (fun k0 X2 f2 d2 Pm hM hJ => ?_)) kx_jw
  refine g_istore dL_law_789 (Nat.le_of_ble_eq_true rfl) ?_
  refine g_aload_n (i := 2) dL_law_791 rfl rfl ?_
  refine g_aload_n (i := 0) dL_law_792 rfl rfl ?_
  refine g_iload dL_law_793 rfl ?_
  refine g_iconst (v := 1) dL_law_795 (by decide) ?_
  refine g_iadd dL_law_796 ?_
  refine g_sld dL_law_797 (lw_ix1 hk) (by omega) ?_
  refine g_aload_n (i := 0) dL_law_798 rfl rfl ?_
  refine g_iload dL_law_799 rfl ?_
  refine g_iconst (v := 2) dL_law_801 (by decide) ?_
  refine g_iadd dL_law_802 ?_
  refine g_sld dL_law_803 (lw_ix2 hk) (by omega) ?_
  refine g_callV hM dL_law_804 ml_L_195 cvX10_setBorder K_X10 rfl LW_30 rfl rfl (Nat.le_of_ble_eq_true rfl) (Nat.le_of_ble_eq_true rfl) (Nat.zero_le _) (Nat.zero_le _) (kr_jm hJ (fun b Y2 h11 hb hR2 => ?_)) (kx_jm hJ)
  refine g_istore dL_law_807 (Nat.le_of_ble_eq_true rfl) ?_
  refine g_aload_n (i := 2) dL_law_809 rfl rfl ?_
  refine g_callV (ev_thrownL hl) dL_law_810 ml_L_157 cvX10_thrown K_X10 rfl LW_30 rfl rfl (Nat.le_of_ble_eq_true rfl) (Nat.le_of_ble_eq_true rfl) (Nat.zero_le _) (Nat.zero_le _) (kr_rt ?_) kx_rt
  refine g_iload dL_law_813 rfl ?_
  refine g_icmp_eq (tgt := 820) dL_law_815 (by decide) (fun _ => ?_) (fun c9 => absurd h11 c9)
  refine g_iload dL_law_820 rfl ?_
  refine g_if_ne (tgt := 837) dL_law_822 (by decide) (fun _ => ?_) (fun c0 => ?_)
  · refine g_goto (tgt := 2620) dL_law_837 (by decide) ?_
    exact nx _ _ _ _ _ _ _ hR2
  · have e8 : f2 0 = b.toInt64 := hb c0
    refine g_aload_n (i := 3) dL_law_825 rfl rfl ?_
    refine g_iconst (v := 0) dL_law_826 (by decide) ?_
    refine g_lald dL_law_827 LW_60 (ix_nI (j := 0) (by decide)) (by decide) ?_
    refine g_iload dL_law_828 rfl ?_
    refine g_i2l dL_law_830 ?_
    refine g_lcmp dL_law_831 ?_
    refine g_if_eq (tgt := 837) dL_law_832 (by decide) (fun _ => ?_) (fun c9 => absurd (lgc0.mpr e8) c9)
    refine g_goto (tgt := 2620) dL_law_837 (by decide) ?_
    exact nx _ _ _ _ _ _ _ hR2

set_option maxRecDepth 100000 in
theorem lw_c11 {l : Launch} {G : GG} (hl : l.stackTraces = false) {A : AD} {k KC KS : Nat} {P : Post} (hk : k < 512) (hj : 5 * k + 4 < (gX G).2.1) {X : CL} {Y : YS} {fo : Nat → Int64} {fd : Nat → UInt64} (hR : RelX k X Y) {v6 v7 v8 : Option Value} (nx : lwN l G A k KC KS P) : Go l G mL_law 40 (KC + 25) (KS + 3550) P 840 (lwL G A k v6 v7 v8) [] (LW A X Y fo fd) := by
  obtain ⟨M, N, c, q, H, L, R, t, l9, O⟩ := X
  obtain ⟨a, f⟩ := Y
  have hR : RelP k M N t l9 O a f := hR
  obtain ⟨mc, ms, hmc, hms, hE⟩ := jt_border (G := G) (A := A) (fo := fo) (fd := fd) hl hR (p0 := ((gX G).2.2 (5 * k + 1)))
  refine g_aload_n (i := 1) dL_law_840 rfl rfl ?_
  refine g_aload_n (i := 0) dL_law_841 rfl rfl ?_
  refine g_iload dL_law_842 rfl ?_
  refine g_iconst (v := 1) dL_law_844 (by decide) ?_
  refine g_iadd dL_law_845 ?_
  refine g_sld dL_law_846 (lw_ix1 hk) (by omega) ?_
  refine g_aload_n (i := 3) dL_law_847 rfl rfl ?_
  refine g_callS hE dL_law_848 ml_L_196 csL_border rfl rfl (Nat.le_of_ble_eq_true rfl) (Nat.le_of_ble_eq_true rfl) (by omega) (by omega) (kr_jw (KC := KC) (KS := KS) (by omega) (by omega) (fun k0 X2 f2 d2 Pm hM hJ => ?_)) kx_jw
  refine g_istore dL_law_851 (Nat.le_of_ble_eq_true rfl) ?_
  refine g_aload_n (i := 2) dL_law_853 rfl rfl ?_
  refine g_aload_n (i := 0) dL_law_854 rfl rfl ?_
  refine g_iload dL_law_855 rfl ?_
  refine g_iconst (v := 1) dL_law_857 (by decide) ?_
  refine g_iadd dL_law_858 ?_
  refine g_sld dL_law_859 (lw_ix1 hk) (by omega) ?_
  refine g_callV hM dL_law_860 ml_L_198 cvX10_border K_X10 rfl LW_30 rfl rfl (Nat.le_of_ble_eq_true rfl) (Nat.le_of_ble_eq_true rfl) (Nat.zero_le _) (Nat.zero_le _) (kr_jm hJ (fun b Y2 h11 hb hR2 => ?_)) (kx_jm hJ)
  refine g_istore dL_law_863 (Nat.le_of_ble_eq_true rfl) ?_
  refine g_aload_n (i := 2) dL_law_865 rfl rfl ?_
  refine g_callV (ev_thrownL hl) dL_law_866 ml_L_157 cvX10_thrown K_X10 rfl LW_30 rfl rfl (Nat.le_of_ble_eq_true rfl) (Nat.le_of_ble_eq_true rfl) (Nat.zero_le _) (Nat.zero_le _) (kr_rt ?_) kx_rt
  refine g_iload dL_law_869 rfl ?_
  refine g_icmp_eq (tgt := 876) dL_law_871 (by decide) (fun _ => ?_) (fun c9 => absurd h11 c9)
  refine g_iload dL_law_876 rfl ?_
  refine g_if_ne (tgt := 893) dL_law_878 (by decide) (fun _ => ?_) (fun c0 => ?_)
  · refine g_goto (tgt := 2620) dL_law_893 (by decide) ?_
    exact nx _ _ _ _ _ _ _ hR2
  · have e8 : f2 0 = b.toInt64 := hb c0
    refine g_aload_n (i := 3) dL_law_881 rfl rfl ?_
    refine g_iconst (v := 0) dL_law_882 (by decide) ?_
    refine g_lald dL_law_883 LW_60 (ix_nI (j := 0) (by decide)) (by decide) ?_
    refine g_iload dL_law_884 rfl ?_
    refine g_i2l dL_law_886 ?_
    refine g_lcmp dL_law_887 ?_
    refine g_if_eq (tgt := 893) dL_law_888 (by decide) (fun _ => ?_) (fun c9 => absurd (lgc0.mpr e8) c9)
    refine g_goto (tgt := 2620) dL_law_893 (by decide) ?_
    exact nx _ _ _ _ _ _ _ hR2

set_option maxRecDepth 100000 in
theorem lw_c12 {l : Launch} {G : GG} (hl : l.stackTraces = false) {A : AD} {k KC KS : Nat} {P : Post} (hk : k < 512) (hj : 5 * k + 4 < (gX G).2.1) {X : CL} {Y : YS} {fo : Nat → Int64} {fd : Nat → UInt64} (hR : RelX k X Y) {v6 v7 v8 : Option Value} (nx : lwN l G A k KC KS P) : Go l G mL_law 40 (KC + 25) (KS + 3550) P 896 (lwL G A k v6 v7 v8) [] (LW A X Y fo fd) := by
  obtain ⟨M, N, c, q, H, L, R, t, l9, O⟩ := X
  obtain ⟨a, f⟩ := Y
  have hR : RelP k M N t l9 O a f := hR
  obtain ⟨mc, ms, hmc, hms, hE⟩ := jt_lostBy (G := G) (A := A) (fo := fo) (fd := fd) hl hR (p0 := ((gX G).2.2 (5 * k + 1)))
  refine g_aload_n (i := 1) dL_law_896 rfl rfl ?_
  refine g_aload_n (i := 0) dL_law_897 rfl rfl ?_
  refine g_iload dL_law_898 rfl ?_
  refine g_iconst (v := 1) dL_law_900 (by decide) ?_
  refine g_iadd dL_law_901 ?_
  refine g_sld dL_law_902 (lw_ix1 hk) (by omega) ?_
  refine g_aload_n (i := 3) dL_law_903 rfl rfl ?_
  refine g_callS hE dL_law_904 ml_L_199 csL_lostBy rfl rfl (Nat.le_of_ble_eq_true rfl) (Nat.le_of_ble_eq_true rfl) (by omega) (by omega) (kr_jw (KC := KC) (KS := KS) (by omega) (by omega) (fun k0 X2 f2 d2 Pm hM hJ => ?_)) kx_jw
  refine g_istore dL_law_907 (Nat.le_of_ble_eq_true rfl) ?_
  refine g_aload_n (i := 2) dL_law_909 rfl rfl ?_
  refine g_aload_n (i := 0) dL_law_910 rfl rfl ?_
  refine g_iload dL_law_911 rfl ?_
  refine g_iconst (v := 1) dL_law_913 (by decide) ?_
  refine g_iadd dL_law_914 ?_
  refine g_sld dL_law_915 (lw_ix1 hk) (by omega) ?_
  refine g_callV hM dL_law_916 ml_L_201 cvX10_lostBy K_X10 rfl LW_30 rfl rfl (Nat.le_of_ble_eq_true rfl) (Nat.le_of_ble_eq_true rfl) (Nat.zero_le _) (Nat.zero_le _) (kr_jm hJ (fun b Y2 h11 hb hR2 => ?_)) (kx_jm hJ)
  refine g_istore dL_law_919 (Nat.le_of_ble_eq_true rfl) ?_
  refine g_aload_n (i := 2) dL_law_921 rfl rfl ?_
  refine g_callV (ev_thrownL hl) dL_law_922 ml_L_157 cvX10_thrown K_X10 rfl LW_30 rfl rfl (Nat.le_of_ble_eq_true rfl) (Nat.le_of_ble_eq_true rfl) (Nat.zero_le _) (Nat.zero_le _) (kr_rt ?_) kx_rt
  refine g_iload dL_law_925 rfl ?_
  refine g_icmp_eq (tgt := 932) dL_law_927 (by decide) (fun _ => ?_) (fun c9 => absurd h11 c9)
  refine g_iload dL_law_932 rfl ?_
  refine g_if_ne (tgt := 949) dL_law_934 (by decide) (fun _ => ?_) (fun c0 => ?_)
  · refine g_goto (tgt := 2620) dL_law_949 (by decide) ?_
    exact nx _ _ _ _ _ _ _ hR2
  · have e8 : f2 0 = b.toInt64 := hb c0
    refine g_aload_n (i := 3) dL_law_937 rfl rfl ?_
    refine g_iconst (v := 0) dL_law_938 (by decide) ?_
    refine g_lald dL_law_939 LW_60 (ix_nI (j := 0) (by decide)) (by decide) ?_
    refine g_iload dL_law_940 rfl ?_
    refine g_i2l dL_law_942 ?_
    refine g_lcmp dL_law_943 ?_
    refine g_if_eq (tgt := 949) dL_law_944 (by decide) (fun _ => ?_) (fun c9 => absurd (lgc0.mpr e8) c9)
    refine g_goto (tgt := 2620) dL_law_949 (by decide) ?_
    exact nx _ _ _ _ _ _ _ hR2

set_option maxRecDepth 100000 in
theorem lw_c13 {l : Launch} {G : GG} (hl : l.stackTraces = false) {A : AD} {k KC KS : Nat} {P : Post} (hk : k < 512) (hj : 5 * k + 4 < (gX G).2.1) {X : CL} {Y : YS} {fo : Nat → Int64} {fd : Nat → UInt64} (hR : RelX k X Y) {v6 v7 v8 : Option Value} (nx : lwN l G A k KC KS P) : Go l G mL_law 40 (KC + 25) (KS + 3550) P 952 (lwL G A k v6 v7 v8) [] (LW A X Y fo fd) := by
  obtain ⟨M, N, c, q, H, L, R, t, l9, O⟩ := X
  obtain ⟨a, f⟩ := Y
  have hR : RelP k M N t l9 O a f := hR
  obtain ⟨mc, ms, hmc, hms, hE⟩ := jt_pass (G := G) (A := A) (fo := fo) (fd := fd) hl hR (p0 := ((gX G).2.2 (5 * k + 1)))
  refine g_aload_n (i := 1) dL_law_952 rfl rfl ?_
  refine g_aload_n (i := 0) dL_law_953 rfl rfl ?_
  refine g_iload dL_law_954 rfl ?_
  refine g_iconst (v := 1) dL_law_956 (by decide) ?_
  refine g_iadd dL_law_957 ?_
  refine g_sld dL_law_958 (lw_ix1 hk) (by omega) ?_
  refine g_aload_n (i := 3) dL_law_959 rfl rfl ?_
  refine g_callS hE dL_law_960 ml_L_202 csL_pass rfl rfl (Nat.le_of_ble_eq_true rfl) (Nat.le_of_ble_eq_true rfl) (by omega) (by omega) (kr_jw (KC := KC) (KS := KS) (by omega) (by omega) (fun k0 X2 f2 d2 Pm hM hJ => ?_)) kx_jw
  refine g_istore dL_law_963 (Nat.le_of_ble_eq_true rfl) ?_
  refine g_aload_n (i := 2) dL_law_965 rfl rfl ?_
  refine g_aload_n (i := 0) dL_law_966 rfl rfl ?_
  refine g_iload dL_law_967 rfl ?_
  refine g_iconst (v := 1) dL_law_969 (by decide) ?_
  refine g_iadd dL_law_970 ?_
  refine g_sld dL_law_971 (lw_ix1 hk) (by omega) ?_
  refine g_callV hM dL_law_972 ml_L_204 cvX10_pass K_X10 rfl LW_30 rfl rfl (Nat.le_of_ble_eq_true rfl) (Nat.le_of_ble_eq_true rfl) (Nat.zero_le _) (Nat.zero_le _) (kr_jm hJ (fun b Y2 h11 hb hR2 => ?_)) (kx_jm hJ)
  refine g_istore dL_law_975 (Nat.le_of_ble_eq_true rfl) ?_
  refine g_aload_n (i := 2) dL_law_977 rfl rfl ?_
  refine g_callV (ev_thrownL hl) dL_law_978 ml_L_157 cvX10_thrown K_X10 rfl LW_30 rfl rfl (Nat.le_of_ble_eq_true rfl) (Nat.le_of_ble_eq_true rfl) (Nat.zero_le _) (Nat.zero_le _) (kr_rt ?_) kx_rt
  refine g_iload dL_law_981 rfl ?_
  refine g_icmp_eq (tgt := 988) dL_law_983 (by decide) (fun _ => ?_) (fun c9 => absurd h11 c9)
  refine g_iload dL_law_988 rfl ?_
  refine g_if_ne (tgt := 1005) dL_law_990 (by decide) (fun _ => ?_) (fun c0 => ?_)
  · refine g_goto (tgt := 2620) dL_law_1005 (by decide) ?_
    exact nx _ _ _ _ _ _ _ hR2
  · have e8 : f2 0 = b.toInt64 := hb c0
    refine g_aload_n (i := 3) dL_law_993 rfl rfl ?_
    refine g_iconst (v := 0) dL_law_994 (by decide) ?_
    refine g_lald dL_law_995 LW_60 (ix_nI (j := 0) (by decide)) (by decide) ?_
    refine g_iload dL_law_996 rfl ?_
    refine g_i2l dL_law_998 ?_
    refine g_lcmp dL_law_999 ?_
    refine g_if_eq (tgt := 1005) dL_law_1000 (by decide) (fun _ => ?_) (fun c9 => absurd (lgc0.mpr e8) c9)
    refine g_goto (tgt := 2620) dL_law_1005 (by decide) ?_
    exact nx _ _ _ _ _ _ _ hR2

set_option maxRecDepth 100000 in
theorem lw_c14 {l : Launch} {G : GG} (hl : l.stackTraces = false) {A : AD} {k KC KS : Nat} {P : Post} (hk : k < 512) (hj : 5 * k + 4 < (gX G).2.1) {X : CL} {Y : YS} {fo : Nat → Int64} {fd : Nat → UInt64} (hR : RelX k X Y) {v6 v7 v8 : Option Value} (nx : lwN l G A k KC KS P) : Go l G mL_law 40 (KC + 25) (KS + 3550) P 1008 (lwL G A k v6 v7 v8) [] (LW A X Y fo fd) := by
  obtain ⟨M, N, c, q, H, L, R, t, l9, O⟩ := X
  obtain ⟨a, f⟩ := Y
  have hR : RelP k M N t l9 O a f := hR
  refine g_aload_n (i := 1) dL_law_1008 rfl rfl ?_
  obtain ⟨B, hB, hm, ⟨ho, ht⟩, hG, hbb⟩ := RelP.m0 hR
  refine g_callV (ev_ticks hl) dL_law_1009 ml_L_205 cvX9_ticks K_X9 rfl LW_6 rfl rfl (Nat.le_of_ble_eq_true rfl) (Nat.le_of_ble_eq_true rfl) (Nat.zero_le _) (Nat.zero_le _) (kr_rt (Go.heap (h' := LW A (M, N, c, q, H, L, R, t, l9, O) (a, f) fo fd) rfl ?_)) kx_rt
  refine g_aload_n (i := 2) dL_law_1012 rfl rfl ?_
  refine g_callV (lwM (ev_mticks hl)) dL_law_1013 ml_L_208 cvX10_ticks K_X10 rfl LW_30 rfl rfl (Nat.le_of_ble_eq_true rfl) (Nat.le_of_ble_eq_true rfl) (Nat.zero_le _) (Nat.zero_le _) (kr_rt ?_) kx_rt
  refine g_icmp_eq (tgt := 2620) dL_law_1016 (by decide) (fun _ => ?_) (fun c9 => absurd (hm.ti) c9)
  exact Go.wid (by omega) (by omega) (nx _ _ _ _ _ _ _ (RelP.same hR rfl rfl rfl rfl rfl rfl rfl rfl rfl rfl rfl rfl rfl rfl rfl rfl rfl (fun _ _ => rfl)))

set_option maxRecDepth 100000 in
theorem lw_c15 {l : Launch} {G : GG} (hl : l.stackTraces = false) {A : AD} {k KC KS : Nat} {P : Post} (hk : k < 512) (hj : 5 * k + 4 < (gX G).2.1) {X : CL} {Y : YS} {fo : Nat → Int64} {fd : Nat → UInt64} (hR : RelX k X Y) {v6 v7 v8 : Option Value} (nx : lwN l G A k KC KS P) : Go l G mL_law 40 (KC + 25) (KS + 3550) P 1021 (lwL G A k v6 v7 v8) [] (LW A X Y fo fd) := by
  obtain ⟨M, N, c, q, H, L, R, t, l9, O⟩ := X
  obtain ⟨a, f⟩ := Y
  have hR : RelP k M N t l9 O a f := hR
  refine g_aload_n (i := 1) dL_law_1021 rfl rfl ?_
  obtain ⟨B, hB, hm, ⟨ho, ht⟩, hG, hbb⟩ := RelP.m0 hR
  refine g_callV (ev_relapses hl) dL_law_1022 ml_L_209 cvX9_relapses K_X9 rfl LW_6 rfl rfl (Nat.le_of_ble_eq_true rfl) (Nat.le_of_ble_eq_true rfl) (Nat.zero_le _) (Nat.zero_le _) (kr_rt (Go.heap (h' := LW A (M, N, c, q, H, L, R, t, l9, O) (a, f) fo fd) rfl ?_)) kx_rt
  refine g_aload_n (i := 2) dL_law_1025 rfl rfl ?_
  refine g_callV (lwM (ev_mrelapses hl)) dL_law_1026 ml_L_212 cvX10_relapses K_X10 rfl LW_30 rfl rfl (Nat.le_of_ble_eq_true rfl) (Nat.le_of_ble_eq_true rfl) (Nat.zero_le _) (Nat.zero_le _) (kr_rt ?_) kx_rt
  refine g_icmp_eq (tgt := 2620) dL_law_1029 (by decide) (fun _ => ?_) (fun c9 => absurd (hm.rl) c9)
  exact Go.wid (by omega) (by omega) (nx _ _ _ _ _ _ _ (RelP.same hR rfl rfl rfl rfl rfl rfl rfl rfl rfl rfl rfl rfl rfl rfl rfl rfl rfl (fun _ _ => rfl)))

