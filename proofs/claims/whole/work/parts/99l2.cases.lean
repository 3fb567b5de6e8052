/-! The law's cases 16 to 23 (by wip/whole/gen/m63.py). -/
set_option maxRecDepth 100000 in
theorem lw_c16 {l : Launch} {G : GG} (hl : l.stackTraces = false) {A : AD} {k KC KS : Nat} {P : Post} (hk : k < 512) (hj : 5 * k + 4 < (gX G).2.1) {X : CL} {Y : YS} {fo : Nat → Int64} {fd : Nat → UInt64} (hR : RelX k X Y) {v6 v7 v8 : Option Value} (nx : lwN l G A k KC KS P) : Go l G mL_law 40 (KC + 25) (KS + 3550) P 1034 (lwL G A k v6 v7 v8) [] (LW A X Y fo fd) := by
  obtain ⟨M, N, c, q, H, L, R, t, l9, O⟩ := X
  obtain ⟨a, f⟩ := Y
  have hR : RelP k M N t l9 O a f := hR
  obtain ⟨mc, ms, hmc, hms, hE⟩ := jt_ticksUntilBelow (G := G) (A := A) (fo := fo) (fd := fd) hl hR (p0 := ((gX G).2.2 (5 * k + 1)))
  refine g_aload_n (i := 1) dL_law_1034 rfl rfl ?_
  refine g_aload_n (i := 0) dL_law_1035 rfl rfl ?_
  refine g_iload dL_law_1036 rfl ?_
  refine g_iconst (v := 1) dL_law_1038 (by decide) ?_
  refine g_iadd dL_law_1039 ?_
  refine g_sld dL_law_1040 (lw_ix1 hk) (by omega) ?_
  refine g_aload_n (i := 3) dL_law_1041 rfl rfl ?_
  refine g_callS hE dL_law_1042 ml_L_213 csL_ticksUntilBelow rfl rfl (Nat.le_of_ble_eq_true rfl) (Nat.le_of_ble_eq_true rfl) (by omega) (by omega) (kr_jw (KC := KC) (KS := KS) (by omega) (by omega) (fun k0 X2 f2 d2 Pm hM hJ => ?_)) kx_jw
  refine g_istore dL_law_1045 (Nat.le_of_ble_eq_true rfl) ?_
  refine g_aload_n (i := 2) dL_law_1047 rfl rfl ?_
  refine g_aload_n (i := 0) dL_law_1048 rfl rfl ?_
  refine g_iload dL_law_1049 rfl ?_
  refine g_iconst (v := 1) dL_law_1051 (by decide) ?_
  refine g_iadd dL_law_1052 ?_
  refine g_sld dL_law_1053 (lw_ix1 hk) (by omega) ?_
  refine g_callV hM dL_law_1054 ml_L_215 cvX10_ticksUntilBelow K_X10 rfl LW_30 rfl rfl (Nat.le_of_ble_eq_true rfl) (Nat.le_of_ble_eq_true rfl) (Nat.zero_le _) (Nat.zero_le _) (kr_jm hJ (fun b Y2 h11 hb hR2 => ?_)) (kx_jm hJ)
  refine g_istore dL_law_1057 (Nat.le_of_ble_eq_true rfl) ?_
  refine g_aload_n (i := 2) dL_law_1059 rfl rfl ?_
  refine g_callV (ev_thrownL hl) dL_law_1060 ml_L_157 cvX10_thrown K_X10 rfl LW_30 rfl rfl (Nat.le_of_ble_eq_true rfl) (Nat.le_of_ble_eq_true rfl) (Nat.zero_le _) (Nat.zero_le _) (kr_rt ?_) kx_rt
  refine g_iload dL_law_1063 rfl ?_
  refine g_icmp_eq (tgt := 1070) dL_law_1065 (by decide) (fun _ => ?_) (fun c9 => absurd h11 c9)
  refine g_iload dL_law_1070 rfl ?_
  refine g_if_ne (tgt := 1087) dL_law_1072 (by decide) (fun _ => ?_) (fun c0 => ?_)
  · refine g_goto (tgt := 2620) dL_law_1087 (by decide) ?_
    exact nx _ _ _ _ _ _ _ hR2
  · have e8 : f2 0 = b.toInt64 := hb c0
    refine g_aload_n (i := 3) dL_law_1075 rfl rfl ?_
    refine g_iconst (v := 0) dL_law_1076 (by decide) ?_
    refine g_lald dL_law_1077 LW_60 (ix_nI (j := 0) (by decide)) (by decide) ?_
    refine g_iload dL_law_1078 rfl ?_
    refine g_i2l dL_law_1080 ?_
    refine g_lcmp dL_law_1081 ?_
    refine g_if_eq (tgt := 1087) dL_law_1082 (by decide) (fun _ => ?_) (fun c9 => absurd (lgc0.mpr e8) c9)
    refine g_goto (tgt := 2620) dL_law_1087 (by decide) ?_
    exact nx _ _ _ _ _ _ _ hR2

set_option maxRecDepth 100000 in
theorem lw_c17 {l : Launch} {G : GG} (hl : l.stackTraces = false) {A : AD} {k KC KS : Nat} {P : Post} (hk : k < 512) (hj : 5 * k + 4 < (gX G).2.1) {X : CL} {Y : YS} {fo : Nat → Int64} {fd : Nat → UInt64} (hR : RelX k X Y) {v6 v7 v8 : Option Value} (nx : lwN l G A k KC KS P) : Go l G mL_law 40 (KC + 25) (KS + 3550) P 1090 (lwL G A k v6 v7 v8) [] (LW A X Y fo fd) := by
  obtain ⟨M, N, c, q, H, L, R, t, l9, O⟩ := X
  obtain ⟨a, f⟩ := Y
  have hR : RelP k M N t l9 O a f := hR
  obtain ⟨mc, ms, hmc, hms, hE⟩ := jt_cellBits (G := G) (A := A) (fo := fo) (fd := fd) hl hR (p0 := ((gX G).2.2 (5 * k + 1)))
  refine g_aload_n (i := 1) dL_law_1090 rfl rfl ?_
  refine g_aload_n (i := 0) dL_law_1091 rfl rfl ?_
  refine g_iload dL_law_1092 rfl ?_
  refine g_iconst (v := 1) dL_law_1094 (by decide) ?_
  refine g_iadd dL_law_1095 ?_
  refine g_sld dL_law_1096 (lw_ix1 hk) (by omega) ?_
  refine g_aload_n (i := 3) dL_law_1097 rfl rfl ?_
  refine g_callS hE dL_law_1098 ml_L_216 csL_cellBits rfl rfl (Nat.le_of_ble_eq_true rfl) (Nat.le_of_ble_eq_true rfl) (by omega) (by omega) (kr_jw (KC := KC) (KS := KS) (by omega) (by omega) (fun k0 X2 f2 d2 Pm hM hJ => ?_)) kx_jw
  refine g_istore dL_law_1101 (Nat.le_of_ble_eq_true rfl) ?_
  refine g_aload_n (i := 2) dL_law_1103 rfl rfl ?_
  refine g_aload_n (i := 0) dL_law_1104 rfl rfl ?_
  refine g_iload dL_law_1105 rfl ?_
  refine g_iconst (v := 1) dL_law_1107 (by decide) ?_
  refine g_iadd dL_law_1108 ?_
  refine g_sld dL_law_1109 (lw_ix1 hk) (by omega) ?_
  refine g_callV hM dL_law_1110 ml_L_218 cvX10_cellBits K_X10 rfl LW_30 rfl rfl (Nat.le_of_ble_eq_true rfl) (Nat.le_of_ble_eq_true rfl) (Nat.zero_le _) (Nat.zero_le _) (kr_jm hJ (fun b Y2 h11 hb hR2 => ?_)) (kx_jm hJ)
  refine g_lstore dL_law_1113 (Nat.le_of_ble_eq_true rfl) ?_
  refine g_aload_n (i := 2) dL_law_1115 rfl rfl ?_
  refine g_callV (ev_thrownL hl) dL_law_1116 ml_L_157 cvX10_thrown K_X10 rfl LW_30 rfl rfl (Nat.le_of_ble_eq_true rfl) (Nat.le_of_ble_eq_true rfl) (Nat.zero_le _) (Nat.zero_le _) (kr_rt ?_) kx_rt
  refine g_iload dL_law_1119 rfl ?_
  refine g_icmp_eq (tgt := 1126) dL_law_1121 (by decide) (fun _ => ?_) (fun c9 => absurd h11 c9)
  refine g_iload dL_law_1126 rfl ?_
  refine g_if_ne (tgt := 1142) dL_law_1128 (by decide) (fun _ => ?_) (fun c0 => ?_)
  · refine g_goto (tgt := 2620) dL_law_1142 (by decide) ?_
    exact nx _ _ _ _ _ _ _ hR2
  · have e8 : f2 0 = b := hb c0
    refine g_aload_n (i := 3) dL_law_1131 rfl rfl ?_
    refine g_iconst (v := 0) dL_law_1132 (by decide) ?_
    refine g_lald dL_law_1133 LW_60 (ix_nI (j := 0) (by decide)) (by decide) ?_
    refine g_lload dL_law_1134 rfl ?_
    refine g_lcmp dL_law_1136 ?_
    refine g_if_eq (tgt := 1142) dL_law_1137 (by decide) (fun _ => ?_) (fun c9 => absurd (lgc0.mpr e8) c9)
    refine g_goto (tgt := 2620) dL_law_1142 (by decide) ?_
    exact nx _ _ _ _ _ _ _ hR2

set_option maxRecDepth 100000 in
theorem lw_c18 {l : Launch} {G : GG} (hl : l.stackTraces = false) {A : AD} {k KC KS : Nat} {P : Post} (hk : k < 512) (hj : 5 * k + 4 < (gX G).2.1) {X : CL} {Y : YS} {fo : Nat → Int64} {fd : Nat → UInt64} (hR : RelX k X Y) {v6 v7 v8 : Option Value} (nx : lwN l G A k KC KS P) : Go l G mL_law 40 (KC + 25) (KS + 3550) P 1145 (lwL G A k v6 v7 v8) [] (LW A X Y fo fd) := by
  obtain ⟨M, N, c, q, H, L, R, t, l9, O⟩ := X
  obtain ⟨a, f⟩ := Y
  have hR : RelP k M N t l9 O a f := hR
  obtain ⟨mc, ms, hmc, hms, hE⟩ := jt_regions (G := G) (A := A) (fo := fo) (fd := fd) hl hR (p0 := ((gX G).2.2 (5 * k + 1)))
  refine g_aload_n (i := 1) dL_law_1145 rfl rfl ?_
  refine g_aload_n (i := 0) dL_law_1146 rfl rfl ?_
  refine g_iload dL_law_1147 rfl ?_
  refine g_iconst (v := 1) dL_law_1149 (by decide) ?_
  refine g_iadd dL_law_1150 ?_
  refine g_sld dL_law_1151 (lw_ix1 hk) (by omega) ?_
  refine g_aload_n (i := 3) dL_law_1152 rfl rfl ?_
  refine g_callS hE dL_law_1153 ml_L_219 csL_regions rfl rfl (Nat.le_of_ble_eq_true rfl) (Nat.le_of_ble_eq_true rfl) (by omega) (by omega) (kr_jw (KC := KC) (KS := KS) (by omega) (by omega) (fun k0 X2 f2 d2 Pm hM hJ => ?_)) kx_jw
  refine g_istore dL_law_1156 (Nat.le_of_ble_eq_true rfl) ?_
  refine g_aload_n (i := 2) dL_law_1158 rfl rfl ?_
  refine g_aload_n (i := 0) dL_law_1159 rfl rfl ?_
  refine g_iload dL_law_1160 rfl ?_
  refine g_iconst (v := 1) dL_law_1162 (by decide) ?_
  refine g_iadd dL_law_1163 ?_
  refine g_sld dL_law_1164 (lw_ix1 hk) (by omega) ?_
  refine g_callV hM dL_law_1165 ml_L_221 cvX10_regions K_X10 rfl LW_30 rfl rfl (Nat.le_of_ble_eq_true rfl) (Nat.le_of_ble_eq_true rfl) (Nat.zero_le _) (Nat.zero_le _) (kr_jm hJ (fun b Y2 h11 hb hR2 => ?_)) (kx_jm hJ)
  refine g_istore dL_law_1168 (Nat.le_of_ble_eq_true rfl) ?_
  refine g_aload_n (i := 2) dL_law_1170 rfl rfl ?_
  refine g_callV (ev_thrownL hl) dL_law_1171 ml_L_157 cvX10_thrown K_X10 rfl LW_30 rfl rfl (Nat.le_of_ble_eq_true rfl) (Nat.le_of_ble_eq_true rfl) (Nat.zero_le _) (Nat.zero_le _) (kr_rt ?_) kx_rt
  refine g_iload dL_law_1174 rfl ?_
  refine g_icmp_eq (tgt := 1181) dL_law_1176 (by decide) (fun _ => ?_) (fun c9 => absurd h11 c9)
  refine g_iload dL_law_1181 rfl ?_
  refine g_if_ne (tgt := 1198) dL_law_1183 (by decide) (fun _ => ?_) (fun c0 => ?_)
  · refine g_goto (tgt := 2620) dL_law_1198 (by decide) ?_
    exact nx _ _ _ _ _ _ _ hR2
  · have e8 : f2 0 = b.toInt64 := hb c0
    refine g_aload_n (i := 3) dL_law_1186 rfl rfl ?_
    refine g_iconst (v := 0) dL_law_1187 (by decide) ?_
    refine g_lald dL_law_1188 LW_60 (ix_nI (j := 0) (by decide)) (by decide) ?_
    refine g_iload dL_law_1189 rfl ?_
    refine g_i2l dL_law_1191 ?_
    refine g_lcmp dL_law_1192 ?_
    refine g_if_eq (tgt := 1198) dL_law_1193 (by decide) (fun _ => ?_) (fun c9 => absurd (lgc0.mpr e8) c9)
    refine g_goto (tgt := 2620) dL_law_1198 (by decide) ?_
    exact nx _ _ _ _ _ _ _ hR2

set_option maxRecDepth 100000 in
theorem lw_c19 {l : Launch} {G : GG} (hl : l.stackTraces = false) {A : AD} {k KC KS : Nat} {P : Post} (hk : k < 512) (hj : 5 * k + 4 < (gX G).2.1) {X : CL} {Y : YS} {fo : Nat → Int64} {fd : Nat → UInt64} (hR : RelX k X Y) {v6 v7 v8 : Option Value} (nx : lwN l G A k KC KS P) : Go l G mL_law 40 (KC + 25) (KS + 3550) P 1201 (lwL G A k v6 v7 v8) [] (LW A X Y fo fd) := by
  obtain ⟨M, N, c, q, H, L, R, t, l9, O⟩ := X
  obtain ⟨a, f⟩ := Y
  have hR : RelP k M N t l9 O a f := hR
  obtain ⟨mc, ms, hmc, hms, hE⟩ := jt_regionsByUnions (G := G) (A := A) (fo := fo) (fd := fd) hl hR (p0 := ((gX G).2.2 (5 * k + 1)))
  refine g_aload_n (i := 1) dL_law_1201 rfl rfl ?_
  refine g_aload_n (i := 0) dL_law_1202 rfl rfl ?_
  refine g_iload dL_law_1203 rfl ?_
  refine g_iconst (v := 1) dL_law_1205 (by decide) ?_
  refine g_iadd dL_law_1206 ?_
  refine g_sld dL_law_1207 (lw_ix1 hk) (by omega) ?_
  refine g_aload_n (i := 3) dL_law_1208 rfl rfl ?_
  refine g_callS hE dL_law_1209 ml_L_222 csL_regionsByUnions rfl rfl (Nat.le_of_ble_eq_true rfl) (Nat.le_of_ble_eq_true rfl) (by omega) (by omega) (kr_jw (KC := KC) (KS := KS) (by omega) (by omega) (fun k0 X2 f2 d2 Pm hM hJ => ?_)) kx_jw
  refine g_istore dL_law_1212 (Nat.le_of_ble_eq_true rfl) ?_
  refine g_aload_n (i := 2) dL_law_1214 rfl rfl ?_
  refine g_aload_n (i := 0) dL_law_1215 rfl rfl ?_
  refine g_iload dL_law_1216 rfl ?_
  refine g_iconst (v := 1) dL_law_1218 (by decide) ?_
  refine g_iadd dL_law_1219 ?_
  refine g_sld dL_law_1220 (lw_ix1 hk) (by omega) ?_
  refine g_callV hM dL_law_1221 ml_L_224 cvX10_regionsByUnions K_X10 rfl LW_30 rfl rfl (Nat.le_of_ble_eq_true rfl) (Nat.le_of_ble_eq_true rfl) (Nat.zero_le _) (Nat.zero_le _) (kr_jm hJ (fun b Y2 h11 hb hR2 => ?_)) (kx_jm hJ)
  refine g_istore dL_law_1224 (Nat.le_of_ble_eq_true rfl) ?_
  refine g_aload_n (i := 2) dL_law_1226 rfl rfl ?_
  refine g_callV (ev_thrownL hl) dL_law_1227 ml_L_157 cvX10_thrown K_X10 rfl LW_30 rfl rfl (Nat.le_of_ble_eq_true rfl) (Nat.le_of_ble_eq_true rfl) (Nat.zero_le _) (Nat.zero_le _) (kr_rt ?_) kx_rt
  refine g_iload dL_law_1230 rfl ?_
  refine g_icmp_eq (tgt := 1237) dL_law_1232 (by decide) (fun _ => ?_) (fun c9 => absurd h11 c9)
  refine g_iload dL_law_1237 rfl ?_
  refine g_if_ne (tgt := 1254) dL_law_1239 (by decide) (fun _ => ?_) (fun c0 => ?_)
  · refine g_goto (tgt := 2620) dL_law_1254 (by decide) ?_
    exact nx _ _ _ _ _ _ _ hR2
  · have e8 : f2 0 = b.toInt64 := hb c0
    refine g_aload_n (i := 3) dL_law_1242 rfl rfl ?_
    refine g_iconst (v := 0) dL_law_1243 (by decide) ?_
    refine g_lald dL_law_1244 LW_60 (ix_nI (j := 0) (by decide)) (by decide) ?_
    refine g_iload dL_law_1245 rfl ?_
    refine g_i2l dL_law_1247 ?_
    refine g_lcmp dL_law_1248 ?_
    refine g_if_eq (tgt := 1254) dL_law_1249 (by decide) (fun _ => ?_) (fun c9 => absurd (lgc0.mpr e8) c9)
    refine g_goto (tgt := 2620) dL_law_1254 (by decide) ?_
    exact nx _ _ _ _ _ _ _ hR2

set_option maxRecDepth 100000 in
theorem lw_c20 {l : Launch} {G : GG} (hl : l.stackTraces = false) {A : AD} {k KC KS : Nat} {P : Post} (hk : k < 512) (hj : 5 * k + 4 < (gX G).2.1) {X : CL} {Y : YS} {fo : Nat → Int64} {fd : Nat → UInt64} (hR : RelX k X Y) {v6 v7 v8 : Option Value} (nx : lwN l G A k KC KS P) : Go l G mL_law 40 (KC + 25) (KS + 3550) P 1257 (lwL G A k v6 v7 v8) [] (LW A X Y fo fd) := by
  obtain ⟨M, N, c, q, H, L, R, t, l9, O⟩ := X
  obtain ⟨a, f⟩ := Y
  have hR : RelP k M N t l9 O a f := hR
  obtain ⟨mc, ms, hmc, hms, hE⟩ := jt_holes (G := G) (A := A) (fo := fo) (fd := fd) hl hR (p0 := ((gX G).2.2 (5 * k + 1)))
  refine g_aload_n (i := 1) dL_law_1257 rfl rfl ?_
  refine g_aload_n (i := 0) dL_law_1258 rfl rfl ?_
  refine g_iload dL_law_1259 rfl ?_
  refine g_iconst (v := 1) dL_law_1261 (by decide) ?_
  refine g_iadd dL_law_1262 ?_
  refine g_sld dL_law_1263 (lw_ix1 hk) (by omega) ?_
  refine g_aload_n (i := 3) dL_law_1264 rfl rfl ?_
  refine g_callS hE dL_law_1265 ml_L_225 csL_holes rfl rfl (Nat.le_of_ble_eq_true rfl) (Nat.le_of_ble_eq_true rfl) (by omega) (by omega) (kr_jw (KC := KC) (KS := KS) (by omega) (by omega) (fun k0 X2 f2 d2 Pm hM hJ => ?_)) kx_jw
  refine g_istore dL_law_1268 (Nat.le_of_ble_eq_true rfl) ?_
  refine g_aload_n (i := 2) dL_law_1270 rfl rfl ?_
  refine g_aload_n (i := 0) dL_law_1271 rfl rfl ?_
  refine g_iload dL_law_1272 rfl ?_
  refine g_iconst (v := 1) dL_law_1274 (by decide) ?_
  refine g_iadd dL_law_1275 ?_
  refine g_sld dL_law_1276 (lw_ix1 hk) (by omega) ?_
  refine g_callV hM dL_law_1277 ml_L_227 cvX10_holes K_X10 rfl LW_30 rfl rfl (Nat.le_of_ble_eq_true rfl) (Nat.le_of_ble_eq_true rfl) (Nat.zero_le _) (Nat.zero_le _) (kr_jm hJ (fun b Y2 h11 hb hR2 => ?_)) (kx_jm hJ)
  refine g_istore dL_law_1280 (Nat.le_of_ble_eq_true rfl) ?_
  refine g_aload_n (i := 2) dL_law_1282 rfl rfl ?_
  refine g_callV (ev_thrownL hl) dL_law_1283 ml_L_157 cvX10_thrown K_X10 rfl LW_30 rfl rfl (Nat.le_of_ble_eq_true rfl) (Nat.le_of_ble_eq_true rfl) (Nat.zero_le _) (Nat.zero_le _) (kr_rt ?_) kx_rt
  refine g_iload dL_law_1286 rfl ?_
  refine g_icmp_eq (tgt := 1293) dL_law_1288 (by decide) (fun _ => ?_) (fun c9 => absurd h11 c9)
  refine g_iload dL_law_1293 rfl ?_
  refine g_if_ne (tgt := 1310) dL_law_1295 (by decide) (fun _ => ?_) (fun c0 => ?_)
  · refine g_goto (tgt := 2620) dL_law_1310 (by decide) ?_
    exact nx _ _ _ _ _ _ _ hR2
  · have e8 : f2 0 = b.toInt64 := hb c0
    refine g_aload_n (i := 3) dL_law_1298 rfl rfl ?_
    refine g_iconst (v := 0) dL_law_1299 (by decide) ?_
    refine g_lald dL_law_1300 LW_60 (ix_nI (j := 0) (by decide)) (by decide) ?_
    refine g_iload dL_law_1301 rfl ?_
    refine g_i2l dL_law_1303 ?_
    refine g_lcmp dL_law_1304 ?_
    refine g_if_eq (tgt := 1310) dL_law_1305 (by decide) (fun _ => ?_) (fun c9 => absurd (lgc0.mpr e8) c9)
    refine g_goto (tgt := 2620) dL_law_1310 (by decide) ?_
    exact nx _ _ _ _ _ _ _ hR2

set_option maxRecDepth 100000 in
theorem lw_c21 {l : Launch} {G : GG} (hl : l.stackTraces = false) {A : AD} {k KC KS : Nat} {P : Post} (hk : k < 512) (hj : 5 * k + 4 < (gX G).2.1) {X : CL} {Y : YS} {fo : Nat → Int64} {fd : Nat → UInt64} (hR : RelX k X Y) {v6 v7 v8 : Option Value} (nx : lwN l G A k KC KS P) : Go l G mL_law 40 (KC + 25) (KS + 3550) P 1313 (lwL G A k v6 v7 v8) [] (LW A X Y fo fd) := by
  obtain ⟨M, N, c, q, H, L, R, t, l9, O⟩ := X
  obtain ⟨a, f⟩ := Y
  have hR : RelP k M N t l9 O a f := hR
  obtain ⟨mc, ms, hmc, hms, hE⟩ := jt_holesBySquares (G := G) (A := A) (fo := fo) (fd := fd) hl hR (p0 := ((gX G).2.2 (5 * k + 1)))
  refine g_aload_n (i := 1) dL_law_1313 rfl rfl ?_
  refine g_aload_n (i := 0) dL_law_1314 rfl rfl ?_
  refine g_iload dL_law_1315 rfl ?_
  refine g_iconst (v := 1) dL_law_1317 (by decide) ?_
  refine g_iadd dL_law_1318 ?_
  refine g_sld dL_law_1319 (lw_ix1 hk) (by omega) ?_
  refine g_aload_n (i := 3) dL_law_1320 rfl rfl ?_
  refine g_callS hE dL_law_1321 ml_L_228 csL_holesBySquares rfl rfl (Nat.le_of_ble_eq_true rfl) (Nat.le_of_ble_eq_true rfl) (by omega) (by omega) (kr_jw (KC := KC) (KS := KS) (by omega) (by omega) (fun k0 X2 f2 d2 Pm hM hJ => ?_)) kx_jw
  refine g_istore dL_law_1324 (Nat.le_of_ble_eq_true rfl) ?_
  refine g_aload_n (i := 2) dL_law_1326 rfl rfl ?_
  refine g_aload_n (i := 0) dL_law_1327 rfl rfl ?_
  refine g_iload dL_law_1328 rfl ?_
  refine g_iconst (v := 1) dL_law_1330 (by decide) ?_
  refine g_iadd dL_law_1331 ?_
  refine g_sld dL_law_1332 (lw_ix1 hk) (by omega) ?_
  refine g_callV hM dL_law_1333 ml_L_230 cvX10_holesBySquares K_X10 rfl LW_30 rfl rfl (Nat.le_of_ble_eq_true rfl) (Nat.le_of_ble_eq_true rfl) (Nat.zero_le _) (Nat.zero_le _) (kr_jm hJ (fun b Y2 h11 hb hR2 => ?_)) (kx_jm hJ)
  refine g_istore dL_law_1336 (Nat.le_of_ble_eq_true rfl) ?_
  refine g_aload_n (i := 2) dL_law_1338 rfl rfl ?_
  refine g_callV (ev_thrownL hl) dL_law_1339 ml_L_157 cvX10_thrown K_X10 rfl LW_30 rfl rfl (Nat.le_of_ble_eq_true rfl) (Nat.le_of_ble_eq_true rfl) (Nat.zero_le _) (Nat.zero_le _) (kr_rt ?_) kx_rt
  refine g_iload dL_law_1342 rfl ?_
  refine g_icmp_eq (tgt := 1349) dL_law_1344 (by decide) (fun _ => ?_) (fun c9 => absurd h11 c9)
  refine g_iload dL_law_1349 rfl ?_
  refine g_if_ne (tgt := 1366) dL_law_1351 (by decide) (fun _ => ?_) (fun c0 => ?_)
  · refine g_goto (tgt := 2620) dL_law_1366 (by decide) ?_
    exact nx _ _ _ _ _ _ _ hR2
  · have e8 : f2 0 = b.toInt64 := hb c0
    refine g_aload_n (i := 3) dL_law_1354 rfl rfl ?_
    refine g_iconst (v := 0) dL_law_1355 (by decide) ?_
    refine g_lald dL_law_1356 LW_60 (ix_nI (j := 0) (by decide)) (by decide) ?_
    refine g_iload dL_law_1357 rfl ?_
    refine g_i2l dL_law_1359 ?_
    refine g_lcmp dL_law_1360 ?_
    refine g_if_eq (tgt := 1366) dL_law_1361 (by decide) (fun _ => ?_) (fun c9 => absurd (lgc0.mpr e8) c9)
    refine g_goto (tgt := 2620) dL_law_1366 (by decide) ?_
    exact nx _ _ _ _ _ _ _ hR2

set_option maxRecDepth 100000 in
theorem lw_c22 {l : Launch} {G : GG} (hl : l.stackTraces = false) {A : AD} {k KC KS : Nat} {P : Post} (hk : k < 512) (hj : 5 * k + 4 < (gX G).2.1) {X : CL} {Y : YS} {fo : Nat → Int64} {fd : Nat → UInt64} (hR : RelX k X Y) {v6 v7 v8 : Option Value} (nx : lwN l G A k KC KS P) : Go l G mL_law 40 (KC + 25) (KS + 3550) P 1369 (lwL G A k v6 v7 v8) [] (LW A X Y fo fd) := by
  obtain ⟨M, N, c, q, H, L, R, t, l9, O⟩ := X
  obtain ⟨a, f⟩ := Y
  have hR : RelP k M N t l9 O a f := hR
  obtain ⟨mc, ms, hmc, hms, hE⟩ := jt_contourLength (G := G) (A := A) (fo := fo) (fd := fd) hl hR (p0 := ((gX G).2.2 (5 * k + 1)))
  refine g_aload_n (i := 1) dL_law_1369 rfl rfl ?_
  refine g_aload_n (i := 0) dL_law_1370 rfl rfl ?_
  refine g_iload dL_law_1371 rfl ?_
  refine g_iconst (v := 1) dL_law_1373 (by decide) ?_
  refine g_iadd dL_law_1374 ?_
  refine g_sld dL_law_1375 (lw_ix1 hk) (by omega) ?_
  refine g_aload_n (i := 3) dL_law_1376 rfl rfl ?_
  refine g_callS hE dL_law_1377 ml_L_231 csL_contourLength rfl rfl (Nat.le_of_ble_eq_true rfl) (Nat.le_of_ble_eq_true rfl) (by omega) (by omega) (kr_jw (KC := KC) (KS := KS) (by omega) (by omega) (fun k0 X2 f2 d2 Pm hM hJ => ?_)) kx_jw
  refine g_istore dL_law_1380 (Nat.le_of_ble_eq_true rfl) ?_
  refine g_aload_n (i := 2) dL_law_1382 rfl rfl ?_
  refine g_aload_n (i := 0) dL_law_1383 rfl rfl ?_
  refine g_iload dL_law_1384 rfl ?_
  refine g_iconst (v := 1) dL_law_1386 (by decide) ?_
  refine g_iadd dL_law_1387 ?_
  refine g_sld dL_law_1388 (lw_ix1 hk) (by omega) ?_
  refine g_callV hM dL_law_1389 ml_L_233 cvX10_contourLength K_X10 rfl LW_30 rfl rfl (Nat.le_of_ble_eq_true rfl) (Nat.le_of_ble_eq_true rfl) (Nat.zero_le _) (Nat.zero_le _) (kr_jm hJ (fun b Y2 h11 hb hR2 => ?_)) (kx_jm hJ)
  refine g_istore dL_law_1392 (Nat.le_of_ble_eq_true rfl) ?_
  refine g_aload_n (i := 2) dL_law_1394 rfl rfl ?_
  refine g_callV (ev_thrownL hl) dL_law_1395 ml_L_157 cvX10_thrown K_X10 rfl LW_30 rfl rfl (Nat.le_of_ble_eq_true rfl) (Nat.le_of_ble_eq_true rfl) (Nat.zero_le _) (Nat.zero_le _) (kr_rt ?_) kx_rt
  refine g_iload dL_law_1398 rfl ?_
  refine g_icmp_eq (tgt := 1405) dL_law_1400 (by decide) (fun _ => ?_) (fun c9 => absurd h11 c9)
  refine g_iload dL_law_1405 rfl ?_
  refine g_if_ne (tgt := 1422) dL_law_1407 (by decide) (fun _ => ?_) (fun c0 => ?_)
  · refine g_goto (tgt := 2620) dL_law_1422 (by decide) ?_
    exact nx _ _ _ _ _ _ _ hR2
  · have e8 : f2 0 = b.toInt64 := hb c0
    refine g_aload_n (i := 3) dL_law_1410 rfl rfl ?_
    refine g_iconst (v := 0) dL_law_1411 (by decide) ?_
    refine g_lald dL_law_1412 LW_60 (ix_nI (j := 0) (by decide)) (by decide) ?_
    refine g_iload dL_law_1413 rfl ?_
    refine g_i2l dL_law_1415 ?_
    refine g_lcmp dL_law_1416 ?_
    refine g_if_eq (tgt := 1422) dL_law_1417 (by decide) (fun _ => ?_) (fun c9 => absurd (lgc0.mpr e8) c9)
    refine g_goto (tgt := 2620) dL_law_1422 (by decide) ?_
    exact nx _ _ _ _ _ _ _ hR2

set_option maxRecDepth 100000 in
theorem lw_c23 {l : Launch} {G : GG} (hl : l.stackTraces = false) {A : AD} {k KC KS : Nat} {P : Post} (hk : k < 512) (hj : 5 * k + 4 < (gX G).2.1) {X : CL} {Y : YS} {fo : Nat → Int64} {fd : Nat → UInt64} (hR : RelX k X Y) {v6 v7 v8 : Option Value} (nx : lwN l G A k KC KS P) : Go l G mL_law 40 (KC + 25) (KS + 3550) P 1425 (lwL G A k v6 v7 v8) [] (LW A X Y fo fd) := by
  obtain ⟨M, N, c, q, H, L, R, t, l9, O⟩ := X
  obtain ⟨a, f⟩ := Y
  have hR : RelP k M N t l9 O a f := hR
  obtain ⟨mc, ms, hmc, hms, hE⟩ := jt_contourLengthByPairs (G := G) (A := A) (fo := fo) (fd := fd) hl hR (p0 := ((gX G).2.2 (5 * k + 1)))
  refine g_aload_n (i := 1) dL_law_1425 rfl rfl ?_
  refine g_aload_n (i := 0) dL_law_1426 rfl rfl ?_
  refine g_iload dL_law_1427 rfl ?_
  refine g_iconst (v := 1) dL_law_1429 (by decide) ?_
  refine g_iadd dL_law_1430 ?_
  refine g_sld dL_law_1431 (lw_ix1 hk) (by omega) ?_
  refine g_aload_n (i := 3) dL_law_1432 rfl rfl ?_
  refine g_callS hE dL_law_1433 ml_L_234 csL_contourLengthByPairs rfl rfl (Nat.le_of_ble_eq_true rfl) (Nat.le_of_ble_eq_true rfl) (by omega) (by omega) (kr_jw (KC := KC) (KS := KS) (by omega) (by omega) (fun k0 X2 f2 d2 Pm hM hJ => ?_)) kx_jw
  refine g_istore dL_law_1436 (Nat.le_of_ble_eq_true rfl) ?_
  refine g_aload_n (i := 2) dL_law_1438 rfl rfl ?_
  refine g_aload_n (i := 0) dL_law_1439 rfl rfl ?_
  refine g_iload dL_law_1440 rfl ?_
  refine g_iconst (v := 1) dL_law_1442 (by decide) ?_
  refine g_iadd dL_law_1443 ?_
  refine g_sld dL_law_1444 (lw_ix1 hk) (by omega) ?_
  refine g_callV hM dL_law_1445 ml_L_236 cvX10_contourLengthByPairs K_X10 rfl LW_30 rfl rfl (Nat.le_of_ble_eq_true rfl) (Nat.le_of_ble_eq_true rfl) (Nat.zero_le _) (Nat.zero_le _) (kr_jm hJ (fun b Y2 h11 hb hR2 => ?_)) (kx_jm hJ)
  refine g_istore dL_law_1448 (Nat.le_of_ble_eq_true rfl) ?_
  refine g_aload_n (i := 2) dL_law_1450 rfl rfl ?_
  refine g_callV (ev_thrownL hl) dL_law_1451 ml_L_157 cvX10_thrown K_X10 rfl LW_30 rfl rfl (Nat.le_of_ble_eq_true rfl) (Nat.le_of_ble_eq_true rfl) (Nat.zero_le _) (Nat.zero_le _) (kr_rt ?_) kx_rt
  refine g_iload dL_law_1454 rfl ?_
  refine g_icmp_eq (tgt := 1461) dL_law_1456 (by decide) (fun _ => ?_) (fun c9 => absurd h11 c9)
  refine g_iload dL_law_1461 rfl ?_
  refine g_if_ne (tgt := 1478) dL_law_1463 (by decide) (fun _ => ?_) (fun c0 => ?_)
  · refine g_goto (tgt := 2620) dL_law_1478 (by decide) ?_
    exact nx _ _ _ _ _ _ _ hR2
  · have e8 : f2 0 = b.toInt64 := hb c0
    refine g_aload_n (i := 3) dL_law_1466 rfl rfl ?_
    refine g_iconst (v := 0) dL_law_1467 (by decide) ?_
    refine g_lald dL_law_1468 LW_60 (ix_nI (j := 0) (by decide)) (by decide) ?_
    refine g_iload dL_law_1469 rfl ?_
    refine g_i2l dL_law_1471 ?_
    refine g_lcmp dL_law_1472 ?_
    refine g_if_eq (tgt := 1478) dL_law_1473 (by decide) (fun _ => ?_) (fun c9 => absurd (lgc0.mpr e8) c9)
    refine g_goto (tgt := 2620) dL_law_1478 (by decide) ?_
    exact nx _ _ _ _ _ _ _ hR2

