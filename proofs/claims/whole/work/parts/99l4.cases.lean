/-! The law's cases 32 to 37 (by wip/whole/gen/m63.py). -/
set_option maxRecDepth 100000 in
theorem lw_c32 {l : Launch} {G : GG} (hl : l.stackTraces = false) {A : AD} {k KC KS : Nat} {P : Post} (hk : k < 512) (hj : 5 * k + 4 < (gX G).2.1) {X : CL} {Y : YS} {fo : Nat → Int64} {fd : Nat → UInt64} (hR : RelX k X Y) {v6 v7 v8 : Option Value} (nx : lwN l G A k KC KS P) : Go l G mL_law 40 (KC + 25) (KS + 3550) P 2063 (lwL G A k v6 v7 v8) [] (LW A X Y fo fd) := by
  obtain ⟨M, N, c, q, H, L, R, t, l9, O⟩ := X
  obtain ⟨a, f⟩ := Y
  have hR : RelP k M N t l9 O a f := hR
  obtain ⟨mc, ms, hmc, hms, hE⟩ := jt_run (G := G) (A := A) (fo := fo) (fd := fd) hl hR hk
  refine g_aload_n (i := 1) dL_law_2063 rfl rfl ?_
  refine g_aload_n (i := 3) dL_law_2064 rfl rfl ?_
  refine g_callS hE dL_law_2065 ml_L_263 csL_run rfl rfl (Nat.le_of_ble_eq_true rfl) (Nat.le_of_ble_eq_true rfl) (by omega) (by omega) (kr_jw (KC := KC) (KS := KS) (by omega) (by omega) (fun k0 X2 f2 d2 Pm hM hJ => ?_)) kx_jw
  refine g_istore dL_law_2068 (Nat.le_of_ble_eq_true rfl) ?_
  refine g_aload_n (i := 2) dL_law_2070 rfl rfl ?_
  refine g_callV hM dL_law_2071 ml_L_265 cvX10_run K_X10 rfl LW_30 rfl rfl (Nat.le_of_ble_eq_true rfl) (Nat.le_of_ble_eq_true rfl) (Nat.zero_le _) (Nat.zero_le _) (kr_jm hJ (fun b Y2 h11 hb hR2 => ?_)) (kx_jm hJ)
  refine g_istore dL_law_2074 (Nat.le_of_ble_eq_true rfl) ?_
  refine g_aload_n (i := 2) dL_law_2076 rfl rfl ?_
  refine g_callV (ev_thrownL hl) dL_law_2077 ml_L_157 cvX10_thrown K_X10 rfl LW_30 rfl rfl (Nat.le_of_ble_eq_true rfl) (Nat.le_of_ble_eq_true rfl) (Nat.zero_le _) (Nat.zero_le _) (kr_rt ?_) kx_rt
  refine g_iload dL_law_2080 rfl ?_
  refine g_icmp_eq (tgt := 2087) dL_law_2082 (by decide) (fun _ => ?_) (fun c9 => absurd h11 c9)
  refine g_iload dL_law_2087 rfl ?_
  refine g_if_ne (tgt := 2104) dL_law_2089 (by decide) (fun _ => ?_) (fun c0 => ?_)
  · refine g_goto (tgt := 2620) dL_law_2104 (by decide) ?_
    exact nx _ _ _ _ _ _ _ hR2
  · have e8 : f2 0 = b.toInt64 := hb c0
    refine g_aload_n (i := 3) dL_law_2092 rfl rfl ?_
    refine g_iconst (v := 0) dL_law_2093 (by decide) ?_
    refine g_lald dL_law_2094 LW_60 (ix_nI (j := 0) (by decide)) (by decide) ?_
    refine g_iload dL_law_2095 rfl ?_
    refine g_i2l dL_law_2097 ?_
    refine g_lcmp dL_law_2098 ?_
    refine g_if_eq (tgt := 2104) dL_law_2099 (by decide) (fun _ => ?_) (fun c9 => absurd (lgc0.mpr e8) c9)
    refine g_goto (tgt := 2620) dL_law_2104 (by decide) ?_
    exact nx _ _ _ _ _ _ _ hR2

set_option maxRecDepth 100000 in
theorem lw_c33 {l : Launch} {G : GG} (hl : l.stackTraces = false) {A : AD} {k KC KS : Nat} {P : Post} (hk : k < 512) (hj : 5 * k + 4 < (gX G).2.1) {X : CL} {Y : YS} {fo : Nat → Int64} {fd : Nat → UInt64} (hR : RelX k X Y) {v6 v7 v8 : Option Value} (nx : lwN l G A k KC KS P) : Go l G mL_law 40 (KC + 25) (KS + 3550) P 2107 (lwL G A k v6 v7 v8) [] (LW A X Y fo fd) := by
  obtain ⟨M, N, c, q, H, L, R, t, l9, O⟩ := X
  obtain ⟨a, f⟩ := Y
  have hR : RelP k M N t l9 O a f := hR
  obtain ⟨mc, ms, hmc, hms, hE⟩ := jt_errorPosition (G := G) (A := A) (fo := fo) (fd := fd) hl hR
  refine g_aload_n (i := 1) dL_law_2107 rfl rfl ?_
  refine g_aload_n (i := 3) dL_law_2108 rfl rfl ?_
  refine g_callS hE dL_law_2109 ml_L_266 csL_errorPosition rfl rfl (Nat.le_of_ble_eq_true rfl) (Nat.le_of_ble_eq_true rfl) (by omega) (by omega) (kr_jw (KC := KC) (KS := KS) (by omega) (by omega) (fun k0 X2 f2 d2 Pm hM hJ => ?_)) kx_jw
  refine g_istore dL_law_2112 (Nat.le_of_ble_eq_true rfl) ?_
  refine g_aload_n (i := 2) dL_law_2114 rfl rfl ?_
  refine g_callV hM dL_law_2115 ml_L_268 cvX10_errorPosition K_X10 rfl LW_30 rfl rfl (Nat.le_of_ble_eq_true rfl) (Nat.le_of_ble_eq_true rfl) (Nat.zero_le _) (Nat.zero_le _) (kr_jm hJ (fun b Y2 h11 hb hR2 => ?_)) (kx_jm hJ)
  refine g_istore dL_law_2118 (Nat.le_of_ble_eq_true rfl) ?_
  refine g_aload_n (i := 2) dL_law_2120 rfl rfl ?_
  refine g_callV (ev_thrownL hl) dL_law_2121 ml_L_157 cvX10_thrown K_X10 rfl LW_30 rfl rfl (Nat.le_of_ble_eq_true rfl) (Nat.le_of_ble_eq_true rfl) (Nat.zero_le _) (Nat.zero_le _) (kr_rt ?_) kx_rt
  refine g_iload dL_law_2124 rfl ?_
  refine g_icmp_eq (tgt := 2131) dL_law_2126 (by decide) (fun _ => ?_) (fun c9 => absurd h11 c9)
  refine g_iload dL_law_2131 rfl ?_
  refine g_if_ne (tgt := 2148) dL_law_2133 (by decide) (fun _ => ?_) (fun c0 => ?_)
  · refine g_goto (tgt := 2620) dL_law_2148 (by decide) ?_
    exact nx _ _ _ _ _ _ _ hR2
  · have e8 : f2 0 = b.toInt64 := hb c0
    refine g_aload_n (i := 3) dL_law_2136 rfl rfl ?_
    refine g_iconst (v := 0) dL_law_2137 (by decide) ?_
    refine g_lald dL_law_2138 LW_60 (ix_nI (j := 0) (by decide)) (by decide) ?_
    refine g_iload dL_law_2139 rfl ?_
    refine g_i2l dL_law_2141 ?_
    refine g_lcmp dL_law_2142 ?_
    refine g_if_eq (tgt := 2148) dL_law_2143 (by decide) (fun _ => ?_) (fun c9 => absurd (lgc0.mpr e8) c9)
    refine g_goto (tgt := 2620) dL_law_2148 (by decide) ?_
    exact nx _ _ _ _ _ _ _ hR2

set_option maxRecDepth 100000 in
theorem lw_c34 {l : Launch} {G : GG} (hl : l.stackTraces = false) {A : AD} {k KC KS : Nat} {P : Post} (hk : k < 512) (hj : 5 * k + 4 < (gX G).2.1) {X : CL} {Y : YS} {fo : Nat → Int64} {fd : Nat → UInt64} (hR : RelX k X Y) {v6 v7 v8 : Option Value} (nx : lwN l G A k KC KS P) : Go l G mL_law 40 (KC + 25) (KS + 3550) P 2151 (lwL G A k v6 v7 v8) [] (LW A X Y fo fd) := by
  obtain ⟨M, N, c, q, H, L, R, t, l9, O⟩ := X
  obtain ⟨a, f⟩ := Y
  have hR : RelP k M N t l9 O a f := hR
  obtain ⟨mc, ms, hmc, hms, hE⟩ := jt_failedCommand (G := G) (A := A) (fo := fo) (fd := fd) hl hR
  refine g_aload_n (i := 1) dL_law_2151 rfl rfl ?_
  refine g_aload_n (i := 3) dL_law_2152 rfl rfl ?_
  refine g_callS hE dL_law_2153 ml_L_269 csL_failedCommand rfl rfl (Nat.le_of_ble_eq_true rfl) (Nat.le_of_ble_eq_true rfl) (by omega) (by omega) (kr_jw (KC := KC) (KS := KS) (by omega) (by omega) (fun k0 X2 f2 d2 Pm hM hJ => ?_)) kx_jw
  refine g_istore dL_law_2156 (Nat.le_of_ble_eq_true rfl) ?_
  refine g_aload_n (i := 2) dL_law_2158 rfl rfl ?_
  refine g_callV hM dL_law_2159 ml_L_271 cvX10_failedCommand K_X10 rfl LW_30 rfl rfl (Nat.le_of_ble_eq_true rfl) (Nat.le_of_ble_eq_true rfl) (Nat.zero_le _) (Nat.zero_le _) (kr_jm hJ (fun b Y2 h11 hb hR2 => ?_)) (kx_jm hJ)
  refine g_istore dL_law_2162 (Nat.le_of_ble_eq_true rfl) ?_
  refine g_aload_n (i := 2) dL_law_2164 rfl rfl ?_
  refine g_callV (ev_thrownL hl) dL_law_2165 ml_L_157 cvX10_thrown K_X10 rfl LW_30 rfl rfl (Nat.le_of_ble_eq_true rfl) (Nat.le_of_ble_eq_true rfl) (Nat.zero_le _) (Nat.zero_le _) (kr_rt ?_) kx_rt
  refine g_iload dL_law_2168 rfl ?_
  refine g_icmp_eq (tgt := 2175) dL_law_2170 (by decide) (fun _ => ?_) (fun c9 => absurd h11 c9)
  refine g_iload dL_law_2175 rfl ?_
  refine g_if_ne (tgt := 2192) dL_law_2177 (by decide) (fun _ => ?_) (fun c0 => ?_)
  · refine g_goto (tgt := 2620) dL_law_2192 (by decide) ?_
    exact nx _ _ _ _ _ _ _ hR2
  · have e8 : f2 0 = b.toInt64 := hb c0
    refine g_aload_n (i := 3) dL_law_2180 rfl rfl ?_
    refine g_iconst (v := 0) dL_law_2181 (by decide) ?_
    refine g_lald dL_law_2182 LW_60 (ix_nI (j := 0) (by decide)) (by decide) ?_
    refine g_iload dL_law_2183 rfl ?_
    refine g_i2l dL_law_2185 ?_
    refine g_lcmp dL_law_2186 ?_
    refine g_if_eq (tgt := 2192) dL_law_2187 (by decide) (fun _ => ?_) (fun c9 => absurd (lgc0.mpr e8) c9)
    refine g_goto (tgt := 2620) dL_law_2192 (by decide) ?_
    exact nx _ _ _ _ _ _ _ hR2

set_option maxRecDepth 100000 in
theorem lw_c35 {l : Launch} {G : GG} (hl : l.stackTraces = false) {A : AD} {k KC KS : Nat} {P : Post} (hk : k < 512) (hj : 5 * k + 4 < (gX G).2.1) {X : CL} {Y : YS} {fo : Nat → Int64} {fd : Nat → UInt64} (hR : RelX k X Y) {v6 v7 v8 : Option Value} (nx : lwN l G A k KC KS P) : Go l G mL_law 40 (KC + 25) (KS + 3550) P 2195 (lwL G A k v6 v7 v8) [] (LW A X Y fo fd) := by
  obtain ⟨M, N, c, q, H, L, R, t, l9, O⟩ := X
  obtain ⟨a, f⟩ := Y
  have hR : RelP k M N t l9 O a f := hR
  obtain ⟨mc, ms, hmc, hms, hE⟩ := jt_describeRow (G := G) (A := A) (fo := fo) (fd := fd) hl hR (p0 := ((gX G).2.2 (5 * k + 1)))
  refine g_aload_n (i := 1) dL_law_2195 rfl rfl ?_
  refine g_aload_n (i := 0) dL_law_2196 rfl rfl ?_
  refine g_iload dL_law_2197 rfl ?_
  refine g_iconst (v := 1) dL_law_2199 (by decide) ?_
  refine g_iadd dL_law_2200 ?_
  refine g_sld dL_law_2201 (lw_ix1 hk) (by omega) ?_
  refine g_aload_n (i := 3) dL_law_2202 rfl rfl ?_
  refine g_callS hE dL_law_2203 ml_L_272 csL_describeRow rfl rfl (Nat.le_of_ble_eq_true rfl) (Nat.le_of_ble_eq_true rfl) (by omega) (by omega) (kr_jw (KC := KC) (KS := KS) (by omega) (by omega) (fun k0 X2 f2 d2 Pm hM hJ => ?_)) kx_jw
  refine g_istore dL_law_2206 (Nat.le_of_ble_eq_true rfl) ?_
  refine g_aload_n (i := 2) dL_law_2208 rfl rfl ?_
  refine g_aload_n (i := 0) dL_law_2209 rfl rfl ?_
  refine g_iload dL_law_2210 rfl ?_
  refine g_iconst (v := 1) dL_law_2212 (by decide) ?_
  refine g_iadd dL_law_2213 ?_
  refine g_sld dL_law_2214 (lw_ix1 hk) (by omega) ?_
  refine g_callV hM dL_law_2215 ml_L_274 cvX10_describeRow K_X10 rfl LW_30 rfl rfl (Nat.le_of_ble_eq_true rfl) (Nat.le_of_ble_eq_true rfl) (Nat.zero_le _) (Nat.zero_le _) (kr_jm hJ (fun b Y2 h11 hb hR2 => ?_)) (kx_jm hJ)
  refine g_istore dL_law_2218 (Nat.le_of_ble_eq_true rfl) ?_
  refine g_aload_n (i := 2) dL_law_2220 rfl rfl ?_
  refine g_callV (ev_thrownL hl) dL_law_2221 ml_L_157 cvX10_thrown K_X10 rfl LW_30 rfl rfl (Nat.le_of_ble_eq_true rfl) (Nat.le_of_ble_eq_true rfl) (Nat.zero_le _) (Nat.zero_le _) (kr_rt ?_) kx_rt
  refine g_iload dL_law_2224 rfl ?_
  refine g_icmp_eq (tgt := 2231) dL_law_2226 (by decide) (fun _ => ?_) (fun c9 => absurd h11 c9)
  refine g_iload dL_law_2231 rfl ?_
  refine g_if_ne (tgt := 2248) dL_law_2233 (by decide) (fun _ => ?_) (fun c0 => ?_)
  · refine g_goto (tgt := 2620) dL_law_2248 (by decide) ?_
    exact nx _ _ _ _ _ _ _ hR2
  · have e8 : f2 0 = b.toInt64 := hb c0
    refine g_aload_n (i := 3) dL_law_2236 rfl rfl ?_
    refine g_iconst (v := 0) dL_law_2237 (by decide) ?_
    refine g_lald dL_law_2238 LW_60 (ix_nI (j := 0) (by decide)) (by decide) ?_
    refine g_iload dL_law_2239 rfl ?_
    refine g_i2l dL_law_2241 ?_
    refine g_lcmp dL_law_2242 ?_
    refine g_if_eq (tgt := 2248) dL_law_2243 (by decide) (fun _ => ?_) (fun c9 => absurd (lgc0.mpr e8) c9)
    refine g_goto (tgt := 2620) dL_law_2248 (by decide) ?_
    exact nx _ _ _ _ _ _ _ hR2

set_option maxRecDepth 100000 in
theorem lw_c36 {l : Launch} {G : GG} (hl : l.stackTraces = false) {A : AD} {k KC KS : Nat} {P : Post} (hk : k < 512) (hj : 5 * k + 4 < (gX G).2.1) {X : CL} {Y : YS} {fo : Nat → Int64} {fd : Nat → UInt64} (hR : RelX k X Y) {v6 v7 v8 : Option Value} (nx : lwN l G A k KC KS P) : Go l G mL_law 40 (KC + 25) (KS + 3550) P 2251 (lwL G A k v6 v7 v8) [] (LW A X Y fo fd) := by
  obtain ⟨M, N, c, q, H, L, R, t, l9, O⟩ := X
  obtain ⟨a, f⟩ := Y
  have hR : RelP k M N t l9 O a f := hR
  obtain ⟨mc, ms, hmc, hms, hE⟩ := jt_describeLegend (G := G) (A := A) (fo := fo) (fd := fd) hl hR hk (p0 := ((gX G).2.2 (5 * k + 1)))
  refine g_aload_n (i := 1) dL_law_2251 rfl rfl ?_
  refine g_aload_n (i := 0) dL_law_2252 rfl rfl ?_
  refine g_iload dL_law_2253 rfl ?_
  refine g_iconst (v := 1) dL_law_2255 (by decide) ?_
  refine g_iadd dL_law_2256 ?_
  refine g_sld dL_law_2257 (lw_ix1 hk) (by omega) ?_
  refine g_aload_n (i := 3) dL_law_2258 rfl rfl ?_
  refine g_callS hE dL_law_2259 ml_L_275 csL_describeLegend rfl rfl (Nat.le_of_ble_eq_true rfl) (Nat.le_of_ble_eq_true rfl) (by omega) (by omega) (kr_jw (KC := KC) (KS := KS) (by omega) (by omega) (fun k0 X2 f2 d2 Pm hM hJ => ?_)) kx_jw
  refine g_istore dL_law_2262 (Nat.le_of_ble_eq_true rfl) ?_
  refine g_aload_n (i := 2) dL_law_2264 rfl rfl ?_
  refine g_aload_n (i := 0) dL_law_2265 rfl rfl ?_
  refine g_iload dL_law_2266 rfl ?_
  refine g_iconst (v := 1) dL_law_2268 (by decide) ?_
  refine g_iadd dL_law_2269 ?_
  refine g_sld dL_law_2270 (lw_ix1 hk) (by omega) ?_
  refine g_callV hM dL_law_2271 ml_L_277 cvX10_describeLegend K_X10 rfl LW_30 rfl rfl (Nat.le_of_ble_eq_true rfl) (Nat.le_of_ble_eq_true rfl) (Nat.zero_le _) (Nat.zero_le _) (kr_jm hJ (fun b Y2 h11 hb hR2 => ?_)) (kx_jm hJ)
  refine g_istore dL_law_2274 (Nat.le_of_ble_eq_true rfl) ?_
  refine g_aload_n (i := 2) dL_law_2276 rfl rfl ?_
  refine g_callV (ev_thrownL hl) dL_law_2277 ml_L_157 cvX10_thrown K_X10 rfl LW_30 rfl rfl (Nat.le_of_ble_eq_true rfl) (Nat.le_of_ble_eq_true rfl) (Nat.zero_le _) (Nat.zero_le _) (kr_rt ?_) kx_rt
  refine g_iload dL_law_2280 rfl ?_
  refine g_icmp_eq (tgt := 2287) dL_law_2282 (by decide) (fun _ => ?_) (fun c9 => absurd h11 c9)
  refine g_iload dL_law_2287 rfl ?_
  refine g_if_ne (tgt := 2304) dL_law_2289 (by decide) (fun _ => ?_) (fun c0 => ?_)
  · refine g_goto (tgt := 2620) dL_law_2304 (by decide) ?_
    exact nx _ _ _ _ _ _ _ hR2
  · have e8 : f2 0 = b.toInt64 := hb c0
    refine g_aload_n (i := 3) dL_law_2292 rfl rfl ?_
    refine g_iconst (v := 0) dL_law_2293 (by decide) ?_
    refine g_lald dL_law_2294 LW_60 (ix_nI (j := 0) (by decide)) (by decide) ?_
    refine g_iload dL_law_2295 rfl ?_
    refine g_i2l dL_law_2297 ?_
    refine g_lcmp dL_law_2298 ?_
    refine g_if_eq (tgt := 2304) dL_law_2299 (by decide) (fun _ => ?_) (fun c9 => absurd (lgc0.mpr e8) c9)
    refine g_goto (tgt := 2620) dL_law_2304 (by decide) ?_
    exact nx _ _ _ _ _ _ _ hR2

set_option maxRecDepth 100000 in
theorem lw_c37 {l : Launch} {G : GG} (hl : l.stackTraces = false) {A : AD} {k KC KS : Nat} {P : Post} (hk : k < 512) (hj : 5 * k + 4 < (gX G).2.1) {X : CL} {Y : YS} {fo : Nat → Int64} {fd : Nat → UInt64} (hR : RelX k X Y) {v6 v7 v8 : Option Value} (nx : lwN l G A k KC KS P) : Go l G mL_law 40 (KC + 25) (KS + 3550) P 2307 (lwL G A k v6 v7 v8) [] (LW A X Y fo fd) := by
  obtain ⟨M, N, c, q, H, L, R, t, l9, O⟩ := X
  obtain ⟨a, f⟩ := Y
  have hR : RelP k M N t l9 O a f := hR
  obtain ⟨mc, ms, hmc, hms, hE⟩ := jt_lineAt (G := G) (A := A) (fo := fo) (fd := fd) hl hR (p0 := ((gX G).2.2 (5 * k + 1)))
  refine g_aload_n (i := 1) dL_law_2307 rfl rfl ?_
  refine g_aload_n (i := 0) dL_law_2308 rfl rfl ?_
  refine g_iload dL_law_2309 rfl ?_
  refine g_iconst (v := 1) dL_law_2311 (by decide) ?_
  refine g_iadd dL_law_2312 ?_
  refine g_sld dL_law_2313 (lw_ix1 hk) (by omega) ?_
  refine g_aload_n (i := 3) dL_law_2314 rfl rfl ?_
  refine g_callS hE dL_law_2315 ml_L_278 csL_lineAt rfl rfl (Nat.le_of_ble_eq_true rfl) (Nat.le_of_ble_eq_true rfl) (by omega) (by omega) (kr_jw (KC := KC) (KS := KS) (by omega) (by omega) (fun k0 X2 f2 d2 Pm hM hJ => ?_)) kx_jw
  refine g_istore dL_law_2318 (Nat.le_of_ble_eq_true rfl) ?_
  refine g_aload_n (i := 2) dL_law_2320 rfl rfl ?_
  refine g_aload_n (i := 0) dL_law_2321 rfl rfl ?_
  refine g_iload dL_law_2322 rfl ?_
  refine g_iconst (v := 1) dL_law_2324 (by decide) ?_
  refine g_iadd dL_law_2325 ?_
  refine g_sld dL_law_2326 (lw_ix1 hk) (by omega) ?_
  refine g_callV hM dL_law_2327 ml_L_280 cvX10_lineAt K_X10 rfl LW_30 rfl rfl (Nat.le_of_ble_eq_true rfl) (Nat.le_of_ble_eq_true rfl) (Nat.zero_le _) (Nat.zero_le _) (kr_jm hJ (fun b Y2 h11 hb hR2 => ?_)) (kx_jm hJ)
  refine g_istore dL_law_2330 (Nat.le_of_ble_eq_true rfl) ?_
  refine g_aload_n (i := 2) dL_law_2332 rfl rfl ?_
  refine g_callV (ev_thrownL hl) dL_law_2333 ml_L_157 cvX10_thrown K_X10 rfl LW_30 rfl rfl (Nat.le_of_ble_eq_true rfl) (Nat.le_of_ble_eq_true rfl) (Nat.zero_le _) (Nat.zero_le _) (kr_rt ?_) kx_rt
  refine g_iload dL_law_2336 rfl ?_
  refine g_icmp_eq (tgt := 2343) dL_law_2338 (by decide) (fun _ => ?_) (fun c9 => absurd h11 c9)
  refine g_iload dL_law_2343 rfl ?_
  refine g_if_ne (tgt := 2360) dL_law_2345 (by decide) (fun _ => ?_) (fun c0 => ?_)
  · refine g_goto (tgt := 2620) dL_law_2360 (by decide) ?_
    exact nx _ _ _ _ _ _ _ hR2
  · have e8 : f2 0 = b.toInt64 := hb c0
    refine g_aload_n (i := 3) dL_law_2348 rfl rfl ?_
    refine g_iconst (v := 0) dL_law_2349 (by decide) ?_
    refine g_lald dL_law_2350 LW_60 (ix_nI (j := 0) (by decide)) (by decide) ?_
    refine g_iload dL_law_2351 rfl ?_
    refine g_i2l dL_law_2353 ?_
    refine g_lcmp dL_law_2354 ?_
    refine g_if_eq (tgt := 2360) dL_law_2355 (by decide) (fun _ => ?_) (fun c9 => absurd (lgc0.mpr e8) c9)
    refine g_goto (tgt := 2620) dL_law_2360 (by decide) ?_
    exact nx _ _ _ _ _ _ _ hR2

