set_option maxRecDepth 100000 in
set_option maxHeartbeats 4000000 in
theorem law_42 (l : Launch) (K : KT) (X : XT) (b L : Nat) (xs : Nat → Int32) (hC : LC l K X b L xs) (Q : State → Prop) (ce sl i W : Nat) (D : DT) (P : PT) (hi : i + 4 ≤ L) (h : RI D P D W) (hW : W + 200 < 2 ^ 29) (hce : ce + 171 ≤ 601024) (hsl : sl + 1026 ≤ 7293034) (tl : ∀ (D2 : DT) (P2 : PT), RI D2 P2 D2 (W + 130) → PV K X Q (ce + 171) (sl + 1026) 2865 [some (.ref b), some (.ref (X.2.2 0)), some (.ref (X.2.2 6)), some (.ref (X.2.2 13)), some (.int (nI i)), none, none, none, none] [] D2 P2) : PV K X Q ce sl 2210 [some (.ref b), some (.ref (X.2.2 0)), some (.ref (X.2.2 6)), some (.ref (X.2.2 13)), some (.int (nI i)), none, none, none, none] [] D P := by
  obtain ⟨hKl, hKR, C, Z, hNC, hfl, hX, hbl, hbA, hL⟩ := hC
  obtain ⟨⟨s, hs5, hs3⟩, hf0, hd0, hse0, hsk0, n, hn60, hn9⟩ := law_pre h hW
  refine pv_aload_n (q := 2211) C dL_law_2210 rfl rfl rfl ?_
  refine pv_aload_n (q := 2212) C dL_law_2211 rfl rfl rfl ?_
  refine pv_iload (q := 2214) C dL_law_2212 rfl rfl ?_
  refine pv_iconst (q := 2215) (v := 1) C dL_law_2214 rfl (by decide) ?_
  refine pv_iaddN (q := 2216) (a := i) (b := 1) C rfl rfl dL_law_2215 rfl ?_
  refine pv_sld (q := 2217) (j := i + 1) C hX hbl hbA rfl (by omega) (by omega) dL_law_2216 rfl ?_
  refine pv_aload_n (q := 2218) C dL_law_2217 rfl rfl rfl ?_
  refine pv_iload (q := 2220) C dL_law_2218 rfl rfl ?_
  refine pv_iconst (q := 2221) (v := 2) C dL_law_2220 rfl (by decide) ?_
  refine pv_iaddN (q := 2222) (a := i) (b := 2) C rfl rfl dL_law_2221 rfl ?_
  refine pv_sld (q := 2223) (j := i + 2) C hX hbl hbA rfl (by omega) (by omega) dL_law_2222 rfl ?_
  refine pv_aload_n (q := 2224) C dL_law_2223 rfl rfl rfl ?_
  refine pv_iload (q := 2226) C dL_law_2224 rfl rfl ?_
  refine pv_iconst (q := 2227) (v := 3) C dL_law_2226 rfl (by decide) ?_
  refine pv_iaddN (q := 2228) (a := i) (b := 3) C rfl rfl dL_law_2227 rfl ?_
  refine pv_sld (q := 2229) (j := i + 3) C hX hbl hbA rfl (by omega) (by omega) dL_law_2228 rfl ?_
  refine pv_aload_n (q := 2230) C dL_law_2229 rfl rfl rfl ?_
  refine pv_callL (q := 2233) C Z hNC hKl (c_L_rankOf l X D P hfl D W h (xs (i + 1)) (xs (i + 2)) (xs (i + 3))) tw_935 mw_L_rankOf ⟨rfl, rfl⟩ (by rw [hKR]; exact ⟨Nat.le_of_ble_eq_true rfl, Nat.le_of_ble_eq_true rfl⟩) (by rw [hKR, room_c.1, room_c.2]; constructor <;> omega) rfl rfl rfl (by decide) dL_law_2230 rfl (fun r5 D1 P1 hw => ?_)
  have hFX := hw.2.1
  refine pv_istore (q := 2235) C dL_law_2233 rfl (Nat.le_of_ble_eq_true rfl) rfl ?_
  refine pv_aload_n (q := 2236) C dL_law_2235 rfl rfl rfl ?_
  refine pv_aload_n (q := 2237) C dL_law_2236 rfl rfl rfl ?_
  refine pv_iload (q := 2239) C dL_law_2237 rfl rfl ?_
  refine pv_iconst (q := 2240) (v := 1) C dL_law_2239 rfl (by decide) ?_
  refine pv_iaddN (q := 2241) (a := i) (b := 1) C rfl rfl dL_law_2240 rfl ?_
  refine pv_sld (q := 2242) (j := i + 1) C hX hbl hbA rfl (by omega) (by omega) dL_law_2241 rfl ?_
  refine pv_aload_n (q := 2243) C dL_law_2242 rfl rfl rfl ?_
  refine pv_iload (q := 2245) C dL_law_2243 rfl rfl ?_
  refine pv_iconst (q := 2246) (v := 2) C dL_law_2245 rfl (by decide) ?_
  refine pv_iaddN (q := 2247) (a := i) (b := 2) C rfl rfl dL_law_2246 rfl ?_
  refine pv_sld (q := 2248) (j := i + 2) C hX hbl hbA rfl (by omega) (by omega) dL_law_2247 rfl ?_
  refine pv_aload_n (q := 2249) C dL_law_2248 rfl rfl rfl ?_
  refine pv_iload (q := 2251) C dL_law_2249 rfl rfl ?_
  refine pv_iconst (q := 2252) (v := 3) C dL_law_2251 rfl (by decide) ?_
  refine pv_iaddN (q := 2253) (a := i) (b := 3) C rfl rfl dL_law_2252 rfl ?_
  refine pv_sld (q := 2254) (j := i + 3) C hX hbl hbA rfl (by omega) (by omega) dL_law_2253 rfl ?_
  have e6 := hFX 6 (by decide) (by decide)
  have e7 := hFX 7 (by decide) (by decide)
  have e9 := hFX 9 (by decide) (by decide)
  have e12 := hFX 12 (by decide) (by decide)
  refine pv_callVi (q := 2257) C hKl (c_X7_rankOf l X D1 P1 (xs (i + 1)) (xs (i + 2)) (xs (i + 3))) tw_1391 (show kd 6 = 7 from rfl) (by decide) rfl mm_X7_rankOf ⟨rfl, rfl⟩ (by rw [hKR]; exact ⟨Nat.le_of_ble_eq_true rfl, Nat.le_of_ble_eq_true rfl⟩) (by rw [hKR, room_c.1, room_c.2]; constructor <;> omega) rfl rfl rfl (Nat.le_of_ble_eq_true rfl) dL_law_2254 rfl (fun r6 D2 P2 hp => ?_)
  obtain ⟨hp, rfl⟩ := hp
  skip
  try simp only [e6, e7, e9, e12] at hp
  have hm := zMQ_rd hp
  have hnx := law_next hw hm (agr_FX hFX) (off_rf _)
  refine pv_istore (q := 2259) C dL_law_2257 rfl (Nat.le_of_ble_eq_true rfl) rfl ?_
  refine pv_aload_n (q := 2260) C dL_law_2259 rfl rfl rfl ?_
  refine pv_callVi (q := 2263) C hKl (c_X7_thrown l X D2 P1) tw_1041 (show kd 6 = 7 from rfl) (by decide) rfl mm_X7_thrown ⟨rfl, rfl⟩ (by rw [hKR]; exact ⟨Nat.le_of_ble_eq_true rfl, Nat.le_of_ble_eq_true rfl⟩) (by rw [hKR, room_c.1, room_c.2]; constructor <;> omega) rfl rfl rfl (by decide) dL_law_2260 rfl (fun r7 D3 P3 hp3 => ?_)
  obtain ⟨rfl, rfl, rfl⟩ := hp3
  refine pv_iload (q := 2265) C dL_law_2263 rfl rfl ?_
  refine pv_icmp_eq (q := 2268) (tgt := 2270) C dL_law_2265 (by decide) rfl (fun _ => ?_) (fun z => absurd (hm.1.trans hw.1.symm) z)
  refine pv_iload (q := 2272) C dL_law_2270 rfl rfl ?_
  refine pv_if_ne (q := 2275) (tgt := 2287) C dL_law_2272 (by decide) rfl (fun c0 => ?_) (fun c0 => ?_)
  ·
    refine pv_goto (tgt := 2865) C dL_law_2287 (by decide) ?_
    exact PV_widen (ce' := ce + 171) (sl' := sl + 1026) (by omega) (by omega) (PV_le (tl D2 P1 (hnx)) ⟨Or.inr rfl, Or.inr rfl, Or.inr rfl, Or.inr rfl, Or.inr rfl, Or.inl rfl, Or.inl rfl, Or.inl rfl, Or.inl rfl, trivial⟩)
  ·
    obtain ⟨hk0, hv⟩ := WQ_v hw c0
    have hr6 := hm.2.1 hk0
    refine pv_aload_n (q := 2276) C dL_law_2275 rfl rfl rfl ?_
    refine pv_iconst (q := 2277) (v := 0) C dL_law_2276 rfl (by decide) ?_
    refine pv_lald (q := 2278) C rfl dL_law_2277 rfl ?_
    refine pv_iload (q := 2280) C dL_law_2278 rfl rfl ?_
    refine pv_i2l (q := 2281) C dL_law_2280 rfl ?_
    refine pv_lcmp (q := 2282) C dL_law_2281 rfl ?_
    refine pv_if_eq (q := 2285) (tgt := 2287) C dL_law_2282 (by decide) rfl (fun _ => ?_) (fun z => absurd (lg_eq (hv.trans (congrArg Int32.toInt64 hr6.symm))) z)
    refine pv_goto (tgt := 2865) C dL_law_2287 (by decide) ?_
    exact PV_widen (ce' := ce + 171) (sl' := sl + 1026) (by omega) (by omega) (PV_le (tl D2 P1 (hnx)) ⟨Or.inr rfl, Or.inr rfl, Or.inr rfl, Or.inr rfl, Or.inr rfl, Or.inl rfl, Or.inl rfl, Or.inl rfl, Or.inl rfl, trivial⟩)
set_option maxRecDepth 100000 in
set_option maxHeartbeats 4000000 in
theorem law_43 (l : Launch) (K : KT) (X : XT) (b L : Nat) (xs : Nat → Int32) (hC : LC l K X b L xs) (Q : State → Prop) (ce sl i W : Nat) (D : DT) (P : PT) (hi : i + 4 ≤ L) (h : RI D P D W) (hW : W + 200 < 2 ^ 29) (hce : ce + 171 ≤ 601024) (hsl : sl + 1026 ≤ 7293034) (tl : ∀ (D2 : DT) (P2 : PT), RI D2 P2 D2 (W + 130) → PV K X Q (ce + 171) (sl + 1026) 2865 [some (.ref b), some (.ref (X.2.2 0)), some (.ref (X.2.2 6)), some (.ref (X.2.2 13)), some (.int (nI i)), none, none, none, none] [] D2 P2) : PV K X Q ce sl 2290 [some (.ref b), some (.ref (X.2.2 0)), some (.ref (X.2.2 6)), some (.ref (X.2.2 13)), some (.int (nI i)), none, none, none, none] [] D P := by
  obtain ⟨hKl, hKR, C, Z, hNC, hfl, hX, hbl, hbA, hL⟩ := hC
  obtain ⟨⟨s, hs5, hs3⟩, hf0, hd0, hse0, hsk0, n, hn60, hn9⟩ := law_pre h hW
  refine pv_aload_n (q := 2291) C dL_law_2290 rfl rfl rfl ?_
  refine pv_aload_n (q := 2292) C dL_law_2291 rfl rfl rfl ?_
  refine pv_iload (q := 2294) C dL_law_2292 rfl rfl ?_
  refine pv_iconst (q := 2295) (v := 1) C dL_law_2294 rfl (by decide) ?_
  refine pv_iaddN (q := 2296) (a := i) (b := 1) C rfl rfl dL_law_2295 rfl ?_
  refine pv_sld (q := 2297) (j := i + 1) C hX hbl hbA rfl (by omega) (by omega) dL_law_2296 rfl ?_
  refine pv_aload_n (q := 2298) C dL_law_2297 rfl rfl rfl ?_
  refine pv_iload (q := 2300) C dL_law_2298 rfl rfl ?_
  refine pv_iconst (q := 2301) (v := 2) C dL_law_2300 rfl (by decide) ?_
  refine pv_iaddN (q := 2302) (a := i) (b := 2) C rfl rfl dL_law_2301 rfl ?_
  refine pv_sld (q := 2303) (j := i + 2) C hX hbl hbA rfl (by omega) (by omega) dL_law_2302 rfl ?_
  refine pv_aload_n (q := 2304) C dL_law_2303 rfl rfl rfl ?_
  refine pv_callL (q := 2307) C Z hNC hKl (c_L_unlikeOf l X D P hfl D W h (xs (i + 1)) (xs (i + 2))) tw_942 mw_L_unlikeOf ⟨rfl, rfl⟩ (by rw [hKR]; exact ⟨Nat.le_of_ble_eq_true rfl, Nat.le_of_ble_eq_true rfl⟩) (by rw [hKR, room_c.1, room_c.2]; constructor <;> omega) rfl rfl rfl (by decide) dL_law_2304 rfl (fun r5 D1 P1 hw => ?_)
  have hFX := hw.2.1
  refine pv_istore (q := 2309) C dL_law_2307 rfl (Nat.le_of_ble_eq_true rfl) rfl ?_
  refine pv_aload_n (q := 2310) C dL_law_2309 rfl rfl rfl ?_
  refine pv_aload_n (q := 2311) C dL_law_2310 rfl rfl rfl ?_
  refine pv_iload (q := 2313) C dL_law_2311 rfl rfl ?_
  refine pv_iconst (q := 2314) (v := 1) C dL_law_2313 rfl (by decide) ?_
  refine pv_iaddN (q := 2315) (a := i) (b := 1) C rfl rfl dL_law_2314 rfl ?_
  refine pv_sld (q := 2316) (j := i + 1) C hX hbl hbA rfl (by omega) (by omega) dL_law_2315 rfl ?_
  refine pv_aload_n (q := 2317) C dL_law_2316 rfl rfl rfl ?_
  refine pv_iload (q := 2319) C dL_law_2317 rfl rfl ?_
  refine pv_iconst (q := 2320) (v := 2) C dL_law_2319 rfl (by decide) ?_
  refine pv_iaddN (q := 2321) (a := i) (b := 2) C rfl rfl dL_law_2320 rfl ?_
  refine pv_sld (q := 2322) (j := i + 2) C hX hbl hbA rfl (by omega) (by omega) dL_law_2321 rfl ?_
  have e6 := hFX 6 (by decide) (by decide)
  have e7 := hFX 7 (by decide) (by decide)
  have e9 := hFX 9 (by decide) (by decide)
  have e12 := hFX 12 (by decide) (by decide)
  refine pv_callVi (q := 2325) C hKl (c_X7_unlikeOf l X D1 P1 (xs (i + 1)) (xs (i + 2))) tw_1398 (show kd 6 = 7 from rfl) (by decide) rfl mm_X7_unlikeOf ⟨rfl, rfl⟩ (by rw [hKR]; exact ⟨Nat.le_of_ble_eq_true rfl, Nat.le_of_ble_eq_true rfl⟩) (by rw [hKR, room_c.1, room_c.2]; constructor <;> omega) rfl rfl rfl (Nat.le_of_ble_eq_true rfl) dL_law_2322 rfl (fun r6 D2 P2 hp => ?_)
  obtain ⟨hp, rfl⟩ := hp
  skip
  try simp only [e6, e7, e9, e12] at hp
  have hm := zMQ_rd hp
  have hnx := law_next hw hm (agr_FX hFX) (off_rf _)
  refine pv_istore (q := 2327) C dL_law_2325 rfl (Nat.le_of_ble_eq_true rfl) rfl ?_
  refine pv_aload_n (q := 2328) C dL_law_2327 rfl rfl rfl ?_
  refine pv_callVi (q := 2331) C hKl (c_X7_thrown l X D2 P1) tw_1041 (show kd 6 = 7 from rfl) (by decide) rfl mm_X7_thrown ⟨rfl, rfl⟩ (by rw [hKR]; exact ⟨Nat.le_of_ble_eq_true rfl, Nat.le_of_ble_eq_true rfl⟩) (by rw [hKR, room_c.1, room_c.2]; constructor <;> omega) rfl rfl rfl (by decide) dL_law_2328 rfl (fun r7 D3 P3 hp3 => ?_)
  obtain ⟨rfl, rfl, rfl⟩ := hp3
  refine pv_iload (q := 2333) C dL_law_2331 rfl rfl ?_
  refine pv_icmp_eq (q := 2336) (tgt := 2338) C dL_law_2333 (by decide) rfl (fun _ => ?_) (fun z => absurd (hm.1.trans hw.1.symm) z)
  refine pv_iload (q := 2340) C dL_law_2338 rfl rfl ?_
  refine pv_if_ne (q := 2343) (tgt := 2355) C dL_law_2340 (by decide) rfl (fun c0 => ?_) (fun c0 => ?_)
  ·
    refine pv_goto (tgt := 2865) C dL_law_2355 (by decide) ?_
    exact PV_widen (ce' := ce + 171) (sl' := sl + 1026) (by omega) (by omega) (PV_le (tl D2 P1 (hnx)) ⟨Or.inr rfl, Or.inr rfl, Or.inr rfl, Or.inr rfl, Or.inr rfl, Or.inl rfl, Or.inl rfl, Or.inl rfl, Or.inl rfl, trivial⟩)
  ·
    obtain ⟨hk0, hv⟩ := WQ_v hw c0
    have hr6 := hm.2.1 hk0
    refine pv_aload_n (q := 2344) C dL_law_2343 rfl rfl rfl ?_
    refine pv_iconst (q := 2345) (v := 0) C dL_law_2344 rfl (by decide) ?_
    refine pv_lald (q := 2346) C rfl dL_law_2345 rfl ?_
    refine pv_iload (q := 2348) C dL_law_2346 rfl rfl ?_
    refine pv_i2l (q := 2349) C dL_law_2348 rfl ?_
    refine pv_lcmp (q := 2350) C dL_law_2349 rfl ?_
    refine pv_if_eq (q := 2353) (tgt := 2355) C dL_law_2350 (by decide) rfl (fun _ => ?_) (fun z => absurd (lg_eq (hv.trans (congrArg Int32.toInt64 hr6.symm))) z)
    refine pv_goto (tgt := 2865) C dL_law_2355 (by decide) ?_
    exact PV_widen (ce' := ce + 171) (sl' := sl + 1026) (by omega) (by omega) (PV_le (tl D2 P1 (hnx)) ⟨Or.inr rfl, Or.inr rfl, Or.inr rfl, Or.inr rfl, Or.inr rfl, Or.inl rfl, Or.inl rfl, Or.inl rfl, Or.inl rfl, trivial⟩)
set_option maxRecDepth 100000 in
set_option maxHeartbeats 4000000 in
theorem law_44 (l : Launch) (K : KT) (X : XT) (b L : Nat) (xs : Nat → Int32) (hC : LC l K X b L xs) (Q : State → Prop) (ce sl i W : Nat) (D : DT) (P : PT) (hi : i + 4 ≤ L) (h : RI D P D W) (hW : W + 200 < 2 ^ 29) (hce : ce + 171 ≤ 601024) (hsl : sl + 1026 ≤ 7293034) (tl : ∀ (D2 : DT) (P2 : PT), RI D2 P2 D2 (W + 130) → PV K X Q (ce + 171) (sl + 1026) 2865 [some (.ref b), some (.ref (X.2.2 0)), some (.ref (X.2.2 6)), some (.ref (X.2.2 13)), some (.int (nI i)), none, none, none, none] [] D2 P2) : PV K X Q ce sl 2358 [some (.ref b), some (.ref (X.2.2 0)), some (.ref (X.2.2 6)), some (.ref (X.2.2 13)), some (.int (nI i)), none, none, none, none] [] D P := by
  obtain ⟨hKl, hKR, C, Z, hNC, hfl, hX, hbl, hbA, hL⟩ := hC
  obtain ⟨⟨s, hs5, hs3⟩, hf0, hd0, hse0, hsk0, n, hn60, hn9⟩ := law_pre h hW
  refine pv_aload_n (q := 2359) C dL_law_2358 rfl rfl rfl ?_
  refine pv_aload_n (q := 2360) C dL_law_2359 rfl rfl rfl ?_
  refine pv_iload (q := 2362) C dL_law_2360 rfl rfl ?_
  refine pv_iconst (q := 2363) (v := 1) C dL_law_2362 rfl (by decide) ?_
  refine pv_iaddN (q := 2364) (a := i) (b := 1) C rfl rfl dL_law_2363 rfl ?_
  refine pv_sld (q := 2365) (j := i + 1) C hX hbl hbA rfl (by omega) (by omega) dL_law_2364 rfl ?_
  refine pv_aload_n (q := 2366) C dL_law_2365 rfl rfl rfl ?_
  refine pv_iload (q := 2368) C dL_law_2366 rfl rfl ?_
  refine pv_iconst (q := 2369) (v := 2) C dL_law_2368 rfl (by decide) ?_
  refine pv_iaddN (q := 2370) (a := i) (b := 2) C rfl rfl dL_law_2369 rfl ?_
  refine pv_sld (q := 2371) (j := i + 2) C hX hbl hbA rfl (by omega) (by omega) dL_law_2370 rfl ?_
  refine pv_aload_n (q := 2372) C dL_law_2371 rfl rfl rfl ?_
  refine pv_callL (q := 2375) C Z hNC hKl (c_L_countInTable l X D P hfl D W h (xs (i + 1)) (xs (i + 2))) tw_949 mw_L_countInTable ⟨rfl, rfl⟩ (by rw [hKR]; exact ⟨Nat.le_of_ble_eq_true rfl, Nat.le_of_ble_eq_true rfl⟩) (by rw [hKR, room_c.1, room_c.2]; constructor <;> omega) rfl rfl rfl (by decide) dL_law_2372 rfl (fun r5 D1 P1 hw => ?_)
  have hFX := hw.2.1
  refine pv_istore (q := 2377) C dL_law_2375 rfl (Nat.le_of_ble_eq_true rfl) rfl ?_
  refine pv_aload_n (q := 2378) C dL_law_2377 rfl rfl rfl ?_
  refine pv_aload_n (q := 2379) C dL_law_2378 rfl rfl rfl ?_
  refine pv_iload (q := 2381) C dL_law_2379 rfl rfl ?_
  refine pv_iconst (q := 2382) (v := 1) C dL_law_2381 rfl (by decide) ?_
  refine pv_iaddN (q := 2383) (a := i) (b := 1) C rfl rfl dL_law_2382 rfl ?_
  refine pv_sld (q := 2384) (j := i + 1) C hX hbl hbA rfl (by omega) (by omega) dL_law_2383 rfl ?_
  refine pv_aload_n (q := 2385) C dL_law_2384 rfl rfl rfl ?_
  refine pv_iload (q := 2387) C dL_law_2385 rfl rfl ?_
  refine pv_iconst (q := 2388) (v := 2) C dL_law_2387 rfl (by decide) ?_
  refine pv_iaddN (q := 2389) (a := i) (b := 2) C rfl rfl dL_law_2388 rfl ?_
  refine pv_sld (q := 2390) (j := i + 2) C hX hbl hbA rfl (by omega) (by omega) dL_law_2389 rfl ?_
  have e6 := hFX 6 (by decide) (by decide)
  have e7 := hFX 7 (by decide) (by decide)
  have e9 := hFX 9 (by decide) (by decide)
  have e12 := hFX 12 (by decide) (by decide)
  refine pv_callVi (q := 2393) C hKl (c_X7_countInTable l X D1 P1 (xs (i + 1)) (xs (i + 2))) tw_1405 (show kd 6 = 7 from rfl) (by decide) rfl mm_X7_countInTable ⟨rfl, rfl⟩ (by rw [hKR]; exact ⟨Nat.le_of_ble_eq_true rfl, Nat.le_of_ble_eq_true rfl⟩) (by rw [hKR, room_c.1, room_c.2]; constructor <;> omega) rfl rfl rfl (Nat.le_of_ble_eq_true rfl) dL_law_2390 rfl (fun r6 D2 P2 hp => ?_)
  obtain ⟨hp, rfl⟩ := hp
  skip
  try simp only [e6, e7, e9, e12] at hp
  have hm := zMQ_rd hp
  have hnx := law_next hw hm (agr_FX hFX) (off_rf _)
  refine pv_istore (q := 2395) C dL_law_2393 rfl (Nat.le_of_ble_eq_true rfl) rfl ?_
  refine pv_aload_n (q := 2396) C dL_law_2395 rfl rfl rfl ?_
  refine pv_callVi (q := 2399) C hKl (c_X7_thrown l X D2 P1) tw_1041 (show kd 6 = 7 from rfl) (by decide) rfl mm_X7_thrown ⟨rfl, rfl⟩ (by rw [hKR]; exact ⟨Nat.le_of_ble_eq_true rfl, Nat.le_of_ble_eq_true rfl⟩) (by rw [hKR, room_c.1, room_c.2]; constructor <;> omega) rfl rfl rfl (by decide) dL_law_2396 rfl (fun r7 D3 P3 hp3 => ?_)
  obtain ⟨rfl, rfl, rfl⟩ := hp3
  refine pv_iload (q := 2401) C dL_law_2399 rfl rfl ?_
  refine pv_icmp_eq (q := 2404) (tgt := 2406) C dL_law_2401 (by decide) rfl (fun _ => ?_) (fun z => absurd (hm.1.trans hw.1.symm) z)
  refine pv_iload (q := 2408) C dL_law_2406 rfl rfl ?_
  refine pv_if_ne (q := 2411) (tgt := 2423) C dL_law_2408 (by decide) rfl (fun c0 => ?_) (fun c0 => ?_)
  ·
    refine pv_goto (tgt := 2865) C dL_law_2423 (by decide) ?_
    exact PV_widen (ce' := ce + 171) (sl' := sl + 1026) (by omega) (by omega) (PV_le (tl D2 P1 (hnx)) ⟨Or.inr rfl, Or.inr rfl, Or.inr rfl, Or.inr rfl, Or.inr rfl, Or.inl rfl, Or.inl rfl, Or.inl rfl, Or.inl rfl, trivial⟩)
  ·
    obtain ⟨hk0, hv⟩ := WQ_v hw c0
    have hr6 := hm.2.1 hk0
    refine pv_aload_n (q := 2412) C dL_law_2411 rfl rfl rfl ?_
    refine pv_iconst (q := 2413) (v := 0) C dL_law_2412 rfl (by decide) ?_
    refine pv_lald (q := 2414) C rfl dL_law_2413 rfl ?_
    refine pv_iload (q := 2416) C dL_law_2414 rfl rfl ?_
    refine pv_i2l (q := 2417) C dL_law_2416 rfl ?_
    refine pv_lcmp (q := 2418) C dL_law_2417 rfl ?_
    refine pv_if_eq (q := 2421) (tgt := 2423) C dL_law_2418 (by decide) rfl (fun _ => ?_) (fun z => absurd (lg_eq (hv.trans (congrArg Int32.toInt64 hr6.symm))) z)
    refine pv_goto (tgt := 2865) C dL_law_2423 (by decide) ?_
    exact PV_widen (ce' := ce + 171) (sl' := sl + 1026) (by omega) (by omega) (PV_le (tl D2 P1 (hnx)) ⟨Or.inr rfl, Or.inr rfl, Or.inr rfl, Or.inr rfl, Or.inr rfl, Or.inl rfl, Or.inl rfl, Or.inl rfl, Or.inl rfl, trivial⟩)
set_option maxRecDepth 100000 in
set_option maxHeartbeats 4000000 in
theorem law_45 (l : Launch) (K : KT) (X : XT) (b L : Nat) (xs : Nat → Int32) (hC : LC l K X b L xs) (Q : State → Prop) (ce sl i W : Nat) (D : DT) (P : PT) (hi : i + 4 ≤ L) (h : RI D P D W) (hW : W + 200 < 2 ^ 29) (hce : ce + 171 ≤ 601024) (hsl : sl + 1026 ≤ 7293034) (tl : ∀ (D2 : DT) (P2 : PT), RI D2 P2 D2 (W + 130) → PV K X Q (ce + 171) (sl + 1026) 2865 [some (.ref b), some (.ref (X.2.2 0)), some (.ref (X.2.2 6)), some (.ref (X.2.2 13)), some (.int (nI i)), none, none, none, none] [] D2 P2) : PV K X Q ce sl 2426 [some (.ref b), some (.ref (X.2.2 0)), some (.ref (X.2.2 6)), some (.ref (X.2.2 13)), some (.int (nI i)), none, none, none, none] [] D P := by
  obtain ⟨hKl, hKR, C, Z, hNC, hfl, hX, hbl, hbA, hL⟩ := hC
  obtain ⟨⟨s, hs5, hs3⟩, hf0, hd0, hse0, hsk0, n, hn60, hn9⟩ := law_pre h hW
  refine pv_aload_n (q := 2427) C dL_law_2426 rfl rfl rfl ?_
  refine pv_aload_n (q := 2428) C dL_law_2427 rfl rfl rfl ?_
  refine pv_iload (q := 2430) C dL_law_2428 rfl rfl ?_
  refine pv_iconst (q := 2431) (v := 1) C dL_law_2430 rfl (by decide) ?_
  refine pv_iaddN (q := 2432) (a := i) (b := 1) C rfl rfl dL_law_2431 rfl ?_
  refine pv_sld (q := 2433) (j := i + 1) C hX hbl hbA rfl (by omega) (by omega) dL_law_2432 rfl ?_
  refine pv_aload_n (q := 2434) C dL_law_2433 rfl rfl rfl ?_
  refine pv_iload (q := 2436) C dL_law_2434 rfl rfl ?_
  refine pv_iconst (q := 2437) (v := 2) C dL_law_2436 rfl (by decide) ?_
  refine pv_iaddN (q := 2438) (a := i) (b := 2) C rfl rfl dL_law_2437 rfl ?_
  refine pv_sld (q := 2439) (j := i + 2) C hX hbl hbA rfl (by omega) (by omega) dL_law_2438 rfl ?_
  refine pv_aload_n (q := 2440) C dL_law_2439 rfl rfl rfl ?_
  refine pv_callL (q := 2443) C Z hNC hKl (c_L_sumInTable l X D P hfl D W h (xs (i + 1)) (xs (i + 2))) tw_956 mw_L_sumInTable ⟨rfl, rfl⟩ (by rw [hKR]; exact ⟨Nat.le_of_ble_eq_true rfl, Nat.le_of_ble_eq_true rfl⟩) (by rw [hKR, room_c.1, room_c.2]; constructor <;> omega) rfl rfl rfl (by decide) dL_law_2440 rfl (fun r5 D1 P1 hw => ?_)
  have hFX := hw.2.1
  refine pv_istore (q := 2445) C dL_law_2443 rfl (Nat.le_of_ble_eq_true rfl) rfl ?_
  refine pv_aload_n (q := 2446) C dL_law_2445 rfl rfl rfl ?_
  refine pv_aload_n (q := 2447) C dL_law_2446 rfl rfl rfl ?_
  refine pv_iload (q := 2449) C dL_law_2447 rfl rfl ?_
  refine pv_iconst (q := 2450) (v := 1) C dL_law_2449 rfl (by decide) ?_
  refine pv_iaddN (q := 2451) (a := i) (b := 1) C rfl rfl dL_law_2450 rfl ?_
  refine pv_sld (q := 2452) (j := i + 1) C hX hbl hbA rfl (by omega) (by omega) dL_law_2451 rfl ?_
  refine pv_aload_n (q := 2453) C dL_law_2452 rfl rfl rfl ?_
  refine pv_iload (q := 2455) C dL_law_2453 rfl rfl ?_
  refine pv_iconst (q := 2456) (v := 2) C dL_law_2455 rfl (by decide) ?_
  refine pv_iaddN (q := 2457) (a := i) (b := 2) C rfl rfl dL_law_2456 rfl ?_
  refine pv_sld (q := 2458) (j := i + 2) C hX hbl hbA rfl (by omega) (by omega) dL_law_2457 rfl ?_
  have e6 := hFX 6 (by decide) (by decide)
  have e7 := hFX 7 (by decide) (by decide)
  have e9 := hFX 9 (by decide) (by decide)
  have e12 := hFX 12 (by decide) (by decide)
  refine pv_callVi (q := 2461) C hKl (c_X7_sumInTable l X D1 P1 (xs (i + 1)) (xs (i + 2))) tw_1413 (show kd 6 = 7 from rfl) (by decide) rfl mm_X7_sumInTable ⟨rfl, rfl⟩ (by rw [hKR]; exact ⟨Nat.le_of_ble_eq_true rfl, Nat.le_of_ble_eq_true rfl⟩) (by rw [hKR, room_c.1, room_c.2]; constructor <;> omega) rfl rfl rfl (Nat.le_of_ble_eq_true rfl) dL_law_2458 rfl (fun r6 D2 P2 hp => ?_)
  obtain ⟨hp, rfl⟩ := hp
  skip
  try simp only [e6, e7, e9, e12] at hp
  have hm := zMQ_rd hp
  have hnx := law_next hw hm (agr_FX hFX) (off_rf _)
  refine pv_istore (q := 2463) C dL_law_2461 rfl (Nat.le_of_ble_eq_true rfl) rfl ?_
  refine pv_aload_n (q := 2464) C dL_law_2463 rfl rfl rfl ?_
  refine pv_callVi (q := 2467) C hKl (c_X7_thrown l X D2 P1) tw_1041 (show kd 6 = 7 from rfl) (by decide) rfl mm_X7_thrown ⟨rfl, rfl⟩ (by rw [hKR]; exact ⟨Nat.le_of_ble_eq_true rfl, Nat.le_of_ble_eq_true rfl⟩) (by rw [hKR, room_c.1, room_c.2]; constructor <;> omega) rfl rfl rfl (by decide) dL_law_2464 rfl (fun r7 D3 P3 hp3 => ?_)
  obtain ⟨rfl, rfl, rfl⟩ := hp3
  refine pv_iload (q := 2469) C dL_law_2467 rfl rfl ?_
  refine pv_icmp_eq (q := 2472) (tgt := 2474) C dL_law_2469 (by decide) rfl (fun _ => ?_) (fun z => absurd (hm.1.trans hw.1.symm) z)
  refine pv_iload (q := 2476) C dL_law_2474 rfl rfl ?_
  refine pv_if_ne (q := 2479) (tgt := 2491) C dL_law_2476 (by decide) rfl (fun c0 => ?_) (fun c0 => ?_)
  ·
    refine pv_goto (tgt := 2865) C dL_law_2491 (by decide) ?_
    exact PV_widen (ce' := ce + 171) (sl' := sl + 1026) (by omega) (by omega) (PV_le (tl D2 P1 (hnx)) ⟨Or.inr rfl, Or.inr rfl, Or.inr rfl, Or.inr rfl, Or.inr rfl, Or.inl rfl, Or.inl rfl, Or.inl rfl, Or.inl rfl, trivial⟩)
  ·
    obtain ⟨hk0, hv⟩ := WQ_v hw c0
    have hr6 := hm.2.1 hk0
    refine pv_aload_n (q := 2480) C dL_law_2479 rfl rfl rfl ?_
    refine pv_iconst (q := 2481) (v := 0) C dL_law_2480 rfl (by decide) ?_
    refine pv_lald (q := 2482) C rfl dL_law_2481 rfl ?_
    refine pv_iload (q := 2484) C dL_law_2482 rfl rfl ?_
    refine pv_i2l (q := 2485) C dL_law_2484 rfl ?_
    refine pv_lcmp (q := 2486) C dL_law_2485 rfl ?_
    refine pv_if_eq (q := 2489) (tgt := 2491) C dL_law_2486 (by decide) rfl (fun _ => ?_) (fun z => absurd (lg_eq (hv.trans (congrArg Int32.toInt64 hr6.symm))) z)
    refine pv_goto (tgt := 2865) C dL_law_2491 (by decide) ?_
    exact PV_widen (ce' := ce + 171) (sl' := sl + 1026) (by omega) (by omega) (PV_le (tl D2 P1 (hnx)) ⟨Or.inr rfl, Or.inr rfl, Or.inr rfl, Or.inr rfl, Or.inr rfl, Or.inl rfl, Or.inl rfl, Or.inl rfl, Or.inl rfl, trivial⟩)
set_option maxRecDepth 100000 in
set_option maxHeartbeats 4000000 in
theorem law_46 (l : Launch) (K : KT) (X : XT) (b L : Nat) (xs : Nat → Int32) (hC : LC l K X b L xs) (Q : State → Prop) (ce sl i W : Nat) (D : DT) (P : PT) (hi : i + 4 ≤ L) (h : RI D P D W) (hW : W + 200 < 2 ^ 29) (hce : ce + 171 ≤ 601024) (hsl : sl + 1026 ≤ 7293034) (tl : ∀ (D2 : DT) (P2 : PT), RI D2 P2 D2 (W + 130) → PV K X Q (ce + 171) (sl + 1026) 2865 [some (.ref b), some (.ref (X.2.2 0)), some (.ref (X.2.2 6)), some (.ref (X.2.2 13)), some (.int (nI i)), none, none, none, none] [] D2 P2) : PV K X Q ce sl 2494 [some (.ref b), some (.ref (X.2.2 0)), some (.ref (X.2.2 6)), some (.ref (X.2.2 13)), some (.int (nI i)), none, none, none, none] [] D P := by
  obtain ⟨hKl, hKR, C, Z, hNC, hfl, hX, hbl, hbA, hL⟩ := hC
  obtain ⟨⟨s, hs5, hs3⟩, hf0, hd0, hse0, hsk0, n, hn60, hn9⟩ := law_pre h hW
  refine pv_aload_n (q := 2495) C dL_law_2494 rfl rfl rfl ?_
  refine pv_aload_n (q := 2496) C dL_law_2495 rfl rfl rfl ?_
  refine pv_iload (q := 2498) C dL_law_2496 rfl rfl ?_
  refine pv_iconst (q := 2499) (v := 1) C dL_law_2498 rfl (by decide) ?_
  refine pv_iaddN (q := 2500) (a := i) (b := 1) C rfl rfl dL_law_2499 rfl ?_
  refine pv_sld (q := 2501) (j := i + 1) C hX hbl hbA rfl (by omega) (by omega) dL_law_2500 rfl ?_
  refine pv_aload_n (q := 2502) C dL_law_2501 rfl rfl rfl ?_
  refine pv_iload (q := 2504) C dL_law_2502 rfl rfl ?_
  refine pv_iconst (q := 2505) (v := 2) C dL_law_2504 rfl (by decide) ?_
  refine pv_iaddN (q := 2506) (a := i) (b := 2) C rfl rfl dL_law_2505 rfl ?_
  refine pv_sld (q := 2507) (j := i + 2) C hX hbl hbA rfl (by omega) (by omega) dL_law_2506 rfl ?_
  refine pv_aload_n (q := 2508) C dL_law_2507 rfl rfl rfl ?_
  refine pv_callL (q := 2511) C Z hNC hKl (c_L_medianInTable l X D P hfl D W h (xs (i + 1)) (xs (i + 2))) tw_963 mw_L_medianInTable ⟨rfl, rfl⟩ (by rw [hKR]; exact ⟨Nat.le_of_ble_eq_true rfl, Nat.le_of_ble_eq_true rfl⟩) (by rw [hKR, room_c.1, room_c.2]; constructor <;> omega) rfl rfl rfl (by decide) dL_law_2508 rfl (fun r5 D1 P1 hw => ?_)
  have hFX := hw.2.1
  refine pv_istore (q := 2513) C dL_law_2511 rfl (Nat.le_of_ble_eq_true rfl) rfl ?_
  refine pv_aload_n (q := 2514) C dL_law_2513 rfl rfl rfl ?_
  refine pv_aload_n (q := 2515) C dL_law_2514 rfl rfl rfl ?_
  refine pv_iload (q := 2517) C dL_law_2515 rfl rfl ?_
  refine pv_iconst (q := 2518) (v := 1) C dL_law_2517 rfl (by decide) ?_
  refine pv_iaddN (q := 2519) (a := i) (b := 1) C rfl rfl dL_law_2518 rfl ?_
  refine pv_sld (q := 2520) (j := i + 1) C hX hbl hbA rfl (by omega) (by omega) dL_law_2519 rfl ?_
  refine pv_aload_n (q := 2521) C dL_law_2520 rfl rfl rfl ?_
  refine pv_iload (q := 2523) C dL_law_2521 rfl rfl ?_
  refine pv_iconst (q := 2524) (v := 2) C dL_law_2523 rfl (by decide) ?_
  refine pv_iaddN (q := 2525) (a := i) (b := 2) C rfl rfl dL_law_2524 rfl ?_
  refine pv_sld (q := 2526) (j := i + 2) C hX hbl hbA rfl (by omega) (by omega) dL_law_2525 rfl ?_
  have e6 := hFX 6 (by decide) (by decide)
  have e7 := hFX 7 (by decide) (by decide)
  have e9 := hFX 9 (by decide) (by decide)
  have e12 := hFX 12 (by decide) (by decide)
  refine pv_callVi (q := 2529) C hKl (c_X7_medianInTable l X D1 P1 (xs (i + 1)) (xs (i + 2))) tw_1417 (show kd 6 = 7 from rfl) (by decide) rfl mm_X7_medianInTable ⟨rfl, rfl⟩ (by rw [hKR]; exact ⟨Nat.le_of_ble_eq_true rfl, Nat.le_of_ble_eq_true rfl⟩) (by rw [hKR, room_c.1, room_c.2]; constructor <;> omega) rfl rfl rfl (Nat.le_of_ble_eq_true rfl) dL_law_2526 rfl (fun r6 D2 P2 hp => ?_)
  obtain ⟨hp, rfl⟩ := hp
  skip
  try simp only [e6, e7, e9, e12] at hp
  have hm := zMQ_rd hp
  have hnx := law_next hw hm (agr_FX hFX) (off_rf _)
  refine pv_istore (q := 2531) C dL_law_2529 rfl (Nat.le_of_ble_eq_true rfl) rfl ?_
  refine pv_aload_n (q := 2532) C dL_law_2531 rfl rfl rfl ?_
  refine pv_callVi (q := 2535) C hKl (c_X7_thrown l X D2 P1) tw_1041 (show kd 6 = 7 from rfl) (by decide) rfl mm_X7_thrown ⟨rfl, rfl⟩ (by rw [hKR]; exact ⟨Nat.le_of_ble_eq_true rfl, Nat.le_of_ble_eq_true rfl⟩) (by rw [hKR, room_c.1, room_c.2]; constructor <;> omega) rfl rfl rfl (by decide) dL_law_2532 rfl (fun r7 D3 P3 hp3 => ?_)
  obtain ⟨rfl, rfl, rfl⟩ := hp3
  refine pv_iload (q := 2537) C dL_law_2535 rfl rfl ?_
  refine pv_icmp_eq (q := 2540) (tgt := 2542) C dL_law_2537 (by decide) rfl (fun _ => ?_) (fun z => absurd (hm.1.trans hw.1.symm) z)
  refine pv_iload (q := 2544) C dL_law_2542 rfl rfl ?_
  refine pv_if_ne (q := 2547) (tgt := 2559) C dL_law_2544 (by decide) rfl (fun c0 => ?_) (fun c0 => ?_)
  ·
    refine pv_goto (tgt := 2865) C dL_law_2559 (by decide) ?_
    exact PV_widen (ce' := ce + 171) (sl' := sl + 1026) (by omega) (by omega) (PV_le (tl D2 P1 (hnx)) ⟨Or.inr rfl, Or.inr rfl, Or.inr rfl, Or.inr rfl, Or.inr rfl, Or.inl rfl, Or.inl rfl, Or.inl rfl, Or.inl rfl, trivial⟩)
  ·
    obtain ⟨hk0, hv⟩ := WQ_v hw c0
    have hr6 := hm.2.1 hk0
    refine pv_aload_n (q := 2548) C dL_law_2547 rfl rfl rfl ?_
    refine pv_iconst (q := 2549) (v := 0) C dL_law_2548 rfl (by decide) ?_
    refine pv_lald (q := 2550) C rfl dL_law_2549 rfl ?_
    refine pv_iload (q := 2552) C dL_law_2550 rfl rfl ?_
    refine pv_i2l (q := 2553) C dL_law_2552 rfl ?_
    refine pv_lcmp (q := 2554) C dL_law_2553 rfl ?_
    refine pv_if_eq (q := 2557) (tgt := 2559) C dL_law_2554 (by decide) rfl (fun _ => ?_) (fun z => absurd (lg_eq (hv.trans (congrArg Int32.toInt64 hr6.symm))) z)
    refine pv_goto (tgt := 2865) C dL_law_2559 (by decide) ?_
    exact PV_widen (ce' := ce + 171) (sl' := sl + 1026) (by omega) (by omega) (PV_le (tl D2 P1 (hnx)) ⟨Or.inr rfl, Or.inr rfl, Or.inr rfl, Or.inr rfl, Or.inr rfl, Or.inl rfl, Or.inl rfl, Or.inl rfl, Or.inl rfl, trivial⟩)
set_option maxRecDepth 100000 in
set_option maxHeartbeats 4000000 in
theorem law_47 (l : Launch) (K : KT) (X : XT) (b L : Nat) (xs : Nat → Int32) (hC : LC l K X b L xs) (Q : State → Prop) (ce sl i W : Nat) (D : DT) (P : PT) (hi : i + 4 ≤ L) (h : RI D P D W) (hW : W + 200 < 2 ^ 29) (hce : ce + 171 ≤ 601024) (hsl : sl + 1026 ≤ 7293034) (tl : ∀ (D2 : DT) (P2 : PT), RI D2 P2 D2 (W + 130) → PV K X Q (ce + 171) (sl + 1026) 2865 [some (.ref b), some (.ref (X.2.2 0)), some (.ref (X.2.2 6)), some (.ref (X.2.2 13)), some (.int (nI i)), none, none, none, none] [] D2 P2) : PV K X Q ce sl 2562 [some (.ref b), some (.ref (X.2.2 0)), some (.ref (X.2.2 6)), some (.ref (X.2.2 13)), some (.int (nI i)), none, none, none, none] [] D P := by
  obtain ⟨hKl, hKR, C, Z, hNC, hfl, hX, hbl, hbA, hL⟩ := hC
  obtain ⟨⟨s, hs5, hs3⟩, hf0, hd0, hse0, hsk0, n, hn60, hn9⟩ := law_pre h hW
  refine pv_aload_n (q := 2563) C dL_law_2562 rfl rfl rfl ?_
  refine pv_aload_n (q := 2564) C dL_law_2563 rfl rfl rfl ?_
  refine pv_iload (q := 2566) C dL_law_2564 rfl rfl ?_
  refine pv_iconst (q := 2567) (v := 1) C dL_law_2566 rfl (by decide) ?_
  refine pv_iaddN (q := 2568) (a := i) (b := 1) C rfl rfl dL_law_2567 rfl ?_
  refine pv_sld (q := 2569) (j := i + 1) C hX hbl hbA rfl (by omega) (by omega) dL_law_2568 rfl ?_
  refine pv_aload_n (q := 2570) C dL_law_2569 rfl rfl rfl ?_
  refine pv_iload (q := 2572) C dL_law_2570 rfl rfl ?_
  refine pv_iconst (q := 2573) (v := 2) C dL_law_2572 rfl (by decide) ?_
  refine pv_iaddN (q := 2574) (a := i) (b := 2) C rfl rfl dL_law_2573 rfl ?_
  refine pv_sld (q := 2575) (j := i + 2) C hX hbl hbA rfl (by omega) (by omega) dL_law_2574 rfl ?_
  refine pv_aload_n (q := 2576) C dL_law_2575 rfl rfl rfl ?_
  refine pv_iload (q := 2578) C dL_law_2576 rfl rfl ?_
  refine pv_iconst (q := 2579) (v := 3) C dL_law_2578 rfl (by decide) ?_
  refine pv_iaddN (q := 2580) (a := i) (b := 3) C rfl rfl dL_law_2579 rfl ?_
  refine pv_sld (q := 2581) (j := i + 3) C hX hbl hbA rfl (by omega) (by omega) dL_law_2580 rfl ?_
  refine pv_aload_n (q := 2582) C dL_law_2581 rfl rfl rfl ?_
  refine pv_callL (q := 2585) C Z hNC hKl (c_L_rankInTable l X D P hfl D W h (xs (i + 1)) (xs (i + 2)) (xs (i + 3))) tw_970 mw_L_rankInTable ⟨rfl, rfl⟩ (by rw [hKR]; exact ⟨Nat.le_of_ble_eq_true rfl, Nat.le_of_ble_eq_true rfl⟩) (by rw [hKR, room_c.1, room_c.2]; constructor <;> omega) rfl rfl rfl (by decide) dL_law_2582 rfl (fun r5 D1 P1 hw => ?_)
  have hFX := hw.2.1
  refine pv_istore (q := 2587) C dL_law_2585 rfl (Nat.le_of_ble_eq_true rfl) rfl ?_
  refine pv_aload_n (q := 2588) C dL_law_2587 rfl rfl rfl ?_
  refine pv_aload_n (q := 2589) C dL_law_2588 rfl rfl rfl ?_
  refine pv_iload (q := 2591) C dL_law_2589 rfl rfl ?_
  refine pv_iconst (q := 2592) (v := 1) C dL_law_2591 rfl (by decide) ?_
  refine pv_iaddN (q := 2593) (a := i) (b := 1) C rfl rfl dL_law_2592 rfl ?_
  refine pv_sld (q := 2594) (j := i + 1) C hX hbl hbA rfl (by omega) (by omega) dL_law_2593 rfl ?_
  refine pv_aload_n (q := 2595) C dL_law_2594 rfl rfl rfl ?_
  refine pv_iload (q := 2597) C dL_law_2595 rfl rfl ?_
  refine pv_iconst (q := 2598) (v := 2) C dL_law_2597 rfl (by decide) ?_
  refine pv_iaddN (q := 2599) (a := i) (b := 2) C rfl rfl dL_law_2598 rfl ?_
  refine pv_sld (q := 2600) (j := i + 2) C hX hbl hbA rfl (by omega) (by omega) dL_law_2599 rfl ?_
  refine pv_aload_n (q := 2601) C dL_law_2600 rfl rfl rfl ?_
  refine pv_iload (q := 2603) C dL_law_2601 rfl rfl ?_
  refine pv_iconst (q := 2604) (v := 3) C dL_law_2603 rfl (by decide) ?_
  refine pv_iaddN (q := 2605) (a := i) (b := 3) C rfl rfl dL_law_2604 rfl ?_
  refine pv_sld (q := 2606) (j := i + 3) C hX hbl hbA rfl (by omega) (by omega) dL_law_2605 rfl ?_
  have e6 := hFX 6 (by decide) (by decide)
  have e7 := hFX 7 (by decide) (by decide)
  have e9 := hFX 9 (by decide) (by decide)
  have e12 := hFX 12 (by decide) (by decide)
  refine pv_callVi (q := 2609) C hKl (c_X7_rankInTable l X D1 P1 (xs (i + 1)) (xs (i + 2)) (xs (i + 3))) tw_1421 (show kd 6 = 7 from rfl) (by decide) rfl mm_X7_rankInTable ⟨rfl, rfl⟩ (by rw [hKR]; exact ⟨Nat.le_of_ble_eq_true rfl, Nat.le_of_ble_eq_true rfl⟩) (by rw [hKR, room_c.1, room_c.2]; constructor <;> omega) rfl rfl rfl (Nat.le_of_ble_eq_true rfl) dL_law_2606 rfl (fun r6 D2 P2 hp => ?_)
  obtain ⟨hp, rfl⟩ := hp
  skip
  try simp only [e6, e7, e9, e12] at hp
  have hm := zMQ_rd hp
  have hnx := law_next hw hm (agr_FX hFX) (off_rf _)
  refine pv_istore (q := 2611) C dL_law_2609 rfl (Nat.le_of_ble_eq_true rfl) rfl ?_
  refine pv_aload_n (q := 2612) C dL_law_2611 rfl rfl rfl ?_
  refine pv_callVi (q := 2615) C hKl (c_X7_thrown l X D2 P1) tw_1041 (show kd 6 = 7 from rfl) (by decide) rfl mm_X7_thrown ⟨rfl, rfl⟩ (by rw [hKR]; exact ⟨Nat.le_of_ble_eq_true rfl, Nat.le_of_ble_eq_true rfl⟩) (by rw [hKR, room_c.1, room_c.2]; constructor <;> omega) rfl rfl rfl (by decide) dL_law_2612 rfl (fun r7 D3 P3 hp3 => ?_)
  obtain ⟨rfl, rfl, rfl⟩ := hp3
  refine pv_iload (q := 2617) C dL_law_2615 rfl rfl ?_
  refine pv_icmp_eq (q := 2620) (tgt := 2622) C dL_law_2617 (by decide) rfl (fun _ => ?_) (fun z => absurd (hm.1.trans hw.1.symm) z)
  refine pv_iload (q := 2624) C dL_law_2622 rfl rfl ?_
  refine pv_if_ne (q := 2627) (tgt := 2639) C dL_law_2624 (by decide) rfl (fun c0 => ?_) (fun c0 => ?_)
  ·
    refine pv_goto (tgt := 2865) C dL_law_2639 (by decide) ?_
    exact PV_widen (ce' := ce + 171) (sl' := sl + 1026) (by omega) (by omega) (PV_le (tl D2 P1 (hnx)) ⟨Or.inr rfl, Or.inr rfl, Or.inr rfl, Or.inr rfl, Or.inr rfl, Or.inl rfl, Or.inl rfl, Or.inl rfl, Or.inl rfl, trivial⟩)
  ·
    obtain ⟨hk0, hv⟩ := WQ_v hw c0
    have hr6 := hm.2.1 hk0
    refine pv_aload_n (q := 2628) C dL_law_2627 rfl rfl rfl ?_
    refine pv_iconst (q := 2629) (v := 0) C dL_law_2628 rfl (by decide) ?_
    refine pv_lald (q := 2630) C rfl dL_law_2629 rfl ?_
    refine pv_iload (q := 2632) C dL_law_2630 rfl rfl ?_
    refine pv_i2l (q := 2633) C dL_law_2632 rfl ?_
    refine pv_lcmp (q := 2634) C dL_law_2633 rfl ?_
    refine pv_if_eq (q := 2637) (tgt := 2639) C dL_law_2634 (by decide) rfl (fun _ => ?_) (fun z => absurd (lg_eq (hv.trans (congrArg Int32.toInt64 hr6.symm))) z)
    refine pv_goto (tgt := 2865) C dL_law_2639 (by decide) ?_
    exact PV_widen (ce' := ce + 171) (sl' := sl + 1026) (by omega) (by omega) (PV_le (tl D2 P1 (hnx)) ⟨Or.inr rfl, Or.inr rfl, Or.inr rfl, Or.inr rfl, Or.inr rfl, Or.inl rfl, Or.inl rfl, Or.inl rfl, Or.inl rfl, trivial⟩)
set_option maxRecDepth 100000 in
set_option maxHeartbeats 4000000 in
theorem law_48 (l : Launch) (K : KT) (X : XT) (b L : Nat) (xs : Nat → Int32) (hC : LC l K X b L xs) (Q : State → Prop) (ce sl i W : Nat) (D : DT) (P : PT) (hi : i + 4 ≤ L) (h : RI D P D W) (hW : W + 200 < 2 ^ 29) (hce : ce + 171 ≤ 601024) (hsl : sl + 1026 ≤ 7293034) (tl : ∀ (D2 : DT) (P2 : PT), RI D2 P2 D2 (W + 130) → PV K X Q (ce + 171) (sl + 1026) 2865 [some (.ref b), some (.ref (X.2.2 0)), some (.ref (X.2.2 6)), some (.ref (X.2.2 13)), some (.int (nI i)), none, none, none, none] [] D2 P2) : PV K X Q ce sl 2642 [some (.ref b), some (.ref (X.2.2 0)), some (.ref (X.2.2 6)), some (.ref (X.2.2 13)), some (.int (nI i)), none, none, none, none] [] D P := by
  obtain ⟨hKl, hKR, C, Z, hNC, hfl, hX, hbl, hbA, hL⟩ := hC
  obtain ⟨⟨s, hs5, hs3⟩, hf0, hd0, hse0, hsk0, n, hn60, hn9⟩ := law_pre h hW
  refine pv_aload_n (q := 2643) C dL_law_2642 rfl rfl rfl ?_
  refine pv_aload_n (q := 2644) C dL_law_2643 rfl rfl rfl ?_
  refine pv_iload (q := 2646) C dL_law_2644 rfl rfl ?_
  refine pv_iconst (q := 2647) (v := 1) C dL_law_2646 rfl (by decide) ?_
  refine pv_iaddN (q := 2648) (a := i) (b := 1) C rfl rfl dL_law_2647 rfl ?_
  refine pv_sld (q := 2649) (j := i + 1) C hX hbl hbA rfl (by omega) (by omega) dL_law_2648 rfl ?_
  refine pv_aload_n (q := 2650) C dL_law_2649 rfl rfl rfl ?_
  refine pv_callL (q := 2653) C Z hNC hKl (c_L_unlikeGroups l X D P hfl D W h (xs (i + 1))) tw_977 mw_L_unlikeGroups ⟨rfl, rfl⟩ (by rw [hKR]; exact ⟨Nat.le_of_ble_eq_true rfl, Nat.le_of_ble_eq_true rfl⟩) (by rw [hKR, room_c.1, room_c.2]; constructor <;> omega) rfl rfl rfl (by decide) dL_law_2650 rfl (fun r5 D1 P1 hw => ?_)
  have hFX := hw.2.1
  refine pv_istore (q := 2655) C dL_law_2653 rfl (Nat.le_of_ble_eq_true rfl) rfl ?_
  refine pv_aload_n (q := 2656) C dL_law_2655 rfl rfl rfl ?_
  refine pv_aload_n (q := 2657) C dL_law_2656 rfl rfl rfl ?_
  refine pv_iload (q := 2659) C dL_law_2657 rfl rfl ?_
  refine pv_iconst (q := 2660) (v := 1) C dL_law_2659 rfl (by decide) ?_
  refine pv_iaddN (q := 2661) (a := i) (b := 1) C rfl rfl dL_law_2660 rfl ?_
  refine pv_sld (q := 2662) (j := i + 1) C hX hbl hbA rfl (by omega) (by omega) dL_law_2661 rfl ?_
  have e6 := hFX 6 (by decide) (by decide)
  have e7 := hFX 7 (by decide) (by decide)
  have e9 := hFX 9 (by decide) (by decide)
  have e12 := hFX 12 (by decide) (by decide)
  refine pv_callVi (q := 2665) C hKl (c_X7_unlikeGroups l X D1 P1 (xs (i + 1))) tw_1425 (show kd 6 = 7 from rfl) (by decide) rfl mm_X7_unlikeGroups ⟨rfl, rfl⟩ (by rw [hKR]; exact ⟨Nat.le_of_ble_eq_true rfl, Nat.le_of_ble_eq_true rfl⟩) (by rw [hKR, room_c.1, room_c.2]; constructor <;> omega) rfl rfl rfl (Nat.le_of_ble_eq_true rfl) dL_law_2662 rfl (fun r6 D2 P2 hp => ?_)
  obtain ⟨hp, rfl⟩ := hp
  skip
  try simp only [e6, e7, e9, e12] at hp
  have hm := zMQ_rd hp
  have hnx := law_next hw hm (agr_FX hFX) (off_rf _)
  refine pv_istore (q := 2667) C dL_law_2665 rfl (Nat.le_of_ble_eq_true rfl) rfl ?_
  refine pv_aload_n (q := 2668) C dL_law_2667 rfl rfl rfl ?_
  refine pv_callVi (q := 2671) C hKl (c_X7_thrown l X D2 P1) tw_1041 (show kd 6 = 7 from rfl) (by decide) rfl mm_X7_thrown ⟨rfl, rfl⟩ (by rw [hKR]; exact ⟨Nat.le_of_ble_eq_true rfl, Nat.le_of_ble_eq_true rfl⟩) (by rw [hKR, room_c.1, room_c.2]; constructor <;> omega) rfl rfl rfl (by decide) dL_law_2668 rfl (fun r7 D3 P3 hp3 => ?_)
  obtain ⟨rfl, rfl, rfl⟩ := hp3
  refine pv_iload (q := 2673) C dL_law_2671 rfl rfl ?_
  refine pv_icmp_eq (q := 2676) (tgt := 2678) C dL_law_2673 (by decide) rfl (fun _ => ?_) (fun z => absurd (hm.1.trans hw.1.symm) z)
  refine pv_iload (q := 2680) C dL_law_2678 rfl rfl ?_
  refine pv_if_ne (q := 2683) (tgt := 2695) C dL_law_2680 (by decide) rfl (fun c0 => ?_) (fun c0 => ?_)
  ·
    refine pv_goto (tgt := 2865) C dL_law_2695 (by decide) ?_
    exact PV_widen (ce' := ce + 171) (sl' := sl + 1026) (by omega) (by omega) (PV_le (tl D2 P1 (hnx)) ⟨Or.inr rfl, Or.inr rfl, Or.inr rfl, Or.inr rfl, Or.inr rfl, Or.inl rfl, Or.inl rfl, Or.inl rfl, Or.inl rfl, trivial⟩)
  ·
    obtain ⟨hk0, hv⟩ := WQ_v hw c0
    have hr6 := hm.2.1 hk0
    refine pv_aload_n (q := 2684) C dL_law_2683 rfl rfl rfl ?_
    refine pv_iconst (q := 2685) (v := 0) C dL_law_2684 rfl (by decide) ?_
    refine pv_lald (q := 2686) C rfl dL_law_2685 rfl ?_
    refine pv_iload (q := 2688) C dL_law_2686 rfl rfl ?_
    refine pv_i2l (q := 2689) C dL_law_2688 rfl ?_
    refine pv_lcmp (q := 2690) C dL_law_2689 rfl ?_
    refine pv_if_eq (q := 2693) (tgt := 2695) C dL_law_2690 (by decide) rfl (fun _ => ?_) (fun z => absurd (lg_eq (hv.trans (congrArg Int32.toInt64 hr6.symm))) z)
    refine pv_goto (tgt := 2865) C dL_law_2695 (by decide) ?_
    exact PV_widen (ce' := ce + 171) (sl' := sl + 1026) (by omega) (by omega) (PV_le (tl D2 P1 (hnx)) ⟨Or.inr rfl, Or.inr rfl, Or.inr rfl, Or.inr rfl, Or.inr rfl, Or.inl rfl, Or.inl rfl, Or.inl rfl, Or.inl rfl, trivial⟩)
set_option maxRecDepth 100000 in
set_option maxHeartbeats 4000000 in
theorem law_49 (l : Launch) (K : KT) (X : XT) (b L : Nat) (xs : Nat → Int32) (hC : LC l K X b L xs) (Q : State → Prop) (ce sl i W : Nat) (D : DT) (P : PT) (hi : i + 4 ≤ L) (h : RI D P D W) (hW : W + 200 < 2 ^ 29) (hce : ce + 171 ≤ 601024) (hsl : sl + 1026 ≤ 7293034) (tl : ∀ (D2 : DT) (P2 : PT), RI D2 P2 D2 (W + 130) → PV K X Q (ce + 171) (sl + 1026) 2865 [some (.ref b), some (.ref (X.2.2 0)), some (.ref (X.2.2 6)), some (.ref (X.2.2 13)), some (.int (nI i)), none, none, none, none] [] D2 P2) : PV K X Q ce sl 2698 [some (.ref b), some (.ref (X.2.2 0)), some (.ref (X.2.2 6)), some (.ref (X.2.2 13)), some (.int (nI i)), none, none, none, none] [] D P := by
  obtain ⟨hKl, hKR, C, Z, hNC, hfl, hX, hbl, hbA, hL⟩ := hC
  obtain ⟨⟨s, hs5, hs3⟩, hf0, hd0, hse0, hsk0, n, hn60, hn9⟩ := law_pre h hW
  refine pv_aload_n (q := 2699) C dL_law_2698 rfl rfl rfl ?_
  refine pv_aload_n (q := 2700) C dL_law_2699 rfl rfl rfl ?_
  refine pv_iload (q := 2702) C dL_law_2700 rfl rfl ?_
  refine pv_iconst (q := 2703) (v := 1) C dL_law_2702 rfl (by decide) ?_
  refine pv_iaddN (q := 2704) (a := i) (b := 1) C rfl rfl dL_law_2703 rfl ?_
  refine pv_sld (q := 2705) (j := i + 1) C hX hbl hbA rfl (by omega) (by omega) dL_law_2704 rfl ?_
  refine pv_aload_n (q := 2706) C dL_law_2705 rfl rfl rfl ?_
  refine pv_callL (q := 2709) C Z hNC hKl (c_L_unlikeIfWoken l X D P hfl D W h (xs (i + 1))) tw_981 mw_L_unlikeIfWoken ⟨rfl, rfl⟩ (by rw [hKR]; exact ⟨Nat.le_of_ble_eq_true rfl, Nat.le_of_ble_eq_true rfl⟩) (by rw [hKR, room_c.1, room_c.2]; constructor <;> omega) rfl rfl rfl (by decide) dL_law_2706 rfl (fun r5 D1 P1 hw => ?_)
  have hFX := hw.2.1
  refine pv_istore (q := 2711) C dL_law_2709 rfl (Nat.le_of_ble_eq_true rfl) rfl ?_
  refine pv_aload_n (q := 2712) C dL_law_2711 rfl rfl rfl ?_
  refine pv_aload_n (q := 2713) C dL_law_2712 rfl rfl rfl ?_
  refine pv_iload (q := 2715) C dL_law_2713 rfl rfl ?_
  refine pv_iconst (q := 2716) (v := 1) C dL_law_2715 rfl (by decide) ?_
  refine pv_iaddN (q := 2717) (a := i) (b := 1) C rfl rfl dL_law_2716 rfl ?_
  refine pv_sld (q := 2718) (j := i + 1) C hX hbl hbA rfl (by omega) (by omega) dL_law_2717 rfl ?_
  have e6 := hFX 6 (by decide) (by decide)
  have e7 := hFX 7 (by decide) (by decide)
  have e9 := hFX 9 (by decide) (by decide)
  have e12 := hFX 12 (by decide) (by decide)
  refine pv_callVi (q := 2721) C hKl (c_X7_unlikeIfWoken l X D1 P1 (xs (i + 1))) tw_1433 (show kd 6 = 7 from rfl) (by decide) rfl mm_X7_unlikeIfWoken ⟨rfl, rfl⟩ (by rw [hKR]; exact ⟨Nat.le_of_ble_eq_true rfl, Nat.le_of_ble_eq_true rfl⟩) (by rw [hKR, room_c.1, room_c.2]; constructor <;> omega) rfl rfl rfl (Nat.le_of_ble_eq_true rfl) dL_law_2718 rfl (fun r6 D2 P2 hp => ?_)
  obtain ⟨hp, rfl⟩ := hp
  skip
  try simp only [e6, e7, e9, e12] at hp
  have hm := zMQ_rd hp
  have hnx := law_next hw hm (agr_FX hFX) (off_rf _)
  refine pv_istore (q := 2723) C dL_law_2721 rfl (Nat.le_of_ble_eq_true rfl) rfl ?_
  refine pv_aload_n (q := 2724) C dL_law_2723 rfl rfl rfl ?_
  refine pv_callVi (q := 2727) C hKl (c_X7_thrown l X D2 P1) tw_1041 (show kd 6 = 7 from rfl) (by decide) rfl mm_X7_thrown ⟨rfl, rfl⟩ (by rw [hKR]; exact ⟨Nat.le_of_ble_eq_true rfl, Nat.le_of_ble_eq_true rfl⟩) (by rw [hKR, room_c.1, room_c.2]; constructor <;> omega) rfl rfl rfl (by decide) dL_law_2724 rfl (fun r7 D3 P3 hp3 => ?_)
  obtain ⟨rfl, rfl, rfl⟩ := hp3
  refine pv_iload (q := 2729) C dL_law_2727 rfl rfl ?_
  refine pv_icmp_eq (q := 2732) (tgt := 2734) C dL_law_2729 (by decide) rfl (fun _ => ?_) (fun z => absurd (hm.1.trans hw.1.symm) z)
  refine pv_iload (q := 2736) C dL_law_2734 rfl rfl ?_
  refine pv_if_ne (q := 2739) (tgt := 2751) C dL_law_2736 (by decide) rfl (fun c0 => ?_) (fun c0 => ?_)
  ·
    refine pv_goto (tgt := 2865) C dL_law_2751 (by decide) ?_
    exact PV_widen (ce' := ce + 171) (sl' := sl + 1026) (by omega) (by omega) (PV_le (tl D2 P1 (hnx)) ⟨Or.inr rfl, Or.inr rfl, Or.inr rfl, Or.inr rfl, Or.inr rfl, Or.inl rfl, Or.inl rfl, Or.inl rfl, Or.inl rfl, trivial⟩)
  ·
    obtain ⟨hk0, hv⟩ := WQ_v hw c0
    have hr6 := hm.2.1 hk0
    refine pv_aload_n (q := 2740) C dL_law_2739 rfl rfl rfl ?_
    refine pv_iconst (q := 2741) (v := 0) C dL_law_2740 rfl (by decide) ?_
    refine pv_lald (q := 2742) C rfl dL_law_2741 rfl ?_
    refine pv_iload (q := 2744) C dL_law_2742 rfl rfl ?_
    refine pv_i2l (q := 2745) C dL_law_2744 rfl ?_
    refine pv_lcmp (q := 2746) C dL_law_2745 rfl ?_
    refine pv_if_eq (q := 2749) (tgt := 2751) C dL_law_2746 (by decide) rfl (fun _ => ?_) (fun z => absurd (lg_eq (hv.trans (congrArg Int32.toInt64 hr6.symm))) z)
    refine pv_goto (tgt := 2865) C dL_law_2751 (by decide) ?_
    exact PV_widen (ce' := ce + 171) (sl' := sl + 1026) (by omega) (by omega) (PV_le (tl D2 P1 (hnx)) ⟨Or.inr rfl, Or.inr rfl, Or.inr rfl, Or.inr rfl, Or.inr rfl, Or.inl rfl, Or.inl rfl, Or.inl rfl, Or.inl rfl, trivial⟩)
set_option maxRecDepth 100000 in
set_option maxHeartbeats 4000000 in
theorem law_50 (l : Launch) (K : KT) (X : XT) (b L : Nat) (xs : Nat → Int32) (hC : LC l K X b L xs) (Q : State → Prop) (ce sl i W : Nat) (D : DT) (P : PT) (hi : i + 4 ≤ L) (h : RI D P D W) (hW : W + 200 < 2 ^ 29) (hce : ce + 171 ≤ 601024) (hsl : sl + 1026 ≤ 7293034) (tl : ∀ (D2 : DT) (P2 : PT), RI D2 P2 D2 (W + 130) → PV K X Q (ce + 171) (sl + 1026) 2865 [some (.ref b), some (.ref (X.2.2 0)), some (.ref (X.2.2 6)), some (.ref (X.2.2 13)), some (.int (nI i)), none, none, none, none] [] D2 P2) : PV K X Q ce sl 2754 [some (.ref b), some (.ref (X.2.2 0)), some (.ref (X.2.2 6)), some (.ref (X.2.2 13)), some (.int (nI i)), none, none, none, none] [] D P := by
  obtain ⟨hKl, hKR, C, Z, hNC, hfl, hX, hbl, hbA, hL⟩ := hC
  obtain ⟨⟨s, hs5, hs3⟩, hf0, hd0, hse0, hsk0, n, hn60, hn9⟩ := law_pre h hW
  refine pv_aload_n (q := 2755) C dL_law_2754 rfl rfl rfl ?_
  refine pv_aload_n (q := 2756) C dL_law_2755 rfl rfl rfl ?_
  refine pv_iload (q := 2758) C dL_law_2756 rfl rfl ?_
  refine pv_iconst (q := 2759) (v := 1) C dL_law_2758 rfl (by decide) ?_
  refine pv_iaddN (q := 2760) (a := i) (b := 1) C rfl rfl dL_law_2759 rfl ?_
  refine pv_sld (q := 2761) (j := i + 1) C hX hbl hbA rfl (by omega) (by omega) dL_law_2760 rfl ?_
  refine pv_aload_n (q := 2762) C dL_law_2761 rfl rfl rfl ?_
  refine pv_callL (q := 2765) C Z hNC hKl (c_L_wakesIn l X D P hfl D W h (xs (i + 1))) tw_985 mw_L_wakesIn ⟨rfl, rfl⟩ (by rw [hKR]; exact ⟨Nat.le_of_ble_eq_true rfl, Nat.le_of_ble_eq_true rfl⟩) (by rw [hKR, room_c.1, room_c.2]; constructor <;> omega) rfl rfl rfl (by decide) dL_law_2762 rfl (fun r5 D1 P1 hw => ?_)
  have hFX := hw.2.1
  refine pv_istore (q := 2767) C dL_law_2765 rfl (Nat.le_of_ble_eq_true rfl) rfl ?_
  refine pv_aload_n (q := 2768) C dL_law_2767 rfl rfl rfl ?_
  refine pv_aload_n (q := 2769) C dL_law_2768 rfl rfl rfl ?_
  refine pv_iload (q := 2771) C dL_law_2769 rfl rfl ?_
  refine pv_iconst (q := 2772) (v := 1) C dL_law_2771 rfl (by decide) ?_
  refine pv_iaddN (q := 2773) (a := i) (b := 1) C rfl rfl dL_law_2772 rfl ?_
  refine pv_sld (q := 2774) (j := i + 1) C hX hbl hbA rfl (by omega) (by omega) dL_law_2773 rfl ?_
  have e6 := hFX 6 (by decide) (by decide)
  have e7 := hFX 7 (by decide) (by decide)
  have e9 := hFX 9 (by decide) (by decide)
  have e12 := hFX 12 (by decide) (by decide)
  refine pv_callVi (q := 2777) C hKl (c_X7_wakesIn l X D1 P1 (xs (i + 1))) tw_1437 (show kd 6 = 7 from rfl) (by decide) rfl mm_X7_wakesIn ⟨rfl, rfl⟩ (by rw [hKR]; exact ⟨Nat.le_of_ble_eq_true rfl, Nat.le_of_ble_eq_true rfl⟩) (by rw [hKR, room_c.1, room_c.2]; constructor <;> omega) rfl rfl rfl (Nat.le_of_ble_eq_true rfl) dL_law_2774 rfl (fun r6 D2 P2 hp => ?_)
  obtain ⟨hp, rfl⟩ := hp
  skip
  try simp only [e6, e7, e9, e12] at hp
  have hm := zMQ_rd hp
  have hnx := law_next hw hm (agr_FX hFX) (off_rf _)
  refine pv_istore (q := 2779) C dL_law_2777 rfl (Nat.le_of_ble_eq_true rfl) rfl ?_
  refine pv_aload_n (q := 2780) C dL_law_2779 rfl rfl rfl ?_
  refine pv_callVi (q := 2783) C hKl (c_X7_thrown l X D2 P1) tw_1041 (show kd 6 = 7 from rfl) (by decide) rfl mm_X7_thrown ⟨rfl, rfl⟩ (by rw [hKR]; exact ⟨Nat.le_of_ble_eq_true rfl, Nat.le_of_ble_eq_true rfl⟩) (by rw [hKR, room_c.1, room_c.2]; constructor <;> omega) rfl rfl rfl (by decide) dL_law_2780 rfl (fun r7 D3 P3 hp3 => ?_)
  obtain ⟨rfl, rfl, rfl⟩ := hp3
  refine pv_iload (q := 2785) C dL_law_2783 rfl rfl ?_
  refine pv_icmp_eq (q := 2788) (tgt := 2790) C dL_law_2785 (by decide) rfl (fun _ => ?_) (fun z => absurd (hm.1.trans hw.1.symm) z)
  refine pv_iload (q := 2792) C dL_law_2790 rfl rfl ?_
  refine pv_if_ne (q := 2795) (tgt := 2807) C dL_law_2792 (by decide) rfl (fun c0 => ?_) (fun c0 => ?_)
  ·
    refine pv_goto (tgt := 2865) C dL_law_2807 (by decide) ?_
    exact PV_widen (ce' := ce + 171) (sl' := sl + 1026) (by omega) (by omega) (PV_le (tl D2 P1 (hnx)) ⟨Or.inr rfl, Or.inr rfl, Or.inr rfl, Or.inr rfl, Or.inr rfl, Or.inl rfl, Or.inl rfl, Or.inl rfl, Or.inl rfl, trivial⟩)
  ·
    obtain ⟨hk0, hv⟩ := WQ_v hw c0
    have hr6 := hm.2.1 hk0
    refine pv_aload_n (q := 2796) C dL_law_2795 rfl rfl rfl ?_
    refine pv_iconst (q := 2797) (v := 0) C dL_law_2796 rfl (by decide) ?_
    refine pv_lald (q := 2798) C rfl dL_law_2797 rfl ?_
    refine pv_iload (q := 2800) C dL_law_2798 rfl rfl ?_
    refine pv_i2l (q := 2801) C dL_law_2800 rfl ?_
    refine pv_lcmp (q := 2802) C dL_law_2801 rfl ?_
    refine pv_if_eq (q := 2805) (tgt := 2807) C dL_law_2802 (by decide) rfl (fun _ => ?_) (fun z => absurd (lg_eq (hv.trans (congrArg Int32.toInt64 hr6.symm))) z)
    refine pv_goto (tgt := 2865) C dL_law_2807 (by decide) ?_
    exact PV_widen (ce' := ce + 171) (sl' := sl + 1026) (by omega) (by omega) (PV_le (tl D2 P1 (hnx)) ⟨Or.inr rfl, Or.inr rfl, Or.inr rfl, Or.inr rfl, Or.inr rfl, Or.inl rfl, Or.inl rfl, Or.inl rfl, Or.inl rfl, trivial⟩)
set_option maxRecDepth 100000 in
set_option maxHeartbeats 4000000 in
theorem law_51 (l : Launch) (K : KT) (X : XT) (b L : Nat) (xs : Nat → Int32) (hC : LC l K X b L xs) (Q : State → Prop) (ce sl i W : Nat) (D : DT) (P : PT) (hi : i + 4 ≤ L) (h : RI D P D W) (hW : W + 200 < 2 ^ 29) (hce : ce + 171 ≤ 601024) (hsl : sl + 1026 ≤ 7293034) (tl : ∀ (D2 : DT) (P2 : PT), RI D2 P2 D2 (W + 130) → PV K X Q (ce + 171) (sl + 1026) 2865 [some (.ref b), some (.ref (X.2.2 0)), some (.ref (X.2.2 6)), some (.ref (X.2.2 13)), some (.int (nI i)), none, none, none, none] [] D2 P2) : PV K X Q ce sl 2810 [some (.ref b), some (.ref (X.2.2 0)), some (.ref (X.2.2 6)), some (.ref (X.2.2 13)), some (.int (nI i)), none, none, none, none] [] D P := by
  obtain ⟨hKl, hKR, C, Z, hNC, hfl, hX, hbl, hbA, hL⟩ := hC
  obtain ⟨⟨s, hs5, hs3⟩, hf0, hd0, hse0, hsk0, n, hn60, hn9⟩ := law_pre h hW
  refine pv_aload_n (q := 2811) C dL_law_2810 rfl rfl rfl ?_
  refine pv_callVd (q := 2814) C hKl (c_X6_behindShare l X D P D W h) tw_340 (show kd 0 = 6 from rfl) (by decide) rfl mm_X6_behindShare ⟨rfl, rfl⟩ (by rw [hKR]; exact ⟨Nat.le_of_ble_eq_true rfl, Nat.le_of_ble_eq_true rfl⟩) (by rw [hKR, room_c.1, room_c.2]; constructor <;> omega) rfl rfl rfl (by decide) dL_law_2811 rfl (fun r5 D1 P1 hc => ?_)
  obtain ⟨hr, rfl, rfl⟩ := hc
  have hFX : FX D D := fun _ _ _ => rfl
  have hw : WQ 0 P.2 D D D W 0 D P := ⟨rfl, hFX, Or.inl ⟨rfl, rfl, RI_W h (by omega)⟩⟩
  refine pv_dstore (q := 2816) C dL_law_2814 rfl (Nat.le_of_ble_eq_true rfl) rfl ?_
  refine pv_aload_n (q := 2817) C dL_law_2816 rfl rfl rfl ?_
  have e6 := hFX 6 (by decide) (by decide)
  have e7 := hFX 7 (by decide) (by decide)
  have e9 := hFX 9 (by decide) (by decide)
  have e12 := hFX 12 (by decide) (by decide)
  refine pv_callVd (q := 2820) C hKl (c_X7_behindShare l X D P (by rw [e7]; exact hsk0)) tw_1445 (show kd 6 = 7 from rfl) (by decide) rfl mm_X7_behindShare ⟨rfl, rfl⟩ (by rw [hKR]; exact ⟨Nat.le_of_ble_eq_true rfl, Nat.le_of_ble_eq_true rfl⟩) (by rw [hKR, room_c.1, room_c.2]; constructor <;> omega) rfl rfl rfl (Nat.le_of_ble_eq_true rfl) dL_law_2817 rfl (fun r6 D2 P2 hp => ?_)
  obtain ⟨hp, rfl⟩ := hp
  skip
  try simp only [e6, e7, e9, e12] at hp
  have hm := zMQ_rd hp
  have hnx := law_next hw hm (agr_FX hFX) (off_rf _)
  have hr6 := hm.2.1 rfl
  refine pv_dstore (q := 2822) C dL_law_2820 rfl (Nat.le_of_ble_eq_true rfl) rfl ?_
  refine pv_dload (q := 2824) C dL_law_2822 rfl rfl ?_
  refine pv_dload (q := 2826) C dL_law_2824 rfl rfl ?_
  refine pv_dcmp (q := 2827) C dL_law_2826 rfl ?_
  have hd : Op.cmpValue (FP.dcmp r5 r6) .l = 0 := by rw [hr, hr6, dcmp_sh (shr_O hsk0)]; rfl
  refine pv_if_eq (q := 2830) (tgt := 2848) C dL_law_2827 (by decide) rfl (fun _ => ?_) (fun z => absurd hd z)
  refine pv_goto (tgt := 2865) C dL_law_2848 (by decide) ?_
  exact PV_widen (ce' := ce + 171) (sl' := sl + 1026) (by omega) (by omega) (PV_le (tl D2 P (hnx)) ⟨Or.inr rfl, Or.inr rfl, Or.inr rfl, Or.inr rfl, Or.inr rfl, Or.inl rfl, Or.inl rfl, Or.inl rfl, Or.inl rfl, trivial⟩)
set_option maxRecDepth 100000 in
set_option maxHeartbeats 4000000 in
theorem law_52 (l : Launch) (K : KT) (X : XT) (b L : Nat) (xs : Nat → Int32) (hC : LC l K X b L xs) (Q : State → Prop) (ce sl i W : Nat) (D : DT) (P : PT) (hi : i + 4 ≤ L) (h : RI D P D W) (hW : W + 200 < 2 ^ 29) (hce : ce + 171 ≤ 601024) (hsl : sl + 1026 ≤ 7293034) (tl : ∀ (D2 : DT) (P2 : PT), RI D2 P2 D2 (W + 130) → PV K X Q (ce + 171) (sl + 1026) 2865 [some (.ref b), some (.ref (X.2.2 0)), some (.ref (X.2.2 6)), some (.ref (X.2.2 13)), some (.int (nI i)), none, none, none, none] [] D2 P2) : PV K X Q ce sl 2851 [some (.ref b), some (.ref (X.2.2 0)), some (.ref (X.2.2 6)), some (.ref (X.2.2 13)), some (.int (nI i)), none, none, none, none] [] D P := by
  obtain ⟨hKl, hKR, C, Z, hNC, hfl, hX, hbl, hbA, hL⟩ := hC
  obtain ⟨⟨s, hs5, hs3⟩, hf0, hd0, hse0, hsk0, n, hn60, hn9⟩ := law_pre h hW
  refine pv_aload_n (q := 2852) C dL_law_2851 rfl rfl rfl ?_
  refine pv_callVlF (q := 2855) C Z hKl (c_X6_digest l X D P hfl D W h n hn9 hn60) tw_345 (show kd 0 = 6 from rfl) (by decide) rfl mm_X6_digest ⟨rfl, rfl⟩ (by rw [hKR]; exact ⟨Nat.le_of_ble_eq_true rfl, Nat.le_of_ble_eq_true rfl⟩) (by rw [hKR, room_c.1, room_c.2]; constructor <;> omega) rfl rfl rfl (by decide) dL_law_2852 rfl (fun r5 D1 P1 hc => ?_)
  obtain ⟨hr, hFs, rfl⟩ := hc
  have hFX := FX_Fs hFs
  have hw : WQ 0 P.2 D D D W 0 D1 P := ⟨rfl, hFX, Or.inl ⟨rfl, rfl, RI_W (RI_Fs h hFs) (by omega)⟩⟩
  refine pv_aload_n (q := 2856) C dL_law_2855 rfl rfl rfl ?_
  have e6 := hFX 6 (by decide) (by decide)
  have e7 := hFX 7 (by decide) (by decide)
  have e9 := hFX 9 (by decide) (by decide)
  have e12 := hFX 12 (by decide) (by decide)
  refine pv_callVl (q := 2859) C hKl (c_X7_digest l X D1 P n (by rw [e6]; exact hn9) hn60 (by rw [e7]; exact hse0) (by rw [e7]; exact hsk0)) tw_1453 (show kd 6 = 7 from rfl) (by decide) rfl mm_X7_digest ⟨rfl, rfl⟩ (by rw [hKR]; exact ⟨Nat.le_of_ble_eq_true rfl, Nat.le_of_ble_eq_true rfl⟩) (by rw [hKR, room_c.1, room_c.2]; constructor <;> omega) rfl rfl rfl (Nat.le_of_ble_eq_true rfl) dL_law_2856 rfl (fun r6 D2 P2 hp => ?_)
  obtain ⟨hp, rfl⟩ := hp
  skip
  try simp only [e6, e7, e9, e12] at hp
  have hm := zMQ_rd hp
  have hnx := law_next hw hm (agr_FX hFX) (off_rf _)
  have hr6 := hm.2.1 rfl
  refine pv_lcmp (q := 2860) C dL_law_2859 rfl ?_
  refine pv_if_eq (q := 2863) (tgt := 2865) C dL_law_2860 (by decide) rfl (fun _ => ?_) (fun z => absurd (lg_eq (hr.trans hr6.symm)) z)
  exact PV_widen (ce' := ce + 171) (sl' := sl + 1026) (by omega) (by omega) (PV_le (tl D2 P (hnx)) ⟨Or.inr rfl, Or.inr rfl, Or.inr rfl, Or.inr rfl, Or.inr rfl, Or.inl rfl, Or.inl rfl, Or.inl rfl, Or.inl rfl, trivial⟩)
