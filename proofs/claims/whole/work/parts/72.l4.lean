set_option maxRecDepth 100000 in
set_option maxHeartbeats 4000000 in
theorem law_0 (l : Launch) (K : KT) (X : XT) (b L : Nat) (xs : Nat → Int32) (hC : LC l K X b L xs) (Q : State → Prop) (ce sl i W : Nat) (D : DT) (P : PT) (hi : i + 4 ≤ L) (h : RI D P D W) (hW : W + 200 < 2 ^ 29) (hce : ce + 171 ≤ 601024) (hsl : sl + 1026 ≤ 7293034) (tl : ∀ (D2 : DT) (P2 : PT), RI D2 P2 D2 (W + 130) → PV K X Q (ce + 171) (sl + 1026) 2865 [some (.ref b), some (.ref (X.2.2 0)), some (.ref (X.2.2 6)), some (.ref (X.2.2 13)), some (.int (nI i)), none, none, none, none] [] D2 P2) : PV K X Q ce sl 264 [some (.ref b), some (.ref (X.2.2 0)), some (.ref (X.2.2 6)), some (.ref (X.2.2 13)), some (.int (nI i)), none, none, none, none] [] D P := by
  obtain ⟨hKl, hKR, C, Z, hNC, hfl, hX, hbl, hbA, hL⟩ := hC
  obtain ⟨⟨s, hs5, hs3⟩, hf0, hd0, hse0, hsk0, n, hn60, hn9⟩ := law_pre h hW
  refine pv_aload_n (q := 265) C dL_law_264 rfl rfl rfl ?_
  refine pv_aload_n (q := 266) C dL_law_265 rfl rfl rfl ?_
  refine pv_iload (q := 268) C dL_law_266 rfl rfl ?_
  refine pv_iconst (q := 269) (v := 1) C dL_law_268 rfl (by decide) ?_
  refine pv_iaddN (q := 270) (a := i) (b := 1) C rfl rfl dL_law_269 rfl ?_
  refine pv_sld (q := 271) (j := i + 1) C hX hbl hbA rfl (by omega) (by omega) dL_law_270 rfl ?_
  refine pv_aload_n (q := 272) C dL_law_271 rfl rfl rfl ?_
  refine pv_iload (q := 274) C dL_law_272 rfl rfl ?_
  refine pv_iconst (q := 275) (v := 2) C dL_law_274 rfl (by decide) ?_
  refine pv_iaddN (q := 276) (a := i) (b := 2) C rfl rfl dL_law_275 rfl ?_
  refine pv_sld (q := 277) (j := i + 2) C hX hbl hbA rfl (by omega) (by omega) dL_law_276 rfl ?_
  refine pv_aload_n (q := 278) C dL_law_277 rfl rfl rfl ?_
  refine pv_iload (q := 280) C dL_law_278 rfl rfl ?_
  refine pv_iconst (q := 281) (v := 3) C dL_law_280 rfl (by decide) ?_
  refine pv_iaddN (q := 282) (a := i) (b := 3) C rfl rfl dL_law_281 rfl ?_
  refine pv_sld (q := 283) (j := i + 3) C hX hbl hbA rfl (by omega) (by omega) dL_law_282 rfl ?_
  refine pv_aload_n (q := 284) C dL_law_283 rfl rfl rfl ?_
  refine pv_callL (q := 287) C Z hNC hKl (c_L_insert l X D P hfl D W h hW (xs (i + 1)) (xs (i + 2)) (xs (i + 3))) tw_619 mw_L_insert ⟨rfl, rfl⟩ (by rw [hKR]; exact ⟨Nat.le_of_ble_eq_true rfl, Nat.le_of_ble_eq_true rfl⟩) (by rw [hKR, room_c.1, room_c.2]; constructor <;> omega) rfl rfl rfl (by decide) dL_law_284 rfl (fun r5 D1 P1 hw => ?_)
  have hFX := hw.2.1
  refine pv_istore (q := 289) C dL_law_287 rfl (Nat.le_of_ble_eq_true rfl) rfl ?_
  refine pv_aload_n (q := 290) C dL_law_289 rfl rfl rfl ?_
  refine pv_aload_n (q := 291) C dL_law_290 rfl rfl rfl ?_
  refine pv_iload (q := 293) C dL_law_291 rfl rfl ?_
  refine pv_iconst (q := 294) (v := 1) C dL_law_293 rfl (by decide) ?_
  refine pv_iaddN (q := 295) (a := i) (b := 1) C rfl rfl dL_law_294 rfl ?_
  refine pv_sld (q := 296) (j := i + 1) C hX hbl hbA rfl (by omega) (by omega) dL_law_295 rfl ?_
  refine pv_aload_n (q := 297) C dL_law_296 rfl rfl rfl ?_
  refine pv_iload (q := 299) C dL_law_297 rfl rfl ?_
  refine pv_iconst (q := 300) (v := 2) C dL_law_299 rfl (by decide) ?_
  refine pv_iaddN (q := 301) (a := i) (b := 2) C rfl rfl dL_law_300 rfl ?_
  refine pv_sld (q := 302) (j := i + 2) C hX hbl hbA rfl (by omega) (by omega) dL_law_301 rfl ?_
  refine pv_aload_n (q := 303) C dL_law_302 rfl rfl rfl ?_
  refine pv_iload (q := 305) C dL_law_303 rfl rfl ?_
  refine pv_iconst (q := 306) (v := 3) C dL_law_305 rfl (by decide) ?_
  refine pv_iaddN (q := 307) (a := i) (b := 3) C rfl rfl dL_law_306 rfl ?_
  refine pv_sld (q := 308) (j := i + 3) C hX hbl hbA rfl (by omega) (by omega) dL_law_307 rfl ?_
  have e6 := hFX 6 (by decide) (by decide)
  have e7 := hFX 7 (by decide) (by decide)
  have e9 := hFX 9 (by decide) (by decide)
  have e12 := hFX 12 (by decide) (by decide)
  refine pv_callVi (q := 311) C hKl (c_X7_insert l X D1 P1 (xs (i + 1)) (xs (i + 2)) (xs (i + 3)) (⟨s, hs5, by rw [e6]; exact hs3⟩ : sok D1) (by rw [e7]; exact hf0) (by rw [e7]; exact hd0 _ (by omega))) tw_1045 (show kd 6 = 7 from rfl) (by decide) rfl mm_X7_insert ⟨rfl, rfl⟩ (by rw [hKR]; exact ⟨Nat.le_of_ble_eq_true rfl, Nat.le_of_ble_eq_true rfl⟩) (by rw [hKR, room_c.1, room_c.2]; constructor <;> omega) rfl rfl rfl (Nat.le_of_ble_eq_true rfl) dL_law_308 rfl (fun r6 D2 P2 hp => ?_)
  obtain ⟨hp, rfl⟩ := hp
  skip
  try simp only [e6, e7, e9, e12] at hp
  have hm := zMQ_mr hp rfl
  have hnx := law_next hw hm (agr_up (agr_save (agr_clr (agr_FX hFX))) rfl) (off_up (off_save (off_clr _)) (by decide) (by decide))
  refine pv_istore (q := 313) C dL_law_311 rfl (Nat.le_of_ble_eq_true rfl) rfl ?_
  refine pv_aload_n (q := 314) C dL_law_313 rfl rfl rfl ?_
  refine pv_callVi (q := 317) C hKl (c_X7_thrown l X D2 P1) tw_1041 (show kd 6 = 7 from rfl) (by decide) rfl mm_X7_thrown ⟨rfl, rfl⟩ (by rw [hKR]; exact ⟨Nat.le_of_ble_eq_true rfl, Nat.le_of_ble_eq_true rfl⟩) (by rw [hKR, room_c.1, room_c.2]; constructor <;> omega) rfl rfl rfl (by decide) dL_law_314 rfl (fun r7 D3 P3 hp3 => ?_)
  obtain ⟨rfl, rfl, rfl⟩ := hp3
  refine pv_iload (q := 319) C dL_law_317 rfl rfl ?_
  refine pv_icmp_eq (q := 322) (tgt := 324) C dL_law_319 (by decide) rfl (fun _ => ?_) (fun z => absurd (hm.1.trans hw.1.symm) z)
  refine pv_iload (q := 326) C dL_law_324 rfl rfl ?_
  refine pv_if_ne (q := 329) (tgt := 341) C dL_law_326 (by decide) rfl (fun c0 => ?_) (fun c0 => ?_)
  ·
    refine pv_goto (tgt := 2865) C dL_law_341 (by decide) ?_
    exact PV_widen (ce' := ce + 171) (sl' := sl + 1026) (by omega) (by omega) (PV_le (tl D2 P1 (hnx)) ⟨Or.inr rfl, Or.inr rfl, Or.inr rfl, Or.inr rfl, Or.inr rfl, Or.inl rfl, Or.inl rfl, Or.inl rfl, Or.inl rfl, trivial⟩)
  ·
    obtain ⟨hk0, hv⟩ := WQ_v hw c0
    have hr6 := hm.2.1 hk0
    refine pv_aload_n (q := 330) C dL_law_329 rfl rfl rfl ?_
    refine pv_iconst (q := 331) (v := 0) C dL_law_330 rfl (by decide) ?_
    refine pv_lald (q := 332) C rfl dL_law_331 rfl ?_
    refine pv_iload (q := 334) C dL_law_332 rfl rfl ?_
    refine pv_i2l (q := 335) C dL_law_334 rfl ?_
    refine pv_lcmp (q := 336) C dL_law_335 rfl ?_
    refine pv_if_eq (q := 339) (tgt := 341) C dL_law_336 (by decide) rfl (fun _ => ?_) (fun z => absurd (lg_eq (hv.trans (congrArg Int32.toInt64 hr6.symm))) z)
    refine pv_goto (tgt := 2865) C dL_law_341 (by decide) ?_
    exact PV_widen (ce' := ce + 171) (sl' := sl + 1026) (by omega) (by omega) (PV_le (tl D2 P1 (hnx)) ⟨Or.inr rfl, Or.inr rfl, Or.inr rfl, Or.inr rfl, Or.inr rfl, Or.inl rfl, Or.inl rfl, Or.inl rfl, Or.inl rfl, trivial⟩)
set_option maxRecDepth 100000 in
set_option maxHeartbeats 4000000 in
theorem law_1 (l : Launch) (K : KT) (X : XT) (b L : Nat) (xs : Nat → Int32) (hC : LC l K X b L xs) (Q : State → Prop) (ce sl i W : Nat) (D : DT) (P : PT) (hi : i + 4 ≤ L) (h : RI D P D W) (hW : W + 200 < 2 ^ 29) (hce : ce + 171 ≤ 601024) (hsl : sl + 1026 ≤ 7293034) (tl : ∀ (D2 : DT) (P2 : PT), RI D2 P2 D2 (W + 130) → PV K X Q (ce + 171) (sl + 1026) 2865 [some (.ref b), some (.ref (X.2.2 0)), some (.ref (X.2.2 6)), some (.ref (X.2.2 13)), some (.int (nI i)), none, none, none, none] [] D2 P2) : PV K X Q ce sl 344 [some (.ref b), some (.ref (X.2.2 0)), some (.ref (X.2.2 6)), some (.ref (X.2.2 13)), some (.int (nI i)), none, none, none, none] [] D P := by
  obtain ⟨hKl, hKR, C, Z, hNC, hfl, hX, hbl, hbA, hL⟩ := hC
  obtain ⟨⟨s, hs5, hs3⟩, hf0, hd0, hse0, hsk0, n, hn60, hn9⟩ := law_pre h hW
  refine pv_aload_n (q := 345) C dL_law_344 rfl rfl rfl ?_
  refine pv_aload_n (q := 346) C dL_law_345 rfl rfl rfl ?_
  refine pv_iload (q := 348) C dL_law_346 rfl rfl ?_
  refine pv_iconst (q := 349) (v := 1) C dL_law_348 rfl (by decide) ?_
  refine pv_iaddN (q := 350) (a := i) (b := 1) C rfl rfl dL_law_349 rfl ?_
  refine pv_sld (q := 351) (j := i + 1) C hX hbl hbA rfl (by omega) (by omega) dL_law_350 rfl ?_
  refine pv_aload_n (q := 352) C dL_law_351 rfl rfl rfl ?_
  refine pv_iload (q := 354) C dL_law_352 rfl rfl ?_
  refine pv_iconst (q := 355) (v := 2) C dL_law_354 rfl (by decide) ?_
  refine pv_iaddN (q := 356) (a := i) (b := 2) C rfl rfl dL_law_355 rfl ?_
  refine pv_sld (q := 357) (j := i + 2) C hX hbl hbA rfl (by omega) (by omega) dL_law_356 rfl ?_
  refine pv_aload_n (q := 358) C dL_law_357 rfl rfl rfl ?_
  refine pv_callL (q := 361) C Z hNC hKl (c_L_change l X D P hfl D W h hW (xs (i + 1)) (xs (i + 2))) tw_684 mw_L_change ⟨rfl, rfl⟩ (by rw [hKR]; exact ⟨Nat.le_of_ble_eq_true rfl, Nat.le_of_ble_eq_true rfl⟩) (by rw [hKR, room_c.1, room_c.2]; constructor <;> omega) rfl rfl rfl (by decide) dL_law_358 rfl (fun r5 D1 P1 hw => ?_)
  have hFX := hw.2.1
  refine pv_istore (q := 363) C dL_law_361 rfl (Nat.le_of_ble_eq_true rfl) rfl ?_
  refine pv_aload_n (q := 364) C dL_law_363 rfl rfl rfl ?_
  refine pv_aload_n (q := 365) C dL_law_364 rfl rfl rfl ?_
  refine pv_iload (q := 367) C dL_law_365 rfl rfl ?_
  refine pv_iconst (q := 368) (v := 1) C dL_law_367 rfl (by decide) ?_
  refine pv_iaddN (q := 369) (a := i) (b := 1) C rfl rfl dL_law_368 rfl ?_
  refine pv_sld (q := 370) (j := i + 1) C hX hbl hbA rfl (by omega) (by omega) dL_law_369 rfl ?_
  refine pv_aload_n (q := 371) C dL_law_370 rfl rfl rfl ?_
  refine pv_iload (q := 373) C dL_law_371 rfl rfl ?_
  refine pv_iconst (q := 374) (v := 2) C dL_law_373 rfl (by decide) ?_
  refine pv_iaddN (q := 375) (a := i) (b := 2) C rfl rfl dL_law_374 rfl ?_
  refine pv_sld (q := 376) (j := i + 2) C hX hbl hbA rfl (by omega) (by omega) dL_law_375 rfl ?_
  have e6 := hFX 6 (by decide) (by decide)
  have e7 := hFX 7 (by decide) (by decide)
  have e9 := hFX 9 (by decide) (by decide)
  have e12 := hFX 12 (by decide) (by decide)
  refine pv_callVi (q := 379) C hKl (c_X7_change l X D1 P1 (xs (i + 1)) (xs (i + 2)) (⟨s, hs5, by rw [e6]; exact hs3⟩ : sok D1) (by rw [e7]; exact hf0) (by rw [e7]; exact hd0 _ (by omega))) tw_1112 (show kd 6 = 7 from rfl) (by decide) rfl mm_X7_change ⟨rfl, rfl⟩ (by rw [hKR]; exact ⟨Nat.le_of_ble_eq_true rfl, Nat.le_of_ble_eq_true rfl⟩) (by rw [hKR, room_c.1, room_c.2]; constructor <;> omega) rfl rfl rfl (Nat.le_of_ble_eq_true rfl) dL_law_376 rfl (fun r6 D2 P2 hp => ?_)
  obtain ⟨hp, rfl⟩ := hp
  skip
  try simp only [e6, e7, e9, e12] at hp
  have hm := zMQ_mr hp rfl
  have hnx := law_next hw hm (agr_up (agr_save (agr_clr (agr_FX hFX))) rfl) (off_up (off_save (off_clr _)) (by decide) (by decide))
  refine pv_istore (q := 381) C dL_law_379 rfl (Nat.le_of_ble_eq_true rfl) rfl ?_
  refine pv_aload_n (q := 382) C dL_law_381 rfl rfl rfl ?_
  refine pv_callVi (q := 385) C hKl (c_X7_thrown l X D2 P1) tw_1041 (show kd 6 = 7 from rfl) (by decide) rfl mm_X7_thrown ⟨rfl, rfl⟩ (by rw [hKR]; exact ⟨Nat.le_of_ble_eq_true rfl, Nat.le_of_ble_eq_true rfl⟩) (by rw [hKR, room_c.1, room_c.2]; constructor <;> omega) rfl rfl rfl (by decide) dL_law_382 rfl (fun r7 D3 P3 hp3 => ?_)
  obtain ⟨rfl, rfl, rfl⟩ := hp3
  refine pv_iload (q := 387) C dL_law_385 rfl rfl ?_
  refine pv_icmp_eq (q := 390) (tgt := 392) C dL_law_387 (by decide) rfl (fun _ => ?_) (fun z => absurd (hm.1.trans hw.1.symm) z)
  refine pv_iload (q := 394) C dL_law_392 rfl rfl ?_
  refine pv_if_ne (q := 397) (tgt := 409) C dL_law_394 (by decide) rfl (fun c0 => ?_) (fun c0 => ?_)
  ·
    refine pv_goto (tgt := 2865) C dL_law_409 (by decide) ?_
    exact PV_widen (ce' := ce + 171) (sl' := sl + 1026) (by omega) (by omega) (PV_le (tl D2 P1 (hnx)) ⟨Or.inr rfl, Or.inr rfl, Or.inr rfl, Or.inr rfl, Or.inr rfl, Or.inl rfl, Or.inl rfl, Or.inl rfl, Or.inl rfl, trivial⟩)
  ·
    obtain ⟨hk0, hv⟩ := WQ_v hw c0
    have hr6 := hm.2.1 hk0
    refine pv_aload_n (q := 398) C dL_law_397 rfl rfl rfl ?_
    refine pv_iconst (q := 399) (v := 0) C dL_law_398 rfl (by decide) ?_
    refine pv_lald (q := 400) C rfl dL_law_399 rfl ?_
    refine pv_iload (q := 402) C dL_law_400 rfl rfl ?_
    refine pv_i2l (q := 403) C dL_law_402 rfl ?_
    refine pv_lcmp (q := 404) C dL_law_403 rfl ?_
    refine pv_if_eq (q := 407) (tgt := 409) C dL_law_404 (by decide) rfl (fun _ => ?_) (fun z => absurd (lg_eq (hv.trans (congrArg Int32.toInt64 hr6.symm))) z)
    refine pv_goto (tgt := 2865) C dL_law_409 (by decide) ?_
    exact PV_widen (ce' := ce + 171) (sl' := sl + 1026) (by omega) (by omega) (PV_le (tl D2 P1 (hnx)) ⟨Or.inr rfl, Or.inr rfl, Or.inr rfl, Or.inr rfl, Or.inr rfl, Or.inl rfl, Or.inl rfl, Or.inl rfl, Or.inl rfl, trivial⟩)
set_option maxRecDepth 100000 in
set_option maxHeartbeats 4000000 in
theorem law_2 (l : Launch) (K : KT) (X : XT) (b L : Nat) (xs : Nat → Int32) (hC : LC l K X b L xs) (Q : State → Prop) (ce sl i W : Nat) (D : DT) (P : PT) (hi : i + 4 ≤ L) (h : RI D P D W) (hW : W + 200 < 2 ^ 29) (hce : ce + 171 ≤ 601024) (hsl : sl + 1026 ≤ 7293034) (tl : ∀ (D2 : DT) (P2 : PT), RI D2 P2 D2 (W + 130) → PV K X Q (ce + 171) (sl + 1026) 2865 [some (.ref b), some (.ref (X.2.2 0)), some (.ref (X.2.2 6)), some (.ref (X.2.2 13)), some (.int (nI i)), none, none, none, none] [] D2 P2) : PV K X Q ce sl 412 [some (.ref b), some (.ref (X.2.2 0)), some (.ref (X.2.2 6)), some (.ref (X.2.2 13)), some (.int (nI i)), none, none, none, none] [] D P := by
  obtain ⟨hKl, hKR, C, Z, hNC, hfl, hX, hbl, hbA, hL⟩ := hC
  obtain ⟨⟨s, hs5, hs3⟩, hf0, hd0, hse0, hsk0, n, hn60, hn9⟩ := law_pre h hW
  refine pv_aload_n (q := 413) C dL_law_412 rfl rfl rfl ?_
  refine pv_aload_n (q := 414) C dL_law_413 rfl rfl rfl ?_
  refine pv_iload (q := 416) C dL_law_414 rfl rfl ?_
  refine pv_iconst (q := 417) (v := 1) C dL_law_416 rfl (by decide) ?_
  refine pv_iaddN (q := 418) (a := i) (b := 1) C rfl rfl dL_law_417 rfl ?_
  refine pv_sld (q := 419) (j := i + 1) C hX hbl hbA rfl (by omega) (by omega) dL_law_418 rfl ?_
  refine pv_aload_n (q := 420) C dL_law_419 rfl rfl rfl ?_
  refine pv_iload (q := 422) C dL_law_420 rfl rfl ?_
  refine pv_iconst (q := 423) (v := 2) C dL_law_422 rfl (by decide) ?_
  refine pv_iaddN (q := 424) (a := i) (b := 2) C rfl rfl dL_law_423 rfl ?_
  refine pv_sld (q := 425) (j := i + 2) C hX hbl hbA rfl (by omega) (by omega) dL_law_424 rfl ?_
  refine pv_aload_n (q := 426) C dL_law_425 rfl rfl rfl ?_
  refine pv_callL (q := 429) C Z hNC hKl (c_L_regroup l X D P hfl D W h hW (xs (i + 1)) (xs (i + 2))) tw_695 mw_L_regroup ⟨rfl, rfl⟩ (by rw [hKR]; exact ⟨Nat.le_of_ble_eq_true rfl, Nat.le_of_ble_eq_true rfl⟩) (by rw [hKR, room_c.1, room_c.2]; constructor <;> omega) rfl rfl rfl (by decide) dL_law_426 rfl (fun r5 D1 P1 hw => ?_)
  have hFX := hw.2.1
  refine pv_istore (q := 431) C dL_law_429 rfl (Nat.le_of_ble_eq_true rfl) rfl ?_
  refine pv_aload_n (q := 432) C dL_law_431 rfl rfl rfl ?_
  refine pv_aload_n (q := 433) C dL_law_432 rfl rfl rfl ?_
  refine pv_iload (q := 435) C dL_law_433 rfl rfl ?_
  refine pv_iconst (q := 436) (v := 1) C dL_law_435 rfl (by decide) ?_
  refine pv_iaddN (q := 437) (a := i) (b := 1) C rfl rfl dL_law_436 rfl ?_
  refine pv_sld (q := 438) (j := i + 1) C hX hbl hbA rfl (by omega) (by omega) dL_law_437 rfl ?_
  refine pv_aload_n (q := 439) C dL_law_438 rfl rfl rfl ?_
  refine pv_iload (q := 441) C dL_law_439 rfl rfl ?_
  refine pv_iconst (q := 442) (v := 2) C dL_law_441 rfl (by decide) ?_
  refine pv_iaddN (q := 443) (a := i) (b := 2) C rfl rfl dL_law_442 rfl ?_
  refine pv_sld (q := 444) (j := i + 2) C hX hbl hbA rfl (by omega) (by omega) dL_law_443 rfl ?_
  have e6 := hFX 6 (by decide) (by decide)
  have e7 := hFX 7 (by decide) (by decide)
  have e9 := hFX 9 (by decide) (by decide)
  have e12 := hFX 12 (by decide) (by decide)
  refine pv_callVi (q := 447) C hKl (c_X7_regroup l X D1 P1 (xs (i + 1)) (xs (i + 2)) (⟨s, hs5, by rw [e6]; exact hs3⟩ : sok D1) (by rw [e7]; exact hf0) (by rw [e7]; exact hd0 _ (by omega))) tw_1120 (show kd 6 = 7 from rfl) (by decide) rfl mm_X7_regroup ⟨rfl, rfl⟩ (by rw [hKR]; exact ⟨Nat.le_of_ble_eq_true rfl, Nat.le_of_ble_eq_true rfl⟩) (by rw [hKR, room_c.1, room_c.2]; constructor <;> omega) rfl rfl rfl (Nat.le_of_ble_eq_true rfl) dL_law_444 rfl (fun r6 D2 P2 hp => ?_)
  obtain ⟨hp, rfl⟩ := hp
  skip
  try simp only [e6, e7, e9, e12] at hp
  have hm := zMQ_mr hp rfl
  have hnx := law_next hw hm (agr_up (agr_save (agr_clr (agr_FX hFX))) rfl) (off_up (off_save (off_clr _)) (by decide) (by decide))
  refine pv_istore (q := 449) C dL_law_447 rfl (Nat.le_of_ble_eq_true rfl) rfl ?_
  refine pv_aload_n (q := 450) C dL_law_449 rfl rfl rfl ?_
  refine pv_callVi (q := 453) C hKl (c_X7_thrown l X D2 P1) tw_1041 (show kd 6 = 7 from rfl) (by decide) rfl mm_X7_thrown ⟨rfl, rfl⟩ (by rw [hKR]; exact ⟨Nat.le_of_ble_eq_true rfl, Nat.le_of_ble_eq_true rfl⟩) (by rw [hKR, room_c.1, room_c.2]; constructor <;> omega) rfl rfl rfl (by decide) dL_law_450 rfl (fun r7 D3 P3 hp3 => ?_)
  obtain ⟨rfl, rfl, rfl⟩ := hp3
  refine pv_iload (q := 455) C dL_law_453 rfl rfl ?_
  refine pv_icmp_eq (q := 458) (tgt := 460) C dL_law_455 (by decide) rfl (fun _ => ?_) (fun z => absurd (hm.1.trans hw.1.symm) z)
  refine pv_iload (q := 462) C dL_law_460 rfl rfl ?_
  refine pv_if_ne (q := 465) (tgt := 477) C dL_law_462 (by decide) rfl (fun c0 => ?_) (fun c0 => ?_)
  ·
    refine pv_goto (tgt := 2865) C dL_law_477 (by decide) ?_
    exact PV_widen (ce' := ce + 171) (sl' := sl + 1026) (by omega) (by omega) (PV_le (tl D2 P1 (hnx)) ⟨Or.inr rfl, Or.inr rfl, Or.inr rfl, Or.inr rfl, Or.inr rfl, Or.inl rfl, Or.inl rfl, Or.inl rfl, Or.inl rfl, trivial⟩)
  ·
    obtain ⟨hk0, hv⟩ := WQ_v hw c0
    have hr6 := hm.2.1 hk0
    refine pv_aload_n (q := 466) C dL_law_465 rfl rfl rfl ?_
    refine pv_iconst (q := 467) (v := 0) C dL_law_466 rfl (by decide) ?_
    refine pv_lald (q := 468) C rfl dL_law_467 rfl ?_
    refine pv_iload (q := 470) C dL_law_468 rfl rfl ?_
    refine pv_i2l (q := 471) C dL_law_470 rfl ?_
    refine pv_lcmp (q := 472) C dL_law_471 rfl ?_
    refine pv_if_eq (q := 475) (tgt := 477) C dL_law_472 (by decide) rfl (fun _ => ?_) (fun z => absurd (lg_eq (hv.trans (congrArg Int32.toInt64 hr6.symm))) z)
    refine pv_goto (tgt := 2865) C dL_law_477 (by decide) ?_
    exact PV_widen (ce' := ce + 171) (sl' := sl + 1026) (by omega) (by omega) (PV_le (tl D2 P1 (hnx)) ⟨Or.inr rfl, Or.inr rfl, Or.inr rfl, Or.inr rfl, Or.inr rfl, Or.inl rfl, Or.inl rfl, Or.inl rfl, Or.inl rfl, trivial⟩)
set_option maxRecDepth 100000 in
set_option maxHeartbeats 4000000 in
theorem law_3 (l : Launch) (K : KT) (X : XT) (b L : Nat) (xs : Nat → Int32) (hC : LC l K X b L xs) (Q : State → Prop) (ce sl i W : Nat) (D : DT) (P : PT) (hi : i + 4 ≤ L) (h : RI D P D W) (hW : W + 200 < 2 ^ 29) (hce : ce + 171 ≤ 601024) (hsl : sl + 1026 ≤ 7293034) (tl : ∀ (D2 : DT) (P2 : PT), RI D2 P2 D2 (W + 130) → PV K X Q (ce + 171) (sl + 1026) 2865 [some (.ref b), some (.ref (X.2.2 0)), some (.ref (X.2.2 6)), some (.ref (X.2.2 13)), some (.int (nI i)), none, none, none, none] [] D2 P2) : PV K X Q ce sl 480 [some (.ref b), some (.ref (X.2.2 0)), some (.ref (X.2.2 6)), some (.ref (X.2.2 13)), some (.int (nI i)), none, none, none, none] [] D P := by
  obtain ⟨hKl, hKR, C, Z, hNC, hfl, hX, hbl, hbA, hL⟩ := hC
  obtain ⟨⟨s, hs5, hs3⟩, hf0, hd0, hse0, hsk0, n, hn60, hn9⟩ := law_pre h hW
  refine pv_aload_n (q := 481) C dL_law_480 rfl rfl rfl ?_
  refine pv_aload_n (q := 482) C dL_law_481 rfl rfl rfl ?_
  refine pv_iload (q := 484) C dL_law_482 rfl rfl ?_
  refine pv_iconst (q := 485) (v := 1) C dL_law_484 rfl (by decide) ?_
  refine pv_iaddN (q := 486) (a := i) (b := 1) C rfl rfl dL_law_485 rfl ?_
  refine pv_sld (q := 487) (j := i + 1) C hX hbl hbA rfl (by omega) (by omega) dL_law_486 rfl ?_
  refine pv_aload_n (q := 488) C dL_law_487 rfl rfl rfl ?_
  refine pv_callL (q := 491) C Z hNC hKl (c_L_delete l X D P hfl D W h hW (xs (i + 1))) tw_702 mw_L_delete ⟨rfl, rfl⟩ (by rw [hKR]; exact ⟨Nat.le_of_ble_eq_true rfl, Nat.le_of_ble_eq_true rfl⟩) (by rw [hKR, room_c.1, room_c.2]; constructor <;> omega) rfl rfl rfl (by decide) dL_law_488 rfl (fun r5 D1 P1 hw => ?_)
  have hFX := hw.2.1
  refine pv_istore (q := 493) C dL_law_491 rfl (Nat.le_of_ble_eq_true rfl) rfl ?_
  refine pv_aload_n (q := 494) C dL_law_493 rfl rfl rfl ?_
  refine pv_aload_n (q := 495) C dL_law_494 rfl rfl rfl ?_
  refine pv_iload (q := 497) C dL_law_495 rfl rfl ?_
  refine pv_iconst (q := 498) (v := 1) C dL_law_497 rfl (by decide) ?_
  refine pv_iaddN (q := 499) (a := i) (b := 1) C rfl rfl dL_law_498 rfl ?_
  refine pv_sld (q := 500) (j := i + 1) C hX hbl hbA rfl (by omega) (by omega) dL_law_499 rfl ?_
  have e6 := hFX 6 (by decide) (by decide)
  have e7 := hFX 7 (by decide) (by decide)
  have e9 := hFX 9 (by decide) (by decide)
  have e12 := hFX 12 (by decide) (by decide)
  refine pv_callVi (q := 503) C hKl (c_X7_delete l X D1 P1 (xs (i + 1)) (⟨s, hs5, by rw [e6]; exact hs3⟩ : sok D1) (by rw [e7]; exact hf0) (by rw [e7]; exact hd0 _ (by omega))) tw_1128 (show kd 6 = 7 from rfl) (by decide) rfl mm_X7_delete ⟨rfl, rfl⟩ (by rw [hKR]; exact ⟨Nat.le_of_ble_eq_true rfl, Nat.le_of_ble_eq_true rfl⟩) (by rw [hKR, room_c.1, room_c.2]; constructor <;> omega) rfl rfl rfl (Nat.le_of_ble_eq_true rfl) dL_law_500 rfl (fun r6 D2 P2 hp => ?_)
  obtain ⟨hp, rfl⟩ := hp
  skip
  try simp only [e6, e7, e9, e12] at hp
  have hm := zMQ_mr hp rfl
  have hnx := law_next hw hm (agr_up (agr_save (agr_clr (agr_FX hFX))) rfl) (off_up (off_save (off_clr _)) (by decide) (by decide))
  refine pv_istore (q := 505) C dL_law_503 rfl (Nat.le_of_ble_eq_true rfl) rfl ?_
  refine pv_aload_n (q := 506) C dL_law_505 rfl rfl rfl ?_
  refine pv_callVi (q := 509) C hKl (c_X7_thrown l X D2 P1) tw_1041 (show kd 6 = 7 from rfl) (by decide) rfl mm_X7_thrown ⟨rfl, rfl⟩ (by rw [hKR]; exact ⟨Nat.le_of_ble_eq_true rfl, Nat.le_of_ble_eq_true rfl⟩) (by rw [hKR, room_c.1, room_c.2]; constructor <;> omega) rfl rfl rfl (by decide) dL_law_506 rfl (fun r7 D3 P3 hp3 => ?_)
  obtain ⟨rfl, rfl, rfl⟩ := hp3
  refine pv_iload (q := 511) C dL_law_509 rfl rfl ?_
  refine pv_icmp_eq (q := 514) (tgt := 516) C dL_law_511 (by decide) rfl (fun _ => ?_) (fun z => absurd (hm.1.trans hw.1.symm) z)
  refine pv_iload (q := 518) C dL_law_516 rfl rfl ?_
  refine pv_if_ne (q := 521) (tgt := 533) C dL_law_518 (by decide) rfl (fun c0 => ?_) (fun c0 => ?_)
  ·
    refine pv_goto (tgt := 2865) C dL_law_533 (by decide) ?_
    exact PV_widen (ce' := ce + 171) (sl' := sl + 1026) (by omega) (by omega) (PV_le (tl D2 P1 (hnx)) ⟨Or.inr rfl, Or.inr rfl, Or.inr rfl, Or.inr rfl, Or.inr rfl, Or.inl rfl, Or.inl rfl, Or.inl rfl, Or.inl rfl, trivial⟩)
  ·
    obtain ⟨hk0, hv⟩ := WQ_v hw c0
    have hr6 := hm.2.1 hk0
    refine pv_aload_n (q := 522) C dL_law_521 rfl rfl rfl ?_
    refine pv_iconst (q := 523) (v := 0) C dL_law_522 rfl (by decide) ?_
    refine pv_lald (q := 524) C rfl dL_law_523 rfl ?_
    refine pv_iload (q := 526) C dL_law_524 rfl rfl ?_
    refine pv_i2l (q := 527) C dL_law_526 rfl ?_
    refine pv_lcmp (q := 528) C dL_law_527 rfl ?_
    refine pv_if_eq (q := 531) (tgt := 533) C dL_law_528 (by decide) rfl (fun _ => ?_) (fun z => absurd (lg_eq (hv.trans (congrArg Int32.toInt64 hr6.symm))) z)
    refine pv_goto (tgt := 2865) C dL_law_533 (by decide) ?_
    exact PV_widen (ce' := ce + 171) (sl' := sl + 1026) (by omega) (by omega) (PV_le (tl D2 P1 (hnx)) ⟨Or.inr rfl, Or.inr rfl, Or.inr rfl, Or.inr rfl, Or.inr rfl, Or.inl rfl, Or.inl rfl, Or.inl rfl, Or.inl rfl, trivial⟩)
set_option maxRecDepth 100000 in
set_option maxHeartbeats 4000000 in
theorem law_4 (l : Launch) (K : KT) (X : XT) (b L : Nat) (xs : Nat → Int32) (hC : LC l K X b L xs) (Q : State → Prop) (ce sl i W : Nat) (D : DT) (P : PT) (hi : i + 4 ≤ L) (h : RI D P D W) (hW : W + 200 < 2 ^ 29) (hce : ce + 171 ≤ 601024) (hsl : sl + 1026 ≤ 7293034) (tl : ∀ (D2 : DT) (P2 : PT), RI D2 P2 D2 (W + 130) → PV K X Q (ce + 171) (sl + 1026) 2865 [some (.ref b), some (.ref (X.2.2 0)), some (.ref (X.2.2 6)), some (.ref (X.2.2 13)), some (.int (nI i)), none, none, none, none] [] D2 P2) : PV K X Q ce sl 536 [some (.ref b), some (.ref (X.2.2 0)), some (.ref (X.2.2 6)), some (.ref (X.2.2 13)), some (.int (nI i)), none, none, none, none] [] D P := by
  obtain ⟨hKl, hKR, C, Z, hNC, hfl, hX, hbl, hbA, hL⟩ := hC
  obtain ⟨⟨s, hs5, hs3⟩, hf0, hd0, hse0, hsk0, n, hn60, hn9⟩ := law_pre h hW
  refine pv_aload_n (q := 537) C dL_law_536 rfl rfl rfl ?_
  refine pv_aload_n (q := 538) C dL_law_537 rfl rfl rfl ?_
  refine pv_iload (q := 540) C dL_law_538 rfl rfl ?_
  refine pv_iconst (q := 541) (v := 1) C dL_law_540 rfl (by decide) ?_
  refine pv_iaddN (q := 542) (a := i) (b := 1) C rfl rfl dL_law_541 rfl ?_
  refine pv_sld (q := 543) (j := i + 1) C hX hbl hbA rfl (by omega) (by omega) dL_law_542 rfl ?_
  refine pv_aload_n (q := 544) C dL_law_543 rfl rfl rfl ?_
  refine pv_callL (q := 547) C Z hNC hKl (c_L_nap l X D P hfl D W h hW (xs (i + 1))) tw_713 mw_L_nap ⟨rfl, rfl⟩ (by rw [hKR]; exact ⟨Nat.le_of_ble_eq_true rfl, Nat.le_of_ble_eq_true rfl⟩) (by rw [hKR, room_c.1, room_c.2]; constructor <;> omega) rfl rfl rfl (by decide) dL_law_544 rfl (fun r5 D1 P1 hw => ?_)
  have hFX := hw.2.1
  refine pv_istore (q := 549) C dL_law_547 rfl (Nat.le_of_ble_eq_true rfl) rfl ?_
  refine pv_aload_n (q := 550) C dL_law_549 rfl rfl rfl ?_
  refine pv_aload_n (q := 551) C dL_law_550 rfl rfl rfl ?_
  refine pv_iload (q := 553) C dL_law_551 rfl rfl ?_
  refine pv_iconst (q := 554) (v := 1) C dL_law_553 rfl (by decide) ?_
  refine pv_iaddN (q := 555) (a := i) (b := 1) C rfl rfl dL_law_554 rfl ?_
  refine pv_sld (q := 556) (j := i + 1) C hX hbl hbA rfl (by omega) (by omega) dL_law_555 rfl ?_
  have e6 := hFX 6 (by decide) (by decide)
  have e7 := hFX 7 (by decide) (by decide)
  have e9 := hFX 9 (by decide) (by decide)
  have e12 := hFX 12 (by decide) (by decide)
  refine pv_callVi (q := 559) C hKl (c_X7_nap l X D1 P1 (xs (i + 1)) (⟨s, hs5, by rw [e6]; exact hs3⟩ : sok D1)) tw_1140 (show kd 6 = 7 from rfl) (by decide) rfl mm_X7_nap ⟨rfl, rfl⟩ (by rw [hKR]; exact ⟨Nat.le_of_ble_eq_true rfl, Nat.le_of_ble_eq_true rfl⟩) (by rw [hKR, room_c.1, room_c.2]; constructor <;> omega) rfl rfl rfl (Nat.le_of_ble_eq_true rfl) dL_law_556 rfl (fun r6 D2 P2 hp => ?_)
  obtain ⟨hp, rfl⟩ := hp
  skip
  try simp only [e6, e7, e9, e12] at hp
  have hm := zMQ_mr hp rfl
  have hnx := law_next hw hm (agr_up (agr_save (agr_clr (agr_FX hFX))) rfl) (off_up (off_save (off_clr _)) (by decide) (by decide))
  refine pv_istore (q := 561) C dL_law_559 rfl (Nat.le_of_ble_eq_true rfl) rfl ?_
  refine pv_aload_n (q := 562) C dL_law_561 rfl rfl rfl ?_
  refine pv_callVi (q := 565) C hKl (c_X7_thrown l X D2 P1) tw_1041 (show kd 6 = 7 from rfl) (by decide) rfl mm_X7_thrown ⟨rfl, rfl⟩ (by rw [hKR]; exact ⟨Nat.le_of_ble_eq_true rfl, Nat.le_of_ble_eq_true rfl⟩) (by rw [hKR, room_c.1, room_c.2]; constructor <;> omega) rfl rfl rfl (by decide) dL_law_562 rfl (fun r7 D3 P3 hp3 => ?_)
  obtain ⟨rfl, rfl, rfl⟩ := hp3
  refine pv_iload (q := 567) C dL_law_565 rfl rfl ?_
  refine pv_icmp_eq (q := 570) (tgt := 572) C dL_law_567 (by decide) rfl (fun _ => ?_) (fun z => absurd (hm.1.trans hw.1.symm) z)
  refine pv_iload (q := 574) C dL_law_572 rfl rfl ?_
  refine pv_if_ne (q := 577) (tgt := 589) C dL_law_574 (by decide) rfl (fun c0 => ?_) (fun c0 => ?_)
  ·
    refine pv_goto (tgt := 2865) C dL_law_589 (by decide) ?_
    exact PV_widen (ce' := ce + 171) (sl' := sl + 1026) (by omega) (by omega) (PV_le (tl D2 P1 (hnx)) ⟨Or.inr rfl, Or.inr rfl, Or.inr rfl, Or.inr rfl, Or.inr rfl, Or.inl rfl, Or.inl rfl, Or.inl rfl, Or.inl rfl, trivial⟩)
  ·
    obtain ⟨hk0, hv⟩ := WQ_v hw c0
    have hr6 := hm.2.1 hk0
    refine pv_aload_n (q := 578) C dL_law_577 rfl rfl rfl ?_
    refine pv_iconst (q := 579) (v := 0) C dL_law_578 rfl (by decide) ?_
    refine pv_lald (q := 580) C rfl dL_law_579 rfl ?_
    refine pv_iload (q := 582) C dL_law_580 rfl rfl ?_
    refine pv_i2l (q := 583) C dL_law_582 rfl ?_
    refine pv_lcmp (q := 584) C dL_law_583 rfl ?_
    refine pv_if_eq (q := 587) (tgt := 589) C dL_law_584 (by decide) rfl (fun _ => ?_) (fun z => absurd (lg_eq (hv.trans (congrArg Int32.toInt64 hr6.symm))) z)
    refine pv_goto (tgt := 2865) C dL_law_589 (by decide) ?_
    exact PV_widen (ce' := ce + 171) (sl' := sl + 1026) (by omega) (by omega) (PV_le (tl D2 P1 (hnx)) ⟨Or.inr rfl, Or.inr rfl, Or.inr rfl, Or.inr rfl, Or.inr rfl, Or.inl rfl, Or.inl rfl, Or.inl rfl, Or.inl rfl, trivial⟩)
set_option maxRecDepth 100000 in
set_option maxHeartbeats 4000000 in
theorem law_5 (l : Launch) (K : KT) (X : XT) (b L : Nat) (xs : Nat → Int32) (hC : LC l K X b L xs) (Q : State → Prop) (ce sl i W : Nat) (D : DT) (P : PT) (hi : i + 4 ≤ L) (h : RI D P D W) (hW : W + 200 < 2 ^ 29) (hce : ce + 171 ≤ 601024) (hsl : sl + 1026 ≤ 7293034) (tl : ∀ (D2 : DT) (P2 : PT), RI D2 P2 D2 (W + 130) → PV K X Q (ce + 171) (sl + 1026) 2865 [some (.ref b), some (.ref (X.2.2 0)), some (.ref (X.2.2 6)), some (.ref (X.2.2 13)), some (.int (nI i)), none, none, none, none] [] D2 P2) : PV K X Q ce sl 592 [some (.ref b), some (.ref (X.2.2 0)), some (.ref (X.2.2 6)), some (.ref (X.2.2 13)), some (.int (nI i)), none, none, none, none] [] D P := by
  obtain ⟨hKl, hKR, C, Z, hNC, hfl, hX, hbl, hbA, hL⟩ := hC
  obtain ⟨⟨s, hs5, hs3⟩, hf0, hd0, hse0, hsk0, n, hn60, hn9⟩ := law_pre h hW
  refine pv_aload_n (q := 593) C dL_law_592 rfl rfl rfl ?_
  refine pv_aload_n (q := 594) C dL_law_593 rfl rfl rfl ?_
  refine pv_iload (q := 596) C dL_law_594 rfl rfl ?_
  refine pv_iconst (q := 597) (v := 1) C dL_law_596 rfl (by decide) ?_
  refine pv_iaddN (q := 598) (a := i) (b := 1) C rfl rfl dL_law_597 rfl ?_
  refine pv_sld (q := 599) (j := i + 1) C hX hbl hbA rfl (by omega) (by omega) dL_law_598 rfl ?_
  refine pv_aload_n (q := 600) C dL_law_599 rfl rfl rfl ?_
  refine pv_callL (q := 603) C Z hNC hKl (c_L_wake l X D P hfl D W h hW (xs (i + 1))) tw_729 mw_L_wake ⟨rfl, rfl⟩ (by rw [hKR]; exact ⟨Nat.le_of_ble_eq_true rfl, Nat.le_of_ble_eq_true rfl⟩) (by rw [hKR, room_c.1, room_c.2]; constructor <;> omega) rfl rfl rfl (by decide) dL_law_600 rfl (fun r5 D1 P1 hw => ?_)
  have hFX := hw.2.1
  refine pv_istore (q := 605) C dL_law_603 rfl (Nat.le_of_ble_eq_true rfl) rfl ?_
  refine pv_aload_n (q := 606) C dL_law_605 rfl rfl rfl ?_
  refine pv_aload_n (q := 607) C dL_law_606 rfl rfl rfl ?_
  refine pv_iload (q := 609) C dL_law_607 rfl rfl ?_
  refine pv_iconst (q := 610) (v := 1) C dL_law_609 rfl (by decide) ?_
  refine pv_iaddN (q := 611) (a := i) (b := 1) C rfl rfl dL_law_610 rfl ?_
  refine pv_sld (q := 612) (j := i + 1) C hX hbl hbA rfl (by omega) (by omega) dL_law_611 rfl ?_
  have e6 := hFX 6 (by decide) (by decide)
  have e7 := hFX 7 (by decide) (by decide)
  have e9 := hFX 9 (by decide) (by decide)
  have e12 := hFX 12 (by decide) (by decide)
  refine pv_callVi (q := 615) C hKl (c_X7_wake l X D1 P1 (xs (i + 1)) (⟨s, hs5, by rw [e6]; exact hs3⟩ : sok D1)) tw_1152 (show kd 6 = 7 from rfl) (by decide) rfl mm_X7_wake ⟨rfl, rfl⟩ (by rw [hKR]; exact ⟨Nat.le_of_ble_eq_true rfl, Nat.le_of_ble_eq_true rfl⟩) (by rw [hKR, room_c.1, room_c.2]; constructor <;> omega) rfl rfl rfl (Nat.le_of_ble_eq_true rfl) dL_law_612 rfl (fun r6 D2 P2 hp => ?_)
  obtain ⟨hp, rfl⟩ := hp
  skip
  try simp only [e6, e7, e9, e12] at hp
  have hm := zMQ_mr hp rfl
  have hnx := law_next hw hm (agr_up (agr_save (agr_clr (agr_FX hFX))) rfl) (off_up (off_save (off_clr _)) (by decide) (by decide))
  refine pv_istore (q := 617) C dL_law_615 rfl (Nat.le_of_ble_eq_true rfl) rfl ?_
  refine pv_aload_n (q := 618) C dL_law_617 rfl rfl rfl ?_
  refine pv_callVi (q := 621) C hKl (c_X7_thrown l X D2 P1) tw_1041 (show kd 6 = 7 from rfl) (by decide) rfl mm_X7_thrown ⟨rfl, rfl⟩ (by rw [hKR]; exact ⟨Nat.le_of_ble_eq_true rfl, Nat.le_of_ble_eq_true rfl⟩) (by rw [hKR, room_c.1, room_c.2]; constructor <;> omega) rfl rfl rfl (by decide) dL_law_618 rfl (fun r7 D3 P3 hp3 => ?_)
  obtain ⟨rfl, rfl, rfl⟩ := hp3
  refine pv_iload (q := 623) C dL_law_621 rfl rfl ?_
  refine pv_icmp_eq (q := 626) (tgt := 628) C dL_law_623 (by decide) rfl (fun _ => ?_) (fun z => absurd (hm.1.trans hw.1.symm) z)
  refine pv_iload (q := 630) C dL_law_628 rfl rfl ?_
  refine pv_if_ne (q := 633) (tgt := 645) C dL_law_630 (by decide) rfl (fun c0 => ?_) (fun c0 => ?_)
  ·
    refine pv_goto (tgt := 2865) C dL_law_645 (by decide) ?_
    exact PV_widen (ce' := ce + 171) (sl' := sl + 1026) (by omega) (by omega) (PV_le (tl D2 P1 (hnx)) ⟨Or.inr rfl, Or.inr rfl, Or.inr rfl, Or.inr rfl, Or.inr rfl, Or.inl rfl, Or.inl rfl, Or.inl rfl, Or.inl rfl, trivial⟩)
  ·
    obtain ⟨hk0, hv⟩ := WQ_v hw c0
    have hr6 := hm.2.1 hk0
    refine pv_aload_n (q := 634) C dL_law_633 rfl rfl rfl ?_
    refine pv_iconst (q := 635) (v := 0) C dL_law_634 rfl (by decide) ?_
    refine pv_lald (q := 636) C rfl dL_law_635 rfl ?_
    refine pv_iload (q := 638) C dL_law_636 rfl rfl ?_
    refine pv_i2l (q := 639) C dL_law_638 rfl ?_
    refine pv_lcmp (q := 640) C dL_law_639 rfl ?_
    refine pv_if_eq (q := 643) (tgt := 645) C dL_law_640 (by decide) rfl (fun _ => ?_) (fun z => absurd (lg_eq (hv.trans (congrArg Int32.toInt64 hr6.symm))) z)
    refine pv_goto (tgt := 2865) C dL_law_645 (by decide) ?_
    exact PV_widen (ce' := ce + 171) (sl' := sl + 1026) (by omega) (by omega) (PV_le (tl D2 P1 (hnx)) ⟨Or.inr rfl, Or.inr rfl, Or.inr rfl, Or.inr rfl, Or.inr rfl, Or.inl rfl, Or.inl rfl, Or.inl rfl, Or.inl rfl, trivial⟩)
set_option maxRecDepth 100000 in
set_option maxHeartbeats 4000000 in
theorem law_6 (l : Launch) (K : KT) (X : XT) (b L : Nat) (xs : Nat → Int32) (hC : LC l K X b L xs) (Q : State → Prop) (ce sl i W : Nat) (D : DT) (P : PT) (hi : i + 4 ≤ L) (h : RI D P D W) (hW : W + 200 < 2 ^ 29) (hce : ce + 171 ≤ 601024) (hsl : sl + 1026 ≤ 7293034) (tl : ∀ (D2 : DT) (P2 : PT), RI D2 P2 D2 (W + 130) → PV K X Q (ce + 171) (sl + 1026) 2865 [some (.ref b), some (.ref (X.2.2 0)), some (.ref (X.2.2 6)), some (.ref (X.2.2 13)), some (.int (nI i)), none, none, none, none] [] D2 P2) : PV K X Q ce sl 648 [some (.ref b), some (.ref (X.2.2 0)), some (.ref (X.2.2 6)), some (.ref (X.2.2 13)), some (.int (nI i)), none, none, none, none] [] D P := by
  obtain ⟨hKl, hKR, C, Z, hNC, hfl, hX, hbl, hbA, hL⟩ := hC
  obtain ⟨⟨s, hs5, hs3⟩, hf0, hd0, hse0, hsk0, n, hn60, hn9⟩ := law_pre h hW
  refine pv_aload_n (q := 649) C dL_law_648 rfl rfl rfl ?_
  refine pv_aload_n (q := 650) C dL_law_649 rfl rfl rfl ?_
  refine pv_iload (q := 652) C dL_law_650 rfl rfl ?_
  refine pv_iconst (q := 653) (v := 1) C dL_law_652 rfl (by decide) ?_
  refine pv_iaddN (q := 654) (a := i) (b := 1) C rfl rfl dL_law_653 rfl ?_
  refine pv_sld (q := 655) (j := i + 1) C hX hbl hbA rfl (by omega) (by omega) dL_law_654 rfl ?_
  refine pv_aload_n (q := 656) C dL_law_655 rfl rfl rfl ?_
  refine pv_callL (q := 659) C Z hNC hKl (c_L_refresh l X D P hfl D W h hW (xs (i + 1))) tw_738 mw_L_refresh ⟨rfl, rfl⟩ (by rw [hKR]; exact ⟨Nat.le_of_ble_eq_true rfl, Nat.le_of_ble_eq_true rfl⟩) (by rw [hKR, room_c.1, room_c.2]; constructor <;> omega) rfl rfl rfl (by decide) dL_law_656 rfl (fun r5 D1 P1 hw => ?_)
  have hFX := hw.2.1
  refine pv_istore (q := 661) C dL_law_659 rfl (Nat.le_of_ble_eq_true rfl) rfl ?_
  refine pv_aload_n (q := 662) C dL_law_661 rfl rfl rfl ?_
  refine pv_aload_n (q := 663) C dL_law_662 rfl rfl rfl ?_
  refine pv_iload (q := 665) C dL_law_663 rfl rfl ?_
  refine pv_iconst (q := 666) (v := 1) C dL_law_665 rfl (by decide) ?_
  refine pv_iaddN (q := 667) (a := i) (b := 1) C rfl rfl dL_law_666 rfl ?_
  refine pv_sld (q := 668) (j := i + 1) C hX hbl hbA rfl (by omega) (by omega) dL_law_667 rfl ?_
  have e6 := hFX 6 (by decide) (by decide)
  have e7 := hFX 7 (by decide) (by decide)
  have e9 := hFX 9 (by decide) (by decide)
  have e12 := hFX 12 (by decide) (by decide)
  refine pv_callVi (q := 671) C hKl (c_X7_refresh l X D1 P1 (xs (i + 1)) (⟨s, hs5, by rw [e6]; exact hs3⟩ : sok D1)) tw_1156 (show kd 6 = 7 from rfl) (by decide) rfl mm_X7_refresh ⟨rfl, rfl⟩ (by rw [hKR]; exact ⟨Nat.le_of_ble_eq_true rfl, Nat.le_of_ble_eq_true rfl⟩) (by rw [hKR, room_c.1, room_c.2]; constructor <;> omega) rfl rfl rfl (Nat.le_of_ble_eq_true rfl) dL_law_668 rfl (fun r6 D2 P2 hp => ?_)
  obtain ⟨hp, rfl⟩ := hp
  skip
  try simp only [e6, e7, e9, e12] at hp
  have hm := zMQ_mr hp rfl
  have hnx := law_next hw hm (agr_up (agr_save (agr_clr (agr_FX hFX))) rfl) (off_up (off_save (off_clr _)) (by decide) (by decide))
  refine pv_istore (q := 673) C dL_law_671 rfl (Nat.le_of_ble_eq_true rfl) rfl ?_
  refine pv_aload_n (q := 674) C dL_law_673 rfl rfl rfl ?_
  refine pv_callVi (q := 677) C hKl (c_X7_thrown l X D2 P1) tw_1041 (show kd 6 = 7 from rfl) (by decide) rfl mm_X7_thrown ⟨rfl, rfl⟩ (by rw [hKR]; exact ⟨Nat.le_of_ble_eq_true rfl, Nat.le_of_ble_eq_true rfl⟩) (by rw [hKR, room_c.1, room_c.2]; constructor <;> omega) rfl rfl rfl (by decide) dL_law_674 rfl (fun r7 D3 P3 hp3 => ?_)
  obtain ⟨rfl, rfl, rfl⟩ := hp3
  refine pv_iload (q := 679) C dL_law_677 rfl rfl ?_
  refine pv_icmp_eq (q := 682) (tgt := 684) C dL_law_679 (by decide) rfl (fun _ => ?_) (fun z => absurd (hm.1.trans hw.1.symm) z)
  refine pv_iload (q := 686) C dL_law_684 rfl rfl ?_
  refine pv_if_ne (q := 689) (tgt := 701) C dL_law_686 (by decide) rfl (fun c0 => ?_) (fun c0 => ?_)
  ·
    refine pv_goto (tgt := 2865) C dL_law_701 (by decide) ?_
    exact PV_widen (ce' := ce + 171) (sl' := sl + 1026) (by omega) (by omega) (PV_le (tl D2 P1 (hnx)) ⟨Or.inr rfl, Or.inr rfl, Or.inr rfl, Or.inr rfl, Or.inr rfl, Or.inl rfl, Or.inl rfl, Or.inl rfl, Or.inl rfl, trivial⟩)
  ·
    obtain ⟨hk0, hv⟩ := WQ_v hw c0
    have hr6 := hm.2.1 hk0
    refine pv_aload_n (q := 690) C dL_law_689 rfl rfl rfl ?_
    refine pv_iconst (q := 691) (v := 0) C dL_law_690 rfl (by decide) ?_
    refine pv_lald (q := 692) C rfl dL_law_691 rfl ?_
    refine pv_iload (q := 694) C dL_law_692 rfl rfl ?_
    refine pv_i2l (q := 695) C dL_law_694 rfl ?_
    refine pv_lcmp (q := 696) C dL_law_695 rfl ?_
    refine pv_if_eq (q := 699) (tgt := 701) C dL_law_696 (by decide) rfl (fun _ => ?_) (fun z => absurd (lg_eq (hv.trans (congrArg Int32.toInt64 hr6.symm))) z)
    refine pv_goto (tgt := 2865) C dL_law_701 (by decide) ?_
    exact PV_widen (ce' := ce + 171) (sl' := sl + 1026) (by omega) (by omega) (PV_le (tl D2 P1 (hnx)) ⟨Or.inr rfl, Or.inr rfl, Or.inr rfl, Or.inr rfl, Or.inr rfl, Or.inl rfl, Or.inl rfl, Or.inl rfl, Or.inl rfl, trivial⟩)
set_option maxRecDepth 100000 in
set_option maxHeartbeats 4000000 in
theorem law_7 (l : Launch) (K : KT) (X : XT) (b L : Nat) (xs : Nat → Int32) (hC : LC l K X b L xs) (Q : State → Prop) (ce sl i W : Nat) (D : DT) (P : PT) (hi : i + 4 ≤ L) (h : RI D P D W) (hW : W + 200 < 2 ^ 29) (hce : ce + 171 ≤ 601024) (hsl : sl + 1026 ≤ 7293034) (tl : ∀ (D2 : DT) (P2 : PT), RI D2 P2 D2 (W + 130) → PV K X Q (ce + 171) (sl + 1026) 2865 [some (.ref b), some (.ref (X.2.2 0)), some (.ref (X.2.2 6)), some (.ref (X.2.2 13)), some (.int (nI i)), none, none, none, none] [] D2 P2) : PV K X Q ce sl 704 [some (.ref b), some (.ref (X.2.2 0)), some (.ref (X.2.2 6)), some (.ref (X.2.2 13)), some (.int (nI i)), none, none, none, none] [] D P := by
  obtain ⟨hKl, hKR, C, Z, hNC, hfl, hX, hbl, hbA, hL⟩ := hC
  obtain ⟨⟨s, hs5, hs3⟩, hf0, hd0, hse0, hsk0, n, hn60, hn9⟩ := law_pre h hW
  refine pv_aload_n (q := 705) C dL_law_704 rfl rfl rfl ?_
  refine pv_aload_n (q := 706) C dL_law_705 rfl rfl rfl ?_
  refine pv_iload (q := 708) C dL_law_706 rfl rfl ?_
  refine pv_iconst (q := 709) (v := 1) C dL_law_708 rfl (by decide) ?_
  refine pv_iaddN (q := 710) (a := i) (b := 1) C rfl rfl dL_law_709 rfl ?_
  refine pv_sld (q := 711) (j := i + 1) C hX hbl hbA rfl (by omega) (by omega) dL_law_710 rfl ?_
  refine pv_aload_n (q := 712) C dL_law_711 rfl rfl rfl ?_
  refine pv_iload (q := 714) C dL_law_712 rfl rfl ?_
  refine pv_iconst (q := 715) (v := 2) C dL_law_714 rfl (by decide) ?_
  refine pv_iaddN (q := 716) (a := i) (b := 2) C rfl rfl dL_law_715 rfl ?_
  refine pv_sld (q := 717) (j := i + 2) C hX hbl hbA rfl (by omega) (by omega) dL_law_716 rfl ?_
  refine pv_aload_n (q := 718) C dL_law_717 rfl rfl rfl ?_
  refine pv_callL (q := 721) C Z hNC hKl (c_L_setFilter l X D P hfl D W h hW (xs (i + 1)) (xs (i + 2))) tw_754 mw_L_setFilter ⟨rfl, rfl⟩ (by rw [hKR]; exact ⟨Nat.le_of_ble_eq_true rfl, Nat.le_of_ble_eq_true rfl⟩) (by rw [hKR, room_c.1, room_c.2]; constructor <;> omega) rfl rfl rfl (by decide) dL_law_718 rfl (fun r5 D1 P1 hw => ?_)
  have hFX := hw.2.1
  refine pv_istore (q := 723) C dL_law_721 rfl (Nat.le_of_ble_eq_true rfl) rfl ?_
  refine pv_aload_n (q := 724) C dL_law_723 rfl rfl rfl ?_
  refine pv_aload_n (q := 725) C dL_law_724 rfl rfl rfl ?_
  refine pv_iload (q := 727) C dL_law_725 rfl rfl ?_
  refine pv_iconst (q := 728) (v := 1) C dL_law_727 rfl (by decide) ?_
  refine pv_iaddN (q := 729) (a := i) (b := 1) C rfl rfl dL_law_728 rfl ?_
  refine pv_sld (q := 730) (j := i + 1) C hX hbl hbA rfl (by omega) (by omega) dL_law_729 rfl ?_
  refine pv_aload_n (q := 731) C dL_law_730 rfl rfl rfl ?_
  refine pv_iload (q := 733) C dL_law_731 rfl rfl ?_
  refine pv_iconst (q := 734) (v := 2) C dL_law_733 rfl (by decide) ?_
  refine pv_iaddN (q := 735) (a := i) (b := 2) C rfl rfl dL_law_734 rfl ?_
  refine pv_sld (q := 736) (j := i + 2) C hX hbl hbA rfl (by omega) (by omega) dL_law_735 rfl ?_
  have e6 := hFX 6 (by decide) (by decide)
  have e7 := hFX 7 (by decide) (by decide)
  have e9 := hFX 9 (by decide) (by decide)
  have e12 := hFX 12 (by decide) (by decide)
  refine pv_callVi (q := 739) C hKl (c_X7_setFilter l X D1 P1 (xs (i + 1)) (xs (i + 2)) (⟨s, hs5, by rw [e6]; exact hs3⟩ : sok D1)) tw_1168 (show kd 6 = 7 from rfl) (by decide) rfl mm_X7_setFilter ⟨rfl, rfl⟩ (by rw [hKR]; exact ⟨Nat.le_of_ble_eq_true rfl, Nat.le_of_ble_eq_true rfl⟩) (by rw [hKR, room_c.1, room_c.2]; constructor <;> omega) rfl rfl rfl (Nat.le_of_ble_eq_true rfl) dL_law_736 rfl (fun r6 D2 P2 hp => ?_)
  obtain ⟨hp, rfl⟩ := hp
  skip
  try simp only [e6, e7, e9, e12] at hp
  have hm := zMQ_mr hp rfl
  have hnx := law_next hw hm (agr_up (agr_save (agr_clr (agr_FX hFX))) rfl) (off_up (off_save (off_clr _)) (by decide) (by decide))
  refine pv_istore (q := 741) C dL_law_739 rfl (Nat.le_of_ble_eq_true rfl) rfl ?_
  refine pv_aload_n (q := 742) C dL_law_741 rfl rfl rfl ?_
  refine pv_callVi (q := 745) C hKl (c_X7_thrown l X D2 P1) tw_1041 (show kd 6 = 7 from rfl) (by decide) rfl mm_X7_thrown ⟨rfl, rfl⟩ (by rw [hKR]; exact ⟨Nat.le_of_ble_eq_true rfl, Nat.le_of_ble_eq_true rfl⟩) (by rw [hKR, room_c.1, room_c.2]; constructor <;> omega) rfl rfl rfl (by decide) dL_law_742 rfl (fun r7 D3 P3 hp3 => ?_)
  obtain ⟨rfl, rfl, rfl⟩ := hp3
  refine pv_iload (q := 747) C dL_law_745 rfl rfl ?_
  refine pv_icmp_eq (q := 750) (tgt := 752) C dL_law_747 (by decide) rfl (fun _ => ?_) (fun z => absurd (hm.1.trans hw.1.symm) z)
  refine pv_iload (q := 754) C dL_law_752 rfl rfl ?_
  refine pv_if_ne (q := 757) (tgt := 769) C dL_law_754 (by decide) rfl (fun c0 => ?_) (fun c0 => ?_)
  ·
    refine pv_goto (tgt := 2865) C dL_law_769 (by decide) ?_
    exact PV_widen (ce' := ce + 171) (sl' := sl + 1026) (by omega) (by omega) (PV_le (tl D2 P1 (hnx)) ⟨Or.inr rfl, Or.inr rfl, Or.inr rfl, Or.inr rfl, Or.inr rfl, Or.inl rfl, Or.inl rfl, Or.inl rfl, Or.inl rfl, trivial⟩)
  ·
    obtain ⟨hk0, hv⟩ := WQ_v hw c0
    have hr6 := hm.2.1 hk0
    refine pv_aload_n (q := 758) C dL_law_757 rfl rfl rfl ?_
    refine pv_iconst (q := 759) (v := 0) C dL_law_758 rfl (by decide) ?_
    refine pv_lald (q := 760) C rfl dL_law_759 rfl ?_
    refine pv_iload (q := 762) C dL_law_760 rfl rfl ?_
    refine pv_i2l (q := 763) C dL_law_762 rfl ?_
    refine pv_lcmp (q := 764) C dL_law_763 rfl ?_
    refine pv_if_eq (q := 767) (tgt := 769) C dL_law_764 (by decide) rfl (fun _ => ?_) (fun z => absurd (lg_eq (hv.trans (congrArg Int32.toInt64 hr6.symm))) z)
    refine pv_goto (tgt := 2865) C dL_law_769 (by decide) ?_
    exact PV_widen (ce' := ce + 171) (sl' := sl + 1026) (by omega) (by omega) (PV_le (tl D2 P1 (hnx)) ⟨Or.inr rfl, Or.inr rfl, Or.inr rfl, Or.inr rfl, Or.inr rfl, Or.inl rfl, Or.inl rfl, Or.inl rfl, Or.inl rfl, trivial⟩)
set_option maxRecDepth 100000 in
set_option maxHeartbeats 4000000 in
theorem law_8 (l : Launch) (K : KT) (X : XT) (b L : Nat) (xs : Nat → Int32) (hC : LC l K X b L xs) (Q : State → Prop) (ce sl i W : Nat) (D : DT) (P : PT) (hi : i + 4 ≤ L) (h : RI D P D W) (hW : W + 200 < 2 ^ 29) (hce : ce + 171 ≤ 601024) (hsl : sl + 1026 ≤ 7293034) (tl : ∀ (D2 : DT) (P2 : PT), RI D2 P2 D2 (W + 130) → PV K X Q (ce + 171) (sl + 1026) 2865 [some (.ref b), some (.ref (X.2.2 0)), some (.ref (X.2.2 6)), some (.ref (X.2.2 13)), some (.int (nI i)), none, none, none, none] [] D2 P2) : PV K X Q ce sl 772 [some (.ref b), some (.ref (X.2.2 0)), some (.ref (X.2.2 6)), some (.ref (X.2.2 13)), some (.int (nI i)), none, none, none, none] [] D P := by
  obtain ⟨hKl, hKR, C, Z, hNC, hfl, hX, hbl, hbA, hL⟩ := hC
  obtain ⟨⟨s, hs5, hs3⟩, hf0, hd0, hse0, hsk0, n, hn60, hn9⟩ := law_pre h hW
  refine pv_aload_n (q := 773) C dL_law_772 rfl rfl rfl ?_
  refine pv_aload_n (q := 774) C dL_law_773 rfl rfl rfl ?_
  refine pv_iload (q := 776) C dL_law_774 rfl rfl ?_
  refine pv_iconst (q := 777) (v := 1) C dL_law_776 rfl (by decide) ?_
  refine pv_iaddN (q := 778) (a := i) (b := 1) C rfl rfl dL_law_777 rfl ?_
  refine pv_sld (q := 779) (j := i + 1) C hX hbl hbA rfl (by omega) (by omega) dL_law_778 rfl ?_
  refine pv_aload_n (q := 780) C dL_law_779 rfl rfl rfl ?_
  refine pv_iload (q := 782) C dL_law_780 rfl rfl ?_
  refine pv_iconst (q := 783) (v := 2) C dL_law_782 rfl (by decide) ?_
  refine pv_iaddN (q := 784) (a := i) (b := 2) C rfl rfl dL_law_783 rfl ?_
  refine pv_sld (q := 785) (j := i + 2) C hX hbl hbA rfl (by omega) (by omega) dL_law_784 rfl ?_
  refine pv_aload_n (q := 786) C dL_law_785 rfl rfl rfl ?_
  refine pv_callL (q := 789) C Z hNC hKl (c_L_setBehind l X D P hfl D W h hW (xs (i + 1)) (xs (i + 2))) tw_761 mw_L_setBehind ⟨rfl, rfl⟩ (by rw [hKR]; exact ⟨Nat.le_of_ble_eq_true rfl, Nat.le_of_ble_eq_true rfl⟩) (by rw [hKR, room_c.1, room_c.2]; constructor <;> omega) rfl rfl rfl (by decide) dL_law_786 rfl (fun r5 D1 P1 hw => ?_)
  have hFX := hw.2.1
  refine pv_istore (q := 791) C dL_law_789 rfl (Nat.le_of_ble_eq_true rfl) rfl ?_
  refine pv_aload_n (q := 792) C dL_law_791 rfl rfl rfl ?_
  refine pv_aload_n (q := 793) C dL_law_792 rfl rfl rfl ?_
  refine pv_iload (q := 795) C dL_law_793 rfl rfl ?_
  refine pv_iconst (q := 796) (v := 1) C dL_law_795 rfl (by decide) ?_
  refine pv_iaddN (q := 797) (a := i) (b := 1) C rfl rfl dL_law_796 rfl ?_
  refine pv_sld (q := 798) (j := i + 1) C hX hbl hbA rfl (by omega) (by omega) dL_law_797 rfl ?_
  refine pv_aload_n (q := 799) C dL_law_798 rfl rfl rfl ?_
  refine pv_iload (q := 801) C dL_law_799 rfl rfl ?_
  refine pv_iconst (q := 802) (v := 2) C dL_law_801 rfl (by decide) ?_
  refine pv_iaddN (q := 803) (a := i) (b := 2) C rfl rfl dL_law_802 rfl ?_
  refine pv_sld (q := 804) (j := i + 2) C hX hbl hbA rfl (by omega) (by omega) dL_law_803 rfl ?_
  have e6 := hFX 6 (by decide) (by decide)
  have e7 := hFX 7 (by decide) (by decide)
  have e9 := hFX 9 (by decide) (by decide)
  have e12 := hFX 12 (by decide) (by decide)
  refine pv_callVi (q := 807) C hKl (c_X7_setBehind l X D1 P1 (xs (i + 1)) (xs (i + 2)) (⟨s, hs5, by rw [e6]; exact hs3⟩ : sok D1) (by rw [e7]; exact hf0)) tw_1176 (show kd 6 = 7 from rfl) (by decide) rfl mm_X7_setBehind ⟨rfl, rfl⟩ (by rw [hKR]; exact ⟨Nat.le_of_ble_eq_true rfl, Nat.le_of_ble_eq_true rfl⟩) (by rw [hKR, room_c.1, room_c.2]; constructor <;> omega) rfl rfl rfl (Nat.le_of_ble_eq_true rfl) dL_law_804 rfl (fun r6 D2 P2 hp => ?_)
  obtain ⟨hp, rfl⟩ := hp
  skip
  try simp only [e6, e7, e9, e12] at hp
  have hm := zMQ_mr hp rfl
  have hnx := law_next hw hm (agr_up (agr_save (agr_clr (agr_FX hFX))) rfl) (off_up (off_save (off_clr _)) (by decide) (by decide))
  refine pv_istore (q := 809) C dL_law_807 rfl (Nat.le_of_ble_eq_true rfl) rfl ?_
  refine pv_aload_n (q := 810) C dL_law_809 rfl rfl rfl ?_
  refine pv_callVi (q := 813) C hKl (c_X7_thrown l X D2 P1) tw_1041 (show kd 6 = 7 from rfl) (by decide) rfl mm_X7_thrown ⟨rfl, rfl⟩ (by rw [hKR]; exact ⟨Nat.le_of_ble_eq_true rfl, Nat.le_of_ble_eq_true rfl⟩) (by rw [hKR, room_c.1, room_c.2]; constructor <;> omega) rfl rfl rfl (by decide) dL_law_810 rfl (fun r7 D3 P3 hp3 => ?_)
  obtain ⟨rfl, rfl, rfl⟩ := hp3
  refine pv_iload (q := 815) C dL_law_813 rfl rfl ?_
  refine pv_icmp_eq (q := 818) (tgt := 820) C dL_law_815 (by decide) rfl (fun _ => ?_) (fun z => absurd (hm.1.trans hw.1.symm) z)
  refine pv_iload (q := 822) C dL_law_820 rfl rfl ?_
  refine pv_if_ne (q := 825) (tgt := 837) C dL_law_822 (by decide) rfl (fun c0 => ?_) (fun c0 => ?_)
  ·
    refine pv_goto (tgt := 2865) C dL_law_837 (by decide) ?_
    exact PV_widen (ce' := ce + 171) (sl' := sl + 1026) (by omega) (by omega) (PV_le (tl D2 P1 (hnx)) ⟨Or.inr rfl, Or.inr rfl, Or.inr rfl, Or.inr rfl, Or.inr rfl, Or.inl rfl, Or.inl rfl, Or.inl rfl, Or.inl rfl, trivial⟩)
  ·
    obtain ⟨hk0, hv⟩ := WQ_v hw c0
    have hr6 := hm.2.1 hk0
    refine pv_aload_n (q := 826) C dL_law_825 rfl rfl rfl ?_
    refine pv_iconst (q := 827) (v := 0) C dL_law_826 rfl (by decide) ?_
    refine pv_lald (q := 828) C rfl dL_law_827 rfl ?_
    refine pv_iload (q := 830) C dL_law_828 rfl rfl ?_
    refine pv_i2l (q := 831) C dL_law_830 rfl ?_
    refine pv_lcmp (q := 832) C dL_law_831 rfl ?_
    refine pv_if_eq (q := 835) (tgt := 837) C dL_law_832 (by decide) rfl (fun _ => ?_) (fun z => absurd (lg_eq (hv.trans (congrArg Int32.toInt64 hr6.symm))) z)
    refine pv_goto (tgt := 2865) C dL_law_837 (by decide) ?_
    exact PV_widen (ce' := ce + 171) (sl' := sl + 1026) (by omega) (by omega) (PV_le (tl D2 P1 (hnx)) ⟨Or.inr rfl, Or.inr rfl, Or.inr rfl, Or.inr rfl, Or.inr rfl, Or.inl rfl, Or.inl rfl, Or.inl rfl, Or.inl rfl, trivial⟩)
set_option maxRecDepth 100000 in
set_option maxHeartbeats 4000000 in
theorem law_9 (l : Launch) (K : KT) (X : XT) (b L : Nat) (xs : Nat → Int32) (hC : LC l K X b L xs) (Q : State → Prop) (ce sl i W : Nat) (D : DT) (P : PT) (hi : i + 4 ≤ L) (h : RI D P D W) (hW : W + 200 < 2 ^ 29) (hce : ce + 171 ≤ 601024) (hsl : sl + 1026 ≤ 7293034) (tl : ∀ (D2 : DT) (P2 : PT), RI D2 P2 D2 (W + 130) → PV K X Q (ce + 171) (sl + 1026) 2865 [some (.ref b), some (.ref (X.2.2 0)), some (.ref (X.2.2 6)), some (.ref (X.2.2 13)), some (.int (nI i)), none, none, none, none] [] D2 P2) : PV K X Q ce sl 840 [some (.ref b), some (.ref (X.2.2 0)), some (.ref (X.2.2 6)), some (.ref (X.2.2 13)), some (.int (nI i)), none, none, none, none] [] D P := by
  obtain ⟨hKl, hKR, C, Z, hNC, hfl, hX, hbl, hbA, hL⟩ := hC
  obtain ⟨⟨s, hs5, hs3⟩, hf0, hd0, hse0, hsk0, n, hn60, hn9⟩ := law_pre h hW
  refine pv_aload_n (q := 841) C dL_law_840 rfl rfl rfl ?_
  refine pv_aload_n (q := 842) C dL_law_841 rfl rfl rfl ?_
  refine pv_iload (q := 844) C dL_law_842 rfl rfl ?_
  refine pv_iconst (q := 845) (v := 1) C dL_law_844 rfl (by decide) ?_
  refine pv_iaddN (q := 846) (a := i) (b := 1) C rfl rfl dL_law_845 rfl ?_
  refine pv_sld (q := 847) (j := i + 1) C hX hbl hbA rfl (by omega) (by omega) dL_law_846 rfl ?_
  refine pv_aload_n (q := 848) C dL_law_847 rfl rfl rfl ?_
  refine pv_iload (q := 850) C dL_law_848 rfl rfl ?_
  refine pv_iconst (q := 851) (v := 2) C dL_law_850 rfl (by decide) ?_
  refine pv_iaddN (q := 852) (a := i) (b := 2) C rfl rfl dL_law_851 rfl ?_
  refine pv_sld (q := 853) (j := i + 2) C hX hbl hbA rfl (by omega) (by omega) dL_law_852 rfl ?_
  refine pv_aload_n (q := 854) C dL_law_853 rfl rfl rfl ?_
  refine pv_callL (q := 857) C Z hNC hKl (c_L_setLongest l X D P hfl D W h hW (xs (i + 1)) (xs (i + 2))) tw_773 mw_L_setLongest ⟨rfl, rfl⟩ (by rw [hKR]; exact ⟨Nat.le_of_ble_eq_true rfl, Nat.le_of_ble_eq_true rfl⟩) (by rw [hKR, room_c.1, room_c.2]; constructor <;> omega) rfl rfl rfl (by decide) dL_law_854 rfl (fun r5 D1 P1 hw => ?_)
  have hFX := hw.2.1
  refine pv_istore (q := 859) C dL_law_857 rfl (Nat.le_of_ble_eq_true rfl) rfl ?_
  refine pv_aload_n (q := 860) C dL_law_859 rfl rfl rfl ?_
  refine pv_aload_n (q := 861) C dL_law_860 rfl rfl rfl ?_
  refine pv_iload (q := 863) C dL_law_861 rfl rfl ?_
  refine pv_iconst (q := 864) (v := 1) C dL_law_863 rfl (by decide) ?_
  refine pv_iaddN (q := 865) (a := i) (b := 1) C rfl rfl dL_law_864 rfl ?_
  refine pv_sld (q := 866) (j := i + 1) C hX hbl hbA rfl (by omega) (by omega) dL_law_865 rfl ?_
  refine pv_aload_n (q := 867) C dL_law_866 rfl rfl rfl ?_
  refine pv_iload (q := 869) C dL_law_867 rfl rfl ?_
  refine pv_iconst (q := 870) (v := 2) C dL_law_869 rfl (by decide) ?_
  refine pv_iaddN (q := 871) (a := i) (b := 2) C rfl rfl dL_law_870 rfl ?_
  refine pv_sld (q := 872) (j := i + 2) C hX hbl hbA rfl (by omega) (by omega) dL_law_871 rfl ?_
  have e6 := hFX 6 (by decide) (by decide)
  have e7 := hFX 7 (by decide) (by decide)
  have e9 := hFX 9 (by decide) (by decide)
  have e12 := hFX 12 (by decide) (by decide)
  refine pv_callVi (q := 875) C hKl (c_X7_setLongest l X D1 P1 (xs (i + 1)) (xs (i + 2)) (⟨s, hs5, by rw [e6]; exact hs3⟩ : sok D1)) tw_1181 (show kd 6 = 7 from rfl) (by decide) rfl mm_X7_setLongest ⟨rfl, rfl⟩ (by rw [hKR]; exact ⟨Nat.le_of_ble_eq_true rfl, Nat.le_of_ble_eq_true rfl⟩) (by rw [hKR, room_c.1, room_c.2]; constructor <;> omega) rfl rfl rfl (Nat.le_of_ble_eq_true rfl) dL_law_872 rfl (fun r6 D2 P2 hp => ?_)
  obtain ⟨hp, rfl⟩ := hp
  skip
  try simp only [e6, e7, e9, e12] at hp
  have hm := zMQ_mr hp rfl
  have hnx := law_next hw hm (agr_up (agr_save (agr_clr (agr_FX hFX))) rfl) (off_up (off_save (off_clr _)) (by decide) (by decide))
  refine pv_istore (q := 877) C dL_law_875 rfl (Nat.le_of_ble_eq_true rfl) rfl ?_
  refine pv_aload_n (q := 878) C dL_law_877 rfl rfl rfl ?_
  refine pv_callVi (q := 881) C hKl (c_X7_thrown l X D2 P1) tw_1041 (show kd 6 = 7 from rfl) (by decide) rfl mm_X7_thrown ⟨rfl, rfl⟩ (by rw [hKR]; exact ⟨Nat.le_of_ble_eq_true rfl, Nat.le_of_ble_eq_true rfl⟩) (by rw [hKR, room_c.1, room_c.2]; constructor <;> omega) rfl rfl rfl (by decide) dL_law_878 rfl (fun r7 D3 P3 hp3 => ?_)
  obtain ⟨rfl, rfl, rfl⟩ := hp3
  refine pv_iload (q := 883) C dL_law_881 rfl rfl ?_
  refine pv_icmp_eq (q := 886) (tgt := 888) C dL_law_883 (by decide) rfl (fun _ => ?_) (fun z => absurd (hm.1.trans hw.1.symm) z)
  refine pv_iload (q := 890) C dL_law_888 rfl rfl ?_
  refine pv_if_ne (q := 893) (tgt := 905) C dL_law_890 (by decide) rfl (fun c0 => ?_) (fun c0 => ?_)
  ·
    refine pv_goto (tgt := 2865) C dL_law_905 (by decide) ?_
    exact PV_widen (ce' := ce + 171) (sl' := sl + 1026) (by omega) (by omega) (PV_le (tl D2 P1 (hnx)) ⟨Or.inr rfl, Or.inr rfl, Or.inr rfl, Or.inr rfl, Or.inr rfl, Or.inl rfl, Or.inl rfl, Or.inl rfl, Or.inl rfl, trivial⟩)
  ·
    obtain ⟨hk0, hv⟩ := WQ_v hw c0
    have hr6 := hm.2.1 hk0
    refine pv_aload_n (q := 894) C dL_law_893 rfl rfl rfl ?_
    refine pv_iconst (q := 895) (v := 0) C dL_law_894 rfl (by decide) ?_
    refine pv_lald (q := 896) C rfl dL_law_895 rfl ?_
    refine pv_iload (q := 898) C dL_law_896 rfl rfl ?_
    refine pv_i2l (q := 899) C dL_law_898 rfl ?_
    refine pv_lcmp (q := 900) C dL_law_899 rfl ?_
    refine pv_if_eq (q := 903) (tgt := 905) C dL_law_900 (by decide) rfl (fun _ => ?_) (fun z => absurd (lg_eq (hv.trans (congrArg Int32.toInt64 hr6.symm))) z)
    refine pv_goto (tgt := 2865) C dL_law_905 (by decide) ?_
    exact PV_widen (ce' := ce + 171) (sl' := sl + 1026) (by omega) (by omega) (PV_le (tl D2 P1 (hnx)) ⟨Or.inr rfl, Or.inr rfl, Or.inr rfl, Or.inr rfl, Or.inr rfl, Or.inl rfl, Or.inl rfl, Or.inl rfl, Or.inl rfl, trivial⟩)
set_option maxRecDepth 100000 in
set_option maxHeartbeats 4000000 in
theorem law_10 (l : Launch) (K : KT) (X : XT) (b L : Nat) (xs : Nat → Int32) (hC : LC l K X b L xs) (Q : State → Prop) (ce sl i W : Nat) (D : DT) (P : PT) (hi : i + 4 ≤ L) (h : RI D P D W) (hW : W + 200 < 2 ^ 29) (hce : ce + 171 ≤ 601024) (hsl : sl + 1026 ≤ 7293034) (tl : ∀ (D2 : DT) (P2 : PT), RI D2 P2 D2 (W + 130) → PV K X Q (ce + 171) (sl + 1026) 2865 [some (.ref b), some (.ref (X.2.2 0)), some (.ref (X.2.2 6)), some (.ref (X.2.2 13)), some (.int (nI i)), none, none, none, none] [] D2 P2) : PV K X Q ce sl 908 [some (.ref b), some (.ref (X.2.2 0)), some (.ref (X.2.2 6)), some (.ref (X.2.2 13)), some (.int (nI i)), none, none, none, none] [] D P := by
  obtain ⟨hKl, hKR, C, Z, hNC, hfl, hX, hbl, hbA, hL⟩ := hC
  obtain ⟨⟨s, hs5, hs3⟩, hf0, hd0, hse0, hsk0, n, hn60, hn9⟩ := law_pre h hW
  refine pv_aload_n (q := 909) C dL_law_908 rfl rfl rfl ?_
  refine pv_aload_n (q := 910) C dL_law_909 rfl rfl rfl ?_
  refine pv_iload (q := 912) C dL_law_910 rfl rfl ?_
  refine pv_iconst (q := 913) (v := 1) C dL_law_912 rfl (by decide) ?_
  refine pv_iaddN (q := 914) (a := i) (b := 1) C rfl rfl dL_law_913 rfl ?_
  refine pv_sld (q := 915) (j := i + 1) C hX hbl hbA rfl (by omega) (by omega) dL_law_914 rfl ?_
  refine pv_aload_n (q := 916) C dL_law_915 rfl rfl rfl ?_
  refine pv_callL (q := 919) C Z hNC hKl (c_L_pass l X D P hfl D W h hW (xs (i + 1))) tw_780 mw_L_pass ⟨rfl, rfl⟩ (by rw [hKR]; exact ⟨Nat.le_of_ble_eq_true rfl, Nat.le_of_ble_eq_true rfl⟩) (by rw [hKR, room_c.1, room_c.2]; constructor <;> omega) rfl rfl rfl (by decide) dL_law_916 rfl (fun r5 D1 P1 hw => ?_)
  have hFX := hw.2.1
  refine pv_istore (q := 921) C dL_law_919 rfl (Nat.le_of_ble_eq_true rfl) rfl ?_
  refine pv_aload_n (q := 922) C dL_law_921 rfl rfl rfl ?_
  refine pv_aload_n (q := 923) C dL_law_922 rfl rfl rfl ?_
  refine pv_iload (q := 925) C dL_law_923 rfl rfl ?_
  refine pv_iconst (q := 926) (v := 1) C dL_law_925 rfl (by decide) ?_
  refine pv_iaddN (q := 927) (a := i) (b := 1) C rfl rfl dL_law_926 rfl ?_
  refine pv_sld (q := 928) (j := i + 1) C hX hbl hbA rfl (by omega) (by omega) dL_law_927 rfl ?_
  have e6 := hFX 6 (by decide) (by decide)
  have e7 := hFX 7 (by decide) (by decide)
  have e9 := hFX 9 (by decide) (by decide)
  have e12 := hFX 12 (by decide) (by decide)
  refine pv_callVi (q := 931) C hKl (c_X7_pass l X D1 P1 (xs (i + 1)) (⟨s, hs5, by rw [e6]; exact hs3⟩ : sok D1) (by rw [e7]; exact hf0)) tw_1185 (show kd 6 = 7 from rfl) (by decide) rfl mm_X7_pass ⟨rfl, rfl⟩ (by rw [hKR]; exact ⟨Nat.le_of_ble_eq_true rfl, Nat.le_of_ble_eq_true rfl⟩) (by rw [hKR, room_c.1, room_c.2]; constructor <;> omega) rfl rfl rfl (Nat.le_of_ble_eq_true rfl) dL_law_928 rfl (fun r6 D2 P2 hp => ?_)
  obtain ⟨hp, rfl⟩ := hp
  skip
  try simp only [e6, e7, e9, e12] at hp
  have hm := zMQ_mr hp rfl
  have hnx := law_next hw hm (agr_up (agr_save (agr_clr (agr_FX hFX))) rfl) (off_up (off_save (off_clr _)) (by decide) (by decide))
  refine pv_istore (q := 933) C dL_law_931 rfl (Nat.le_of_ble_eq_true rfl) rfl ?_
  refine pv_aload_n (q := 934) C dL_law_933 rfl rfl rfl ?_
  refine pv_callVi (q := 937) C hKl (c_X7_thrown l X D2 P1) tw_1041 (show kd 6 = 7 from rfl) (by decide) rfl mm_X7_thrown ⟨rfl, rfl⟩ (by rw [hKR]; exact ⟨Nat.le_of_ble_eq_true rfl, Nat.le_of_ble_eq_true rfl⟩) (by rw [hKR, room_c.1, room_c.2]; constructor <;> omega) rfl rfl rfl (by decide) dL_law_934 rfl (fun r7 D3 P3 hp3 => ?_)
  obtain ⟨rfl, rfl, rfl⟩ := hp3
  refine pv_iload (q := 939) C dL_law_937 rfl rfl ?_
  refine pv_icmp_eq (q := 942) (tgt := 944) C dL_law_939 (by decide) rfl (fun _ => ?_) (fun z => absurd (hm.1.trans hw.1.symm) z)
  refine pv_iload (q := 946) C dL_law_944 rfl rfl ?_
  refine pv_if_ne (q := 949) (tgt := 961) C dL_law_946 (by decide) rfl (fun c0 => ?_) (fun c0 => ?_)
  ·
    refine pv_goto (tgt := 2865) C dL_law_961 (by decide) ?_
    exact PV_widen (ce' := ce + 171) (sl' := sl + 1026) (by omega) (by omega) (PV_le (tl D2 P1 (hnx)) ⟨Or.inr rfl, Or.inr rfl, Or.inr rfl, Or.inr rfl, Or.inr rfl, Or.inl rfl, Or.inl rfl, Or.inl rfl, Or.inl rfl, trivial⟩)
  ·
    obtain ⟨hk0, hv⟩ := WQ_v hw c0
    have hr6 := hm.2.1 hk0
    refine pv_aload_n (q := 950) C dL_law_949 rfl rfl rfl ?_
    refine pv_iconst (q := 951) (v := 0) C dL_law_950 rfl (by decide) ?_
    refine pv_lald (q := 952) C rfl dL_law_951 rfl ?_
    refine pv_iload (q := 954) C dL_law_952 rfl rfl ?_
    refine pv_i2l (q := 955) C dL_law_954 rfl ?_
    refine pv_lcmp (q := 956) C dL_law_955 rfl ?_
    refine pv_if_eq (q := 959) (tgt := 961) C dL_law_956 (by decide) rfl (fun _ => ?_) (fun z => absurd (lg_eq (hv.trans (congrArg Int32.toInt64 hr6.symm))) z)
    refine pv_goto (tgt := 2865) C dL_law_961 (by decide) ?_
    exact PV_widen (ce' := ce + 171) (sl' := sl + 1026) (by omega) (by omega) (PV_le (tl D2 P1 (hnx)) ⟨Or.inr rfl, Or.inr rfl, Or.inr rfl, Or.inr rfl, Or.inr rfl, Or.inl rfl, Or.inl rfl, Or.inl rfl, Or.inl rfl, trivial⟩)
set_option maxRecDepth 100000 in
set_option maxHeartbeats 4000000 in
theorem law_11 (l : Launch) (K : KT) (X : XT) (b L : Nat) (xs : Nat → Int32) (hC : LC l K X b L xs) (Q : State → Prop) (ce sl i W : Nat) (D : DT) (P : PT) (hi : i + 4 ≤ L) (h : RI D P D W) (hW : W + 200 < 2 ^ 29) (hce : ce + 171 ≤ 601024) (hsl : sl + 1026 ≤ 7293034) (tl : ∀ (D2 : DT) (P2 : PT), RI D2 P2 D2 (W + 130) → PV K X Q (ce + 171) (sl + 1026) 2865 [some (.ref b), some (.ref (X.2.2 0)), some (.ref (X.2.2 6)), some (.ref (X.2.2 13)), some (.int (nI i)), none, none, none, none] [] D2 P2) : PV K X Q ce sl 964 [some (.ref b), some (.ref (X.2.2 0)), some (.ref (X.2.2 6)), some (.ref (X.2.2 13)), some (.int (nI i)), none, none, none, none] [] D P := by
  obtain ⟨hKl, hKR, C, Z, hNC, hfl, hX, hbl, hbA, hL⟩ := hC
  obtain ⟨⟨s, hs5, hs3⟩, hf0, hd0, hse0, hsk0, n, hn60, hn9⟩ := law_pre h hW
  refine pv_aload_n (q := 965) C dL_law_964 rfl rfl rfl ?_
  refine pv_aload_n (q := 966) C dL_law_965 rfl rfl rfl ?_
  refine pv_iload (q := 968) C dL_law_966 rfl rfl ?_
  refine pv_iconst (q := 969) (v := 1) C dL_law_968 rfl (by decide) ?_
  refine pv_iaddN (q := 970) (a := i) (b := 1) C rfl rfl dL_law_969 rfl ?_
  refine pv_sld (q := 971) (j := i + 1) C hX hbl hbA rfl (by omega) (by omega) dL_law_970 rfl ?_
  refine pv_aload_n (q := 972) C dL_law_971 rfl rfl rfl ?_
  refine pv_callL (q := 975) C Z hNC hKl (c_L_append l X D P hfl D W h hW n hn60 hn9 (xs (i + 1))) tw_796 mw_L_append ⟨rfl, rfl⟩ (by rw [hKR]; exact ⟨Nat.le_of_ble_eq_true rfl, Nat.le_of_ble_eq_true rfl⟩) (by rw [hKR, room_c.1, room_c.2]; constructor <;> omega) rfl rfl rfl (by decide) dL_law_972 rfl (fun r5 D1 P1 hw => ?_)
  have hFX := hw.2.1
  refine pv_istore (q := 977) C dL_law_975 rfl (Nat.le_of_ble_eq_true rfl) rfl ?_
  refine pv_aload_n (q := 978) C dL_law_977 rfl rfl rfl ?_
  refine pv_aload_n (q := 979) C dL_law_978 rfl rfl rfl ?_
  refine pv_iload (q := 981) C dL_law_979 rfl rfl ?_
  refine pv_iconst (q := 982) (v := 1) C dL_law_981 rfl (by decide) ?_
  refine pv_iaddN (q := 983) (a := i) (b := 1) C rfl rfl dL_law_982 rfl ?_
  refine pv_sld (q := 984) (j := i + 1) C hX hbl hbA rfl (by omega) (by omega) dL_law_983 rfl ?_
  have e6 := hFX 6 (by decide) (by decide)
  have e7 := hFX 7 (by decide) (by decide)
  have e9 := hFX 9 (by decide) (by decide)
  have e12 := hFX 12 (by decide) (by decide)
  refine pv_callVi (q := 987) C hKl (c_X7_append l X D1 P1 (xs (i + 1)) n hn60 (by rw [e6]; exact hn9)) tw_1193 (show kd 6 = 7 from rfl) (by decide) rfl mm_X7_append ⟨rfl, rfl⟩ (by rw [hKR]; exact ⟨Nat.le_of_ble_eq_true rfl, Nat.le_of_ble_eq_true rfl⟩) (by rw [hKR, room_c.1, room_c.2]; constructor <;> omega) rfl rfl rfl (Nat.le_of_ble_eq_true rfl) dL_law_984 rfl (fun r6 D2 P2 hp => ?_)
  obtain ⟨hp, rfl⟩ := hp
  skip
  try simp only [e6, e7, e9, e12] at hp
  have hm := zMQ_mr hp rfl
  have hnx := law_next hw hm (agr_up2 (agr_up2 (agr_clr (agr_FX hFX)) (by decide) (by decide) rfl) (by decide) (by decide) rfl) (off_up2 (off_up2 (off_clr _) (by decide) (by decide)) (by decide) (by decide))
  refine pv_istore (q := 989) C dL_law_987 rfl (Nat.le_of_ble_eq_true rfl) rfl ?_
  refine pv_aload_n (q := 990) C dL_law_989 rfl rfl rfl ?_
  refine pv_callVi (q := 993) C hKl (c_X7_thrown l X D2 P1) tw_1041 (show kd 6 = 7 from rfl) (by decide) rfl mm_X7_thrown ⟨rfl, rfl⟩ (by rw [hKR]; exact ⟨Nat.le_of_ble_eq_true rfl, Nat.le_of_ble_eq_true rfl⟩) (by rw [hKR, room_c.1, room_c.2]; constructor <;> omega) rfl rfl rfl (by decide) dL_law_990 rfl (fun r7 D3 P3 hp3 => ?_)
  obtain ⟨rfl, rfl, rfl⟩ := hp3
  refine pv_iload (q := 995) C dL_law_993 rfl rfl ?_
  refine pv_icmp_eq (q := 998) (tgt := 1000) C dL_law_995 (by decide) rfl (fun _ => ?_) (fun z => absurd (hm.1.trans hw.1.symm) z)
  refine pv_iload (q := 1002) C dL_law_1000 rfl rfl ?_
  refine pv_if_ne (q := 1005) (tgt := 1017) C dL_law_1002 (by decide) rfl (fun c0 => ?_) (fun c0 => ?_)
  ·
    refine pv_goto (tgt := 2865) C dL_law_1017 (by decide) ?_
    exact PV_widen (ce' := ce + 171) (sl' := sl + 1026) (by omega) (by omega) (PV_le (tl D2 P1 (hnx)) ⟨Or.inr rfl, Or.inr rfl, Or.inr rfl, Or.inr rfl, Or.inr rfl, Or.inl rfl, Or.inl rfl, Or.inl rfl, Or.inl rfl, trivial⟩)
  ·
    obtain ⟨hk0, hv⟩ := WQ_v hw c0
    have hr6 := hm.2.1 hk0
    refine pv_aload_n (q := 1006) C dL_law_1005 rfl rfl rfl ?_
    refine pv_iconst (q := 1007) (v := 0) C dL_law_1006 rfl (by decide) ?_
    refine pv_lald (q := 1008) C rfl dL_law_1007 rfl ?_
    refine pv_iload (q := 1010) C dL_law_1008 rfl rfl ?_
    refine pv_i2l (q := 1011) C dL_law_1010 rfl ?_
    refine pv_lcmp (q := 1012) C dL_law_1011 rfl ?_
    refine pv_if_eq (q := 1015) (tgt := 1017) C dL_law_1012 (by decide) rfl (fun _ => ?_) (fun z => absurd (lg_eq (hv.trans (congrArg Int32.toInt64 hr6.symm))) z)
    refine pv_goto (tgt := 2865) C dL_law_1017 (by decide) ?_
    exact PV_widen (ce' := ce + 171) (sl' := sl + 1026) (by omega) (by omega) (PV_le (tl D2 P1 (hnx)) ⟨Or.inr rfl, Or.inr rfl, Or.inr rfl, Or.inr rfl, Or.inr rfl, Or.inl rfl, Or.inl rfl, Or.inl rfl, Or.inl rfl, trivial⟩)
set_option maxRecDepth 100000 in
set_option maxHeartbeats 4000000 in
theorem law_12 (l : Launch) (K : KT) (X : XT) (b L : Nat) (xs : Nat → Int32) (hC : LC l K X b L xs) (Q : State → Prop) (ce sl i W : Nat) (D : DT) (P : PT) (hi : i + 4 ≤ L) (h : RI D P D W) (hW : W + 200 < 2 ^ 29) (hce : ce + 171 ≤ 601024) (hsl : sl + 1026 ≤ 7293034) (tl : ∀ (D2 : DT) (P2 : PT), RI D2 P2 D2 (W + 130) → PV K X Q (ce + 171) (sl + 1026) 2865 [some (.ref b), some (.ref (X.2.2 0)), some (.ref (X.2.2 6)), some (.ref (X.2.2 13)), some (.int (nI i)), none, none, none, none] [] D2 P2) : PV K X Q ce sl 1020 [some (.ref b), some (.ref (X.2.2 0)), some (.ref (X.2.2 6)), some (.ref (X.2.2 13)), some (.int (nI i)), none, none, none, none] [] D P := by
  obtain ⟨hKl, hKR, C, Z, hNC, hfl, hX, hbl, hbA, hL⟩ := hC
  obtain ⟨⟨s, hs5, hs3⟩, hf0, hd0, hse0, hsk0, n, hn60, hn9⟩ := law_pre h hW
  refine pv_aload_n (q := 1021) C dL_law_1020 rfl rfl rfl ?_
  refine pv_callVi (q := 1024) C hKl (c_X6_clearBuffer l X D P D W h hW) tw_228 (show kd 0 = 6 from rfl) (by decide) rfl mm_X6_clearBuffer ⟨rfl, rfl⟩ (by rw [hKR]; exact ⟨Nat.le_of_ble_eq_true rfl, Nat.le_of_ble_eq_true rfl⟩) (by rw [hKR, room_c.1, room_c.2]; constructor <;> omega) rfl rfl rfl (by decide) dL_law_1021 rfl (fun r5 D1 P1 hc => ?_)
  obtain ⟨hr, hRI2, hFX⟩ := hc
  have hw : WQ 0 P1.2 D (up2 (clr D) 6 9 0) D W 0 D1 P1 := ⟨rfl, hFX, Or.inl ⟨rfl, rfl, hRI2⟩⟩
  refine pv_aload_n (q := 1025) C dL_law_1024 rfl rfl rfl ?_
  have e6 := hFX 6 (by decide) (by decide)
  have e7 := hFX 7 (by decide) (by decide)
  have e9 := hFX 9 (by decide) (by decide)
  have e12 := hFX 12 (by decide) (by decide)
  refine pv_callVi (q := 1028) C hKl (c_X7_clearBuffer l X D1 P1 ) tw_1199 (show kd 6 = 7 from rfl) (by decide) rfl mm_X7_clearBuffer ⟨rfl, rfl⟩ (by rw [hKR]; exact ⟨Nat.le_of_ble_eq_true rfl, Nat.le_of_ble_eq_true rfl⟩) (by rw [hKR, room_c.1, room_c.2]; constructor <;> omega) rfl rfl rfl (Nat.le_of_ble_eq_true rfl) dL_law_1025 rfl (fun r6 D2 P2 hp => ?_)
  obtain ⟨hp, rfl⟩ := hp
  skip
  try simp only [e6, e7, e9, e12] at hp
  have hm := zMQ_mr hp rfl
  have hnx := law_next hw hm (agr_up2 (agr_clr (agr_FX hFX)) (by decide) (by decide) rfl) (off_up2 (off_clr _) (by decide) (by decide))
  have hr6 := hm.2.1 rfl
  refine pv_icmp_eq (q := 1031) (tgt := 2865) C dL_law_1028 (by decide) rfl (fun _ => ?_) (fun z => absurd (hr.trans hr6.symm) z)
  exact PV_widen (ce' := ce + 171) (sl' := sl + 1026) (by omega) (by omega) (PV_le (tl D2 P1 (hnx)) ⟨Or.inr rfl, Or.inr rfl, Or.inr rfl, Or.inr rfl, Or.inr rfl, Or.inl rfl, Or.inl rfl, Or.inl rfl, Or.inl rfl, trivial⟩)
set_option maxRecDepth 100000 in
set_option maxHeartbeats 4000000 in
theorem law_13 (l : Launch) (K : KT) (X : XT) (b L : Nat) (xs : Nat → Int32) (hC : LC l K X b L xs) (Q : State → Prop) (ce sl i W : Nat) (D : DT) (P : PT) (hi : i + 4 ≤ L) (h : RI D P D W) (hW : W + 200 < 2 ^ 29) (hce : ce + 171 ≤ 601024) (hsl : sl + 1026 ≤ 7293034) (tl : ∀ (D2 : DT) (P2 : PT), RI D2 P2 D2 (W + 130) → PV K X Q (ce + 171) (sl + 1026) 2865 [some (.ref b), some (.ref (X.2.2 0)), some (.ref (X.2.2 6)), some (.ref (X.2.2 13)), some (.int (nI i)), none, none, none, none] [] D2 P2) : PV K X Q ce sl 1033 [some (.ref b), some (.ref (X.2.2 0)), some (.ref (X.2.2 6)), some (.ref (X.2.2 13)), some (.int (nI i)), none, none, none, none] [] D P := by
  obtain ⟨hKl, hKR, C, Z, hNC, hfl, hX, hbl, hbA, hL⟩ := hC
  obtain ⟨⟨s, hs5, hs3⟩, hf0, hd0, hse0, hsk0, n, hn60, hn9⟩ := law_pre h hW
  refine pv_aload_n (q := 1034) C dL_law_1033 rfl rfl rfl ?_
  refine pv_callVi (q := 1037) C hKl (c_X6_firstError l X D P D W h hW n hn60 hn9) tw_232 (show kd 0 = 6 from rfl) (by decide) rfl mm_X6_firstError ⟨rfl, rfl⟩ (by rw [hKR]; exact ⟨Nat.le_of_ble_eq_true rfl, Nat.le_of_ble_eq_true rfl⟩) (by rw [hKR, room_c.1, room_c.2]; constructor <;> omega) rfl rfl rfl (by decide) dL_law_1034 rfl (fun r5 D1 P1 hc => ?_)
  obtain ⟨hr, hRI2, hFX⟩ := hc
  have hw : WQ 0 P1.2 D D D W 0 D1 P1 := ⟨rfl, hFX, Or.inl ⟨rfl, rfl, hRI2⟩⟩
  refine pv_aload_n (q := 1038) C dL_law_1037 rfl rfl rfl ?_
  have e6 := hFX 6 (by decide) (by decide)
  have e7 := hFX 7 (by decide) (by decide)
  have e9 := hFX 9 (by decide) (by decide)
  have e12 := hFX 12 (by decide) (by decide)
  refine pv_callVi (q := 1041) C hKl (c_X7_firstError l X D1 P1 n (by rw [e6]; exact hn9) hn60) tw_1203 (show kd 6 = 7 from rfl) (by decide) rfl mm_X7_firstError ⟨rfl, rfl⟩ (by rw [hKR]; exact ⟨Nat.le_of_ble_eq_true rfl, Nat.le_of_ble_eq_true rfl⟩) (by rw [hKR, room_c.1, room_c.2]; constructor <;> omega) rfl rfl rfl (Nat.le_of_ble_eq_true rfl) dL_law_1038 rfl (fun r6 D2 P2 hp => ?_)
  obtain ⟨hp, rfl⟩ := hp
  skip
  try simp only [e6, e7, e9, e12] at hp
  have hm := zMQ_rd hp
  have hnx := law_next hw hm (agr_FX hFX) (off_rf _)
  have hr6 := hm.2.1 rfl
  refine pv_icmp_eq (q := 1044) (tgt := 2865) C dL_law_1041 (by decide) rfl (fun _ => ?_) (fun z => absurd (hr.trans hr6.symm) z)
  exact PV_widen (ce' := ce + 171) (sl' := sl + 1026) (by omega) (by omega) (PV_le (tl D2 P1 (hnx)) ⟨Or.inr rfl, Or.inr rfl, Or.inr rfl, Or.inr rfl, Or.inr rfl, Or.inl rfl, Or.inl rfl, Or.inl rfl, Or.inl rfl, trivial⟩)
