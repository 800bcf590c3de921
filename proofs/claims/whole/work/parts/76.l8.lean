/-! the law's loop -/
theorem sw_out {x : Int32} (h : ∀ k : Nat, k ≤ 52 → ¬ x = nI k) : x.toInt < 0 ∨ 52 < x.toInt := by
  by_cases q : x.toInt < 0 ∨ 52 < x.toInt
  · exact q
  · exfalso
    have h1 : 0 ≤ x.toInt := by omega
    have h2 : x.toInt ≤ 52 := by omega
    refine h x.toInt.toNat (by omega) (Int32.toInt_inj.mp ?_)
    rw [nI_toInt (by omega)]
    omega
theorem len4 {i L : Nat} (hi : i ≤ L) (hL : L ≤ 2048) (h4 : i % 4 = 0) (h : ¬ nI L - 4 < nI i) : i + 4 ≤ L := by
  rcases Nat.lt_or_ge L 4 with q | q
  · exfalso
    have e : i = 0 := by omega
    subst e
    rcases (show L = 0 ∨ L = 1 ∨ L = 2 ∨ L = 3 by omega) with e | e | e | e <;> subst e <;> exact h (by decide)
  · rw [show nI L - 4 = nI (L - 4) from pk_sub (b := 4) q] at h
    rcases Nat.lt_or_ge (L - 4) i with z | z
    · exfalso
      apply h
      rw [i32_lt, nI_toInt (by omega), nI_toInt (by omega)]
      omega
    · omega
set_option maxRecDepth 100000 in
set_option maxHeartbeats 8000000 in
theorem law_loop (l : Launch) (K : KT) (X : XT) (b L : Nat) (xs : Nat → Int32) (hC : LC l K X b L xs) (Q : State → Prop) (fin : ∀ (D : DT) (P : PT), PV K X Q 601024 7293034 2871 [some (.ref b), some (.ref (X.2.2 0)), some (.ref (X.2.2 6)), some (.ref (X.2.2 13)), none, none, none, none, none] [] D P) : ∀ (nn k : Nat) (D : DT) (P : PT), 600 ≤ k + nn → 4 * k ≤ L → RI D P D (130 * k) → PV K X Q (297 + 171 * k) (5007 + 1026 * k) 23 [some (.ref b), some (.ref (X.2.2 0)), some (.ref (X.2.2 6)), some (.ref (X.2.2 13)), some (.int (nI (4 * k))), none, none, none, none] [] D P := by
  obtain ⟨hKl, hKR, C, Z, hNC, hfl, hX, hbl, hbA, hL⟩ := id hC
  intro nn
  induction nn with
  | zero =>
    intro k D P hfuel hk
    exact absurd hfuel (by omega)
  | succ nn ih =>
    intro k D P hfuel hk h
    refine pv_iload (q := 25) C dL_law_23 rfl rfl ?_
    refine pv_aload_n (q := 26) C dL_law_25 rfl rfl rfl ?_
    refine pv_slen (q := 27) C hX hbl hbA dL_law_26 rfl ?_
    refine pv_iconst (q := 28) (v := 4) C dL_law_27 rfl (by decide) ?_
    refine pv_isub (q := 29) C dL_law_28 rfl ?_
    refine pv_icmp_gt (q := 32) (tgt := 2871) C dL_law_29 (by decide) rfl (fun _ => ?_) (fun hgt => ?_)
    · exact PV_widen (by omega) (by omega) (PV_le (fin D P) ⟨Or.inr rfl, Or.inr rfl, Or.inr rfl, Or.inr rfl, Or.inl rfl, Or.inl rfl, Or.inl rfl, Or.inl rfl, Or.inl rfl, trivial⟩)
    have hi := len4 hk hL (by omega) hgt
    refine pv_aload_n (q := 33) C dL_law_32 rfl rfl rfl ?_
    refine pv_iload (q := 35) C dL_law_33 rfl rfl ?_
    refine pv_sld (q := 36) (j := 4 * k) C hX hbl hbA rfl (by omega) (by omega) dL_law_35 rfl ?_
    refine pv_bipush (q := 38) (v := 63) C dL_law_36 rfl (by decide) ?_
    refine pv_iand (q := 39) C dL_law_38 rfl ?_
    have tl : ∀ (D2 : DT) (P2 : PT), RI D2 P2 D2 (130 * k + 130) → PV K X Q (297 + 171 * k + 171) (5007 + 1026 * k + 1026) 2865 [some (.ref b), some (.ref (X.2.2 0)), some (.ref (X.2.2 6)), some (.ref (X.2.2 13)), some (.int (nI (4 * k))), none, none, none, none] [] D2 P2 := by
      intro D2 P2 h2
      refine pv_iinc (q := 2868) (v := nI (4 * (k + 1))) C dL_law_2865 rfl rfl (nI_add _ 4) rfl ?_
      refine pv_goto (tgt := 23) C dL_law_2868 (by decide) ?_
      exact PV_widen (by omega) (by omega) (ih (k + 1) D2 P2 (by omega) (by omega) h2)
    generalize hx : xs (4 * k) &&& 63 = x
    by_cases s_0 : x = 0
    · rw [s_0]
      refine pv_tableIn (tgt := 264) (off := 225) C dL_law_39 (by decide) (by decide) rfl (by decide) ?_
      exact law_0 l K X b L xs hC Q _ _ (4 * k) (130 * k) D P hi h (by omega) (by omega) (by omega) tl
    by_cases s_1 : x = 1
    · rw [s_1]
      refine pv_tableIn (tgt := 344) (off := 305) C dL_law_39 (by decide) (by decide) rfl (by decide) ?_
      exact law_1 l K X b L xs hC Q _ _ (4 * k) (130 * k) D P hi h (by omega) (by omega) (by omega) tl
    by_cases s_2 : x = 2
    · rw [s_2]
      refine pv_tableIn (tgt := 412) (off := 373) C dL_law_39 (by decide) (by decide) rfl (by decide) ?_
      exact law_2 l K X b L xs hC Q _ _ (4 * k) (130 * k) D P hi h (by omega) (by omega) (by omega) tl
    by_cases s_3 : x = 3
    · rw [s_3]
      refine pv_tableIn (tgt := 480) (off := 441) C dL_law_39 (by decide) (by decide) rfl (by decide) ?_
      exact law_3 l K X b L xs hC Q _ _ (4 * k) (130 * k) D P hi h (by omega) (by omega) (by omega) tl
    by_cases s_4 : x = 4
    · rw [s_4]
      refine pv_tableIn (tgt := 536) (off := 497) C dL_law_39 (by decide) (by decide) rfl (by decide) ?_
      exact law_4 l K X b L xs hC Q _ _ (4 * k) (130 * k) D P hi h (by omega) (by omega) (by omega) tl
    by_cases s_5 : x = 5
    · rw [s_5]
      refine pv_tableIn (tgt := 592) (off := 553) C dL_law_39 (by decide) (by decide) rfl (by decide) ?_
      exact law_5 l K X b L xs hC Q _ _ (4 * k) (130 * k) D P hi h (by omega) (by omega) (by omega) tl
    by_cases s_6 : x = 6
    · rw [s_6]
      refine pv_tableIn (tgt := 648) (off := 609) C dL_law_39 (by decide) (by decide) rfl (by decide) ?_
      exact law_6 l K X b L xs hC Q _ _ (4 * k) (130 * k) D P hi h (by omega) (by omega) (by omega) tl
    by_cases s_7 : x = 7
    · rw [s_7]
      refine pv_tableIn (tgt := 704) (off := 665) C dL_law_39 (by decide) (by decide) rfl (by decide) ?_
      exact law_7 l K X b L xs hC Q _ _ (4 * k) (130 * k) D P hi h (by omega) (by omega) (by omega) tl
    by_cases s_8 : x = 8
    · rw [s_8]
      refine pv_tableIn (tgt := 772) (off := 733) C dL_law_39 (by decide) (by decide) rfl (by decide) ?_
      exact law_8 l K X b L xs hC Q _ _ (4 * k) (130 * k) D P hi h (by omega) (by omega) (by omega) tl
    by_cases s_9 : x = 9
    · rw [s_9]
      refine pv_tableIn (tgt := 840) (off := 801) C dL_law_39 (by decide) (by decide) rfl (by decide) ?_
      exact law_9 l K X b L xs hC Q _ _ (4 * k) (130 * k) D P hi h (by omega) (by omega) (by omega) tl
    by_cases s_10 : x = 10
    · rw [s_10]
      refine pv_tableIn (tgt := 908) (off := 869) C dL_law_39 (by decide) (by decide) rfl (by decide) ?_
      exact law_10 l K X b L xs hC Q _ _ (4 * k) (130 * k) D P hi h (by omega) (by omega) (by omega) tl
    by_cases s_11 : x = 11
    · rw [s_11]
      refine pv_tableIn (tgt := 964) (off := 925) C dL_law_39 (by decide) (by decide) rfl (by decide) ?_
      exact law_11 l K X b L xs hC Q _ _ (4 * k) (130 * k) D P hi h (by omega) (by omega) (by omega) tl
    by_cases s_12 : x = 12
    · rw [s_12]
      refine pv_tableIn (tgt := 1020) (off := 981) C dL_law_39 (by decide) (by decide) rfl (by decide) ?_
      exact law_12 l K X b L xs hC Q _ _ (4 * k) (130 * k) D P hi h (by omega) (by omega) (by omega) tl
    by_cases s_13 : x = 13
    · rw [s_13]
      refine pv_tableIn (tgt := 1033) (off := 994) C dL_law_39 (by decide) (by decide) rfl (by decide) ?_
      exact law_13 l K X b L xs hC Q _ _ (4 * k) (130 * k) D P hi h (by omega) (by omega) (by omega) tl
    by_cases s_14 : x = 14
    · rw [s_14]
      refine pv_tableIn (tgt := 1046) (off := 1007) C dL_law_39 (by decide) (by decide) rfl (by decide) ?_
      exact law_14 l K X b L xs hC Q _ _ (4 * k) (130 * k) D P hi h (by omega) (by omega) (by omega) tl
    by_cases s_15 : x = 15
    · rw [s_15]
      refine pv_tableIn (tgt := 1090) (off := 1051) C dL_law_39 (by decide) (by decide) rfl (by decide) ?_
      exact law_15 l K X b L xs hC Q _ _ (4 * k) (130 * k) D P hi h (by omega) (by omega) (by omega) tl
    by_cases s_16 : x = 16
    · rw [s_16]
      refine pv_tableIn (tgt := 1103) (off := 1064) C dL_law_39 (by decide) (by decide) rfl (by decide) ?_
      exact law_16 l K X b L xs hC Q _ _ (4 * k) (130 * k) D P hi h (by omega) (by omega) (by omega) tl
    by_cases s_17 : x = 17
    · rw [s_17]
      refine pv_tableIn (tgt := 1147) (off := 1108) C dL_law_39 (by decide) (by decide) rfl (by decide) ?_
      exact law_17 l K X b L xs hC Q _ _ (4 * k) (130 * k) D P hi h (by omega) (by omega) (by omega) tl
    by_cases s_18 : x = 18
    · rw [s_18]
      refine pv_tableIn (tgt := 1191) (off := 1152) C dL_law_39 (by decide) (by decide) rfl (by decide) ?_
      exact law_18 l K X b L xs hC Q _ _ (4 * k) (130 * k) D P hi h (by omega) (by omega) (by omega) tl
    by_cases s_19 : x = 19
    · rw [s_19]
      refine pv_tableIn (tgt := 1204) (off := 1165) C dL_law_39 (by decide) (by decide) rfl (by decide) ?_
      exact law_19 l K X b L xs hC Q _ _ (4 * k) (130 * k) D P hi h (by omega) (by omega) (by omega) tl
    by_cases s_20 : x = 20
    · rw [s_20]
      refine pv_tableIn (tgt := 1248) (off := 1209) C dL_law_39 (by decide) (by decide) rfl (by decide) ?_
      exact law_20 l K X b L xs hC Q _ _ (4 * k) (130 * k) D P hi h (by omega) (by omega) (by omega) tl
    by_cases s_21 : x = 21
    · rw [s_21]
      refine pv_tableIn (tgt := 1261) (off := 1222) C dL_law_39 (by decide) (by decide) rfl (by decide) ?_
      exact law_21 l K X b L xs hC Q _ _ (4 * k) (130 * k) D P hi h (by omega) (by omega) (by omega) tl
    by_cases s_22 : x = 22
    · rw [s_22]
      refine pv_tableIn (tgt := 1274) (off := 1235) C dL_law_39 (by decide) (by decide) rfl (by decide) ?_
      exact law_22 l K X b L xs hC Q _ _ (4 * k) (130 * k) D P hi h (by omega) (by omega) (by omega) tl
    by_cases s_23 : x = 23
    · rw [s_23]
      refine pv_tableIn (tgt := 1337) (off := 1298) C dL_law_39 (by decide) (by decide) rfl (by decide) ?_
      exact law_23 l K X b L xs hC Q _ _ (4 * k) (130 * k) D P hi h (by omega) (by omega) (by omega) tl
    by_cases s_24 : x = 24
    · rw [s_24]
      refine pv_tableIn (tgt := 1393) (off := 1354) C dL_law_39 (by decide) (by decide) rfl (by decide) ?_
      exact law_24 l K X b L xs hC Q _ _ (4 * k) (130 * k) D P hi h (by omega) (by omega) (by omega) tl
    by_cases s_25 : x = 25
    · rw [s_25]
      refine pv_tableIn (tgt := 1449) (off := 1410) C dL_law_39 (by decide) (by decide) rfl (by decide) ?_
      exact law_25 l K X b L xs hC Q _ _ (4 * k) (130 * k) D P hi h (by omega) (by omega) (by omega) tl
    by_cases s_26 : x = 26
    · rw [s_26]
      refine pv_tableIn (tgt := 1462) (off := 1423) C dL_law_39 (by decide) (by decide) rfl (by decide) ?_
      exact law_26 l K X b L xs hC Q _ _ (4 * k) (130 * k) D P hi h (by omega) (by omega) (by omega) tl
    by_cases s_27 : x = 27
    · rw [s_27]
      refine pv_tableIn (tgt := 1475) (off := 1436) C dL_law_39 (by decide) (by decide) rfl (by decide) ?_
      exact law_27 l K X b L xs hC Q _ _ (4 * k) (130 * k) D P hi h (by omega) (by omega) (by omega) tl
    by_cases s_28 : x = 28
    · rw [s_28]
      refine pv_tableIn (tgt := 1538) (off := 1499) C dL_law_39 (by decide) (by decide) rfl (by decide) ?_
      exact law_28 l K X b L xs hC Q _ _ (4 * k) (130 * k) D P hi h (by omega) (by omega) (by omega) tl
    by_cases s_29 : x = 29
    · rw [s_29]
      refine pv_tableIn (tgt := 1594) (off := 1555) C dL_law_39 (by decide) (by decide) rfl (by decide) ?_
      exact law_29 l K X b L xs hC Q _ _ (4 * k) (130 * k) D P hi h (by omega) (by omega) (by omega) tl
    by_cases s_30 : x = 30
    · rw [s_30]
      refine pv_tableIn (tgt := 1650) (off := 1611) C dL_law_39 (by decide) (by decide) rfl (by decide) ?_
      exact law_30 l K X b L xs hC Q _ _ (4 * k) (130 * k) D P hi h (by omega) (by omega) (by omega) tl
    by_cases s_31 : x = 31
    · rw [s_31]
      refine pv_tableIn (tgt := 1706) (off := 1667) C dL_law_39 (by decide) (by decide) rfl (by decide) ?_
      exact law_31 l K X b L xs hC Q _ _ (4 * k) (130 * k) D P hi h (by omega) (by omega) (by omega) tl
    by_cases s_32 : x = 32
    · rw [s_32]
      refine pv_tableIn (tgt := 1762) (off := 1723) C dL_law_39 (by decide) (by decide) rfl (by decide) ?_
      exact law_32 l K X b L xs hC Q _ _ (4 * k) (130 * k) D P hi h (by omega) (by omega) (by omega) tl
    by_cases s_33 : x = 33
    · rw [s_33]
      refine pv_tableIn (tgt := 1818) (off := 1779) C dL_law_39 (by decide) (by decide) rfl (by decide) ?_
      exact law_33 l K X b L xs hC Q _ _ (4 * k) (130 * k) D P hi h (by omega) (by omega) (by omega) tl
    by_cases s_34 : x = 34
    · rw [s_34]
      refine pv_tableIn (tgt := 1831) (off := 1792) C dL_law_39 (by decide) (by decide) rfl (by decide) ?_
      exact law_34 l K X b L xs hC Q _ _ (4 * k) (130 * k) D P hi h (by omega) (by omega) (by omega) tl
    by_cases s_35 : x = 35
    · rw [s_35]
      refine pv_tableIn (tgt := 1844) (off := 1805) C dL_law_39 (by decide) (by decide) rfl (by decide) ?_
      exact law_35 l K X b L xs hC Q _ _ (4 * k) (130 * k) D P hi h (by omega) (by omega) (by omega) tl
    by_cases s_36 : x = 36
    · rw [s_36]
      refine pv_tableIn (tgt := 1857) (off := 1818) C dL_law_39 (by decide) (by decide) rfl (by decide) ?_
      exact law_36 l K X b L xs hC Q _ _ (4 * k) (130 * k) D P hi h (by omega) (by omega) (by omega) tl
    by_cases s_37 : x = 37
    · rw [s_37]
      refine pv_tableIn (tgt := 1870) (off := 1831) C dL_law_39 (by decide) (by decide) rfl (by decide) ?_
      exact law_37 l K X b L xs hC Q _ _ (4 * k) (130 * k) D P hi h (by omega) (by omega) (by omega) tl
    by_cases s_38 : x = 38
    · rw [s_38]
      refine pv_tableIn (tgt := 1938) (off := 1899) C dL_law_39 (by decide) (by decide) rfl (by decide) ?_
      exact law_38 l K X b L xs hC Q _ _ (4 * k) (130 * k) D P hi h (by omega) (by omega) (by omega) tl
    by_cases s_39 : x = 39
    · rw [s_39]
      refine pv_tableIn (tgt := 2006) (off := 1967) C dL_law_39 (by decide) (by decide) rfl (by decide) ?_
      exact law_39 l K X b L xs hC Q _ _ (4 * k) (130 * k) D P hi h (by omega) (by omega) (by omega) tl
    by_cases s_40 : x = 40
    · rw [s_40]
      refine pv_tableIn (tgt := 2074) (off := 2035) C dL_law_39 (by decide) (by decide) rfl (by decide) ?_
      exact law_40 l K X b L xs hC Q _ _ (4 * k) (130 * k) D P hi h (by omega) (by omega) (by omega) tl
    by_cases s_41 : x = 41
    · rw [s_41]
      refine pv_tableIn (tgt := 2142) (off := 2103) C dL_law_39 (by decide) (by decide) rfl (by decide) ?_
      exact law_41 l K X b L xs hC Q _ _ (4 * k) (130 * k) D P hi h (by omega) (by omega) (by omega) tl
    by_cases s_42 : x = 42
    · rw [s_42]
      refine pv_tableIn (tgt := 2210) (off := 2171) C dL_law_39 (by decide) (by decide) rfl (by decide) ?_
      exact law_42 l K X b L xs hC Q _ _ (4 * k) (130 * k) D P hi h (by omega) (by omega) (by omega) tl
    by_cases s_43 : x = 43
    · rw [s_43]
      refine pv_tableIn (tgt := 2290) (off := 2251) C dL_law_39 (by decide) (by decide) rfl (by decide) ?_
      exact law_43 l K X b L xs hC Q _ _ (4 * k) (130 * k) D P hi h (by omega) (by omega) (by omega) tl
    by_cases s_44 : x = 44
    · rw [s_44]
      refine pv_tableIn (tgt := 2358) (off := 2319) C dL_law_39 (by decide) (by decide) rfl (by decide) ?_
      exact law_44 l K X b L xs hC Q _ _ (4 * k) (130 * k) D P hi h (by omega) (by omega) (by omega) tl
    by_cases s_45 : x = 45
    · rw [s_45]
      refine pv_tableIn (tgt := 2426) (off := 2387) C dL_law_39 (by decide) (by decide) rfl (by decide) ?_
      exact law_45 l K X b L xs hC Q _ _ (4 * k) (130 * k) D P hi h (by omega) (by omega) (by omega) tl
    by_cases s_46 : x = 46
    · rw [s_46]
      refine pv_tableIn (tgt := 2494) (off := 2455) C dL_law_39 (by decide) (by decide) rfl (by decide) ?_
      exact law_46 l K X b L xs hC Q _ _ (4 * k) (130 * k) D P hi h (by omega) (by omega) (by omega) tl
    by_cases s_47 : x = 47
    · rw [s_47]
      refine pv_tableIn (tgt := 2562) (off := 2523) C dL_law_39 (by decide) (by decide) rfl (by decide) ?_
      exact law_47 l K X b L xs hC Q _ _ (4 * k) (130 * k) D P hi h (by omega) (by omega) (by omega) tl
    by_cases s_48 : x = 48
    · rw [s_48]
      refine pv_tableIn (tgt := 2642) (off := 2603) C dL_law_39 (by decide) (by decide) rfl (by decide) ?_
      exact law_48 l K X b L xs hC Q _ _ (4 * k) (130 * k) D P hi h (by omega) (by omega) (by omega) tl
    by_cases s_49 : x = 49
    · rw [s_49]
      refine pv_tableIn (tgt := 2698) (off := 2659) C dL_law_39 (by decide) (by decide) rfl (by decide) ?_
      exact law_49 l K X b L xs hC Q _ _ (4 * k) (130 * k) D P hi h (by omega) (by omega) (by omega) tl
    by_cases s_50 : x = 50
    · rw [s_50]
      refine pv_tableIn (tgt := 2754) (off := 2715) C dL_law_39 (by decide) (by decide) rfl (by decide) ?_
      exact law_50 l K X b L xs hC Q _ _ (4 * k) (130 * k) D P hi h (by omega) (by omega) (by omega) tl
    by_cases s_51 : x = 51
    · rw [s_51]
      refine pv_tableIn (tgt := 2810) (off := 2771) C dL_law_39 (by decide) (by decide) rfl (by decide) ?_
      exact law_51 l K X b L xs hC Q _ _ (4 * k) (130 * k) D P hi h (by omega) (by omega) (by omega) tl
    by_cases s_52 : x = 52
    · rw [s_52]
      refine pv_tableIn (tgt := 2851) (off := 2812) C dL_law_39 (by decide) (by decide) rfl (by decide) ?_
      exact law_52 l K X b L xs hC Q _ _ (4 * k) (130 * k) D P hi h (by omega) (by omega) (by omega) tl
    refine pv_tableOut (tgt := 2865) C dL_law_39 (sw_out (fun k hk => ?_)) (by decide) ?_
    · rcases (show k = 0 ∨ k = 1 ∨ k = 2 ∨ k = 3 ∨ k = 4 ∨ k = 5 ∨ k = 6 ∨ k = 7 ∨ k = 8 ∨ k = 9 ∨ k = 10 ∨ k = 11 ∨ k = 12 ∨ k = 13 ∨ k = 14 ∨ k = 15 ∨ k = 16 ∨ k = 17 ∨ k = 18 ∨ k = 19 ∨ k = 20 ∨ k = 21 ∨ k = 22 ∨ k = 23 ∨ k = 24 ∨ k = 25 ∨ k = 26 ∨ k = 27 ∨ k = 28 ∨ k = 29 ∨ k = 30 ∨ k = 31 ∨ k = 32 ∨ k = 33 ∨ k = 34 ∨ k = 35 ∨ k = 36 ∨ k = 37 ∨ k = 38 ∨ k = 39 ∨ k = 40 ∨ k = 41 ∨ k = 42 ∨ k = 43 ∨ k = 44 ∨ k = 45 ∨ k = 46 ∨ k = 47 ∨ k = 48 ∨ k = 49 ∨ k = 50 ∨ k = 51 ∨ k = 52 by omega) with e | e | e | e | e | e | e | e | e | e | e | e | e | e | e | e | e | e | e | e | e | e | e | e | e | e | e | e | e | e | e | e | e | e | e | e | e | e | e | e | e | e | e | e | e | e | e | e | e | e | e | e | e
      · rw [e]; exact s_0
      · rw [e]; exact s_1
      · rw [e]; exact s_2
      · rw [e]; exact s_3
      · rw [e]; exact s_4
      · rw [e]; exact s_5
      · rw [e]; exact s_6
      · rw [e]; exact s_7
      · rw [e]; exact s_8
      · rw [e]; exact s_9
      · rw [e]; exact s_10
      · rw [e]; exact s_11
      · rw [e]; exact s_12
      · rw [e]; exact s_13
      · rw [e]; exact s_14
      · rw [e]; exact s_15
      · rw [e]; exact s_16
      · rw [e]; exact s_17
      · rw [e]; exact s_18
      · rw [e]; exact s_19
      · rw [e]; exact s_20
      · rw [e]; exact s_21
      · rw [e]; exact s_22
      · rw [e]; exact s_23
      · rw [e]; exact s_24
      · rw [e]; exact s_25
      · rw [e]; exact s_26
      · rw [e]; exact s_27
      · rw [e]; exact s_28
      · rw [e]; exact s_29
      · rw [e]; exact s_30
      · rw [e]; exact s_31
      · rw [e]; exact s_32
      · rw [e]; exact s_33
      · rw [e]; exact s_34
      · rw [e]; exact s_35
      · rw [e]; exact s_36
      · rw [e]; exact s_37
      · rw [e]; exact s_38
      · rw [e]; exact s_39
      · rw [e]; exact s_40
      · rw [e]; exact s_41
      · rw [e]; exact s_42
      · rw [e]; exact s_43
      · rw [e]; exact s_44
      · rw [e]; exact s_45
      · rw [e]; exact s_46
      · rw [e]; exact s_47
      · rw [e]; exact s_48
      · rw [e]; exact s_49
      · rw [e]; exact s_50
      · rw [e]; exact s_51
      · rw [e]; exact s_52
    · exact PV_widen (by omega) (by omega) (tl D P (RI_W h (by omega)))
