set_option maxRecDepth 100000 in
set_option maxHeartbeats 4000000 in
theorem c_X2_addSign (l : Launch) (X : XT) (D : DT) (P : PT) (n c : Nat) (hn : D 2 1 = nI n) (hn60 : n < 60) (hc : c < 65536) : CG l X yX2_addSign (.code yX2_addSign cX2_addSign 2 none :: AW) ({ frames := 0, cells := 0, slots := 0, locals := 0 } : Room) [.ref (X.2.2 2), .int (nI c)] (qV X (fun D' P' => D' = up2 (up2 D 3 n (nI c)) 2 1 (nI (n + 1)) ∧ P = P')) D P 0 0 := by
  refine cg_of (by decide +kernel) (Nat.le_of_ble_eq_true rfl) ?_
  intro K hKl hKR C
  refine PV_lv (lv' := [some (.ref (X.2.2 2)), some (.int (nI c))]) rfl ?_
  refine pv_aload_n (q := 1) C dX2_addSign_0 rfl rfl rfl ?_ 
  refine pg_2_1 (q := 4) C k2 tw_169 dX2_addSign_1 rfl ?_ 
  rw [hn]
  refine pv_aload_n (q := 5) C dX2_addSign_4 rfl rfl rfl ?_ 
  refine pg_2_0 (q := 8) C k2 tw_168 dX2_addSign_5 rfl (fun k5 => ?_) 
  refine pv_alen_8 (q := 9) C k5 dX2_addSign_8 rfl ?_ 
  refine pv_icmp_geN (q := 12) (tgt := 33) (a := n) (b := 60) C rfl rfl (by omega) (by omega) dX2_addSign_9 (by decide) rfl (fun c_9 => absurd c_9 (by omega)) (fun c_9 => ?_) 
  refine pv_aload_n (q := 13) C dX2_addSign_12 rfl rfl rfl ?_ 
  refine pg_2_0 (q := 16) C k2 tw_168 dX2_addSign_13 rfl (fun k13 => ?_) 
  refine pv_aload_n (q := 17) C dX2_addSign_16 rfl rfl rfl ?_ 
  refine pg_2_1 (q := 20) C k2 tw_169 dX2_addSign_17 rfl ?_ 
  rw [hn]
  refine pv_iload_n (q := 21) C dX2_addSign_20 rfl rfl rfl ?_ 
  refine pv_i2c (q := 22) (v := (nI c)) C dX2_addSign_21 rfl (by rw [pk_char, pk_tn (by omega), Nat.mod_eq_of_lt (by omega)]) ?_ 
  refine pv_cast (q := 23) (j := n) C k13 rfl (by omega) (by rw [← (show ((nI c).toUInt32 % 65536).toInt32 = nI c from (by rw [pk_char, pk_tn (by omega), Nat.mod_eq_of_lt (by omega)]))]; exact pk_vc _) dX2_addSign_22 rfl (fun D22 hD22 => ?_) 
  refine pv_aload_n (q := 24) C dX2_addSign_23 rfl rfl rfl ?_ 
  refine pv_dup (q := 25) C dX2_addSign_24 rfl rfl ?_ 
  refine pg_2_1 (q := 28) C k2 tw_169 dX2_addSign_25 rfl ?_ 
  rw [show D22 2 1 = nI n by rw [hD22]; exact hn]
  refine pv_iconst (q := 29) (v := 1) C dX2_addSign_28 rfl (by decide) ?_ 
  refine pv_iaddN (q := 30) (a := n) (b := 1) C rfl rfl dX2_addSign_29 rfl ?_ 
  refine pp_2_1 (q := 33) C k2 tw_169 dX2_addSign_30 rfl (fun D30 hD30 => ?_) 
  exact pv_vret C (⟨by rw [hD30, hD22], rfl⟩) (by decide) (by decide) dX2_addSign_33
set_option maxRecDepth 100000 in
set_option maxHeartbeats 4000000 in
theorem c_X2_readWhole (l : Launch) (X : XT) (D : DT) (P : PT) (n : Nat) (hn : D 2 1 = nI n) (hn60 : n ≤ 60) : CG l X yX2_readWhole (.code yX2_readWhole cX2_readWhole 2 (some .boolean) :: AW) ({ frames := 4, cells := 0, slots := 0, locals := 144 } : Room) [.ref (X.2.2 2)] (qI X (fun r D' P' => (r = (pAll (D 3) n 62 0).1 ∧ D' 2 2 = nI (pAll (D 3) n 62 0).2 ∧ (pAll (D 3) n 62 0).2 ≤ n ∧ cu [2, 3, 4, 5, 6] D D') ∧ P = P')) D P 0 0 := by
  refine cg_of (by decide +kernel) (Nat.le_of_ble_eq_true rfl) ?_
  intro K hKl hKR C
  refine PV_lv (lv' := [some (.ref (X.2.2 2)), none]) rfl ?_
  refine pv_aload_n (q := 1) C dX2_readWhole_0 rfl rfl rfl ?_ 
  refine pv_iconst (q := 2) (v := 0) C dX2_readWhole_1 rfl (by decide) ?_ 
  refine pp_2_2 (q := 5) C k2 tw_171 dX2_readWhole_2 rfl (fun D2 hD2 => ?_) 
  refine pv_iconst (q := 6) (v := 0) C dX2_readWhole_5 rfl (by decide) ?_ 
  refine pv_istore_n (q := 7) C dX2_readWhole_6 rfl rfl (Nat.le_of_ble_eq_true rfl) rfl ?_ 
  have loop_7 : ∀ (nn : Nat) (i b k : Nat) (D1 : DT), (61 ≤ i + nn) → i ≤ 60 → 2 * i ≤ b → k + i = 61 → ctx D1 n b → D1 3 = D 3 → cu [2, 3, 4, 5, 6] D D1 → pAll (D 3) n (k + 1) b = pAll (D 3) n 62 0 → PV K X (MK K X (qI X (fun r D' P' => (r = (pAll (D 3) n 62 0).1 ∧ D' 2 2 = nI (pAll (D 3) n 62 0).2 ∧ (pAll (D 3) n 62 0).2 ≤ n ∧ cu [2, 3, 4, 5, 6] D D') ∧ P = P')) 0 0) (0) (0) 7 [some (.ref (X.2.2 2)), some (.int (nI i))] [] D1 P := by
    intro nn
    induction nn with
    | zero =>
      intro i b k D1 hfuel hi hib hki hb1 hx hcu hfin
      exact absurd hfuel (by omega)
    | succ nn ih =>
      intro i b k D1 hfuel hi hib hki hb1 hx hcu hfin
      refine pv_iload_n (q := 8) C dX2_readWhole_7 rfl rfl rfl ?_ 
      refine pv_bipush (q := 10) (v := 60) C dX2_readWhole_8 rfl (by decide) ?_ 
      refine pv_icmp_geN (q := 13) (tgt := 52) (a := i) (b := 60) C rfl rfl (by omega) (by omega) dX2_readWhole_10 (by decide) rfl (fun c_10 => ?_) (fun c_10 => ?_) 
      · refine pv_iconst (q := 53) (v := 0) C dX2_readWhole_52 rfl (by decide) ?_
        exact pv_zret C (Or.inl rfl) (absurd hb1.2.2.2 (by have := hb1.2.1; omega)) (by decide) (by decide) dX2_readWhole_53
      · refine pv_aload_n (q := 14) C dX2_readWhole_13 rfl rfl rfl ?_
        refine pv_callVi (q := 17) C hKl (c_X2_readPart l X D1 P n b hb1) tw_959 k2 (by decide) rfl mm_X2_readPart ⟨rfl, rfl⟩ (by rw [hKR]; exact ⟨Nat.le_of_ble_eq_true rfl, Nat.le_of_ble_eq_true rfl⟩) (by rw [hKR]; exact ⟨Nat.le_of_ble_eq_true rfl, Nat.le_of_ble_eq_true rfl⟩) rfl rfl rfl (Nat.le_of_ble_eq_true rfl) dX2_readWhole_14 rfl (fun r14 D14 P14 hp14 => ?_) 
        rcases hp14 with ⟨⟨p, b2, hQ, hb2, rfl, ha2, hk2, hn2, hg2, hx2, hc2⟩ | ⟨b2, hQ, hb2, rfl, ha2, hc2⟩, rfl⟩
        · rw [hx] at hQ
          have hc3 := hcu.tr hc2
          have hu := pAll_s (D 3) n k b
          rw [hQ] at hu
          rw [if_pos (okI_s p)] at hu
          have ok := pPart_ok (f := D 3) (n := n) (a := b) hb1.2.2.2
          rw [hQ] at ok
          have okb := (ok.2.2 p rfl).1
          dsimp only at okb hu
          refine pv_if_ne (q := 20) (tgt := 22) C dX2_readWhole_17 (by decide) rfl (fun _ => ?_) (fun h => absurd h (by decide)) 
          refine pv_aload_n (q := 23) C dX2_readWhole_22 rfl rfl rfl ?_ 
          refine pg_2_2 (q := 26) C k2 tw_171 dX2_readWhole_23 rfl ?_ 
          rw [ha2]
          refine pv_aload_n (q := 27) C dX2_readWhole_26 rfl rfl rfl ?_ 
          refine pg_2_1 (q := 30) C k2 tw_169 dX2_readWhole_27 rfl ?_ 
          rw [show D14 2 1 = nI n from (hc3.2 1 (by decide)).trans hn]
          refine pv_icmp_ltN (q := 33) (tgt := 35) (a := b2) (b := n) C rfl rfl (by omega) (by omega) dX2_readWhole_30 (by decide) rfl (fun c_30 => ?_) (fun c_30 => ?_) 
          · refine pv_aload_n (q := 36) C dX2_readWhole_35 rfl rfl rfl ?_
            refine pv_bipush (q := 38) (v := 59) C dX2_readWhole_36 rfl (by decide) ?_ 
            refine pv_callVi (q := 41) C hKl (c_X2_readSign l X D14 P 59 (by decide) n b2 ⟨(hc3.2 1 (by decide)).trans hn, hn60, ha2, hb2⟩) tw_979 k2 (by decide) rfl mm_X2_readSign ⟨rfl, rfl⟩ (by rw [hKR]; exact ⟨Nat.le_of_ble_eq_true rfl, Nat.le_of_ble_eq_true rfl⟩) (by rw [hKR]; exact ⟨Nat.le_of_ble_eq_true rfl, Nat.le_of_ble_eq_true rfl⟩) rfl rfl rfl (Nat.le_of_ble_eq_true rfl) dX2_readWhole_38 rfl (fun r38 D38 P38 hp38 => ?_) 
            rcases hp38 with ⟨⟨hS, hl, rfl, hDs⟩ | ⟨hS, rfl, hDs⟩, rfl⟩
            · refine pv_if_ne (q := 44) (tgt := 46) C dX2_readWhole_41 (by decide) rfl (fun _ => ?_) (fun h => absurd h (by decide))
              refine pv_iinc (q := 49) (v := nI (i + 1)) C dX2_readWhole_46 rfl rfl (nI_add _ _) rfl ?_ 
              refine pv_goto (tgt := 7) C dX2_readWhole_49 (by decide) ?_ 
              obtain ⟨k2, rfl⟩ : ∃ k2, k = k2 + 1 := ⟨k - 1, by have := hb1.2.2.2; omega⟩
              have hx3 : D38 3 = D 3 := by rw [hDs]; exact (hc3.1 3 (by decide))
              have hS2 : (D 3) b2 = 59 := by have := hS; rw [hc3.1 3 (by decide), hr_in hl] at this; exact this
              exact ih (i + 1) (b2 + 1) k2 D38 (by omega) (by omega) (by omega) (by omega) ⟨by rw [hDs]; exact (hc3.2 1 (by decide)).trans hn, hn60, by rw [hDs, up2_self], by omega⟩ hx3 (by rw [hDs]; exact hc3.up (by decide)) (by rw [← hfin, hu, if_pos hl, if_pos hS2])
            · refine pv_if_ne (q := 44) (tgt := 46) C dX2_readWhole_41 (by decide) rfl (fun h => absurd h (by decide)) (fun _ => ?_)
              refine pv_iconst (q := 45) (v := 0) C dX2_readWhole_44 rfl (by decide) ?_ 
              exact pv_zret C (Or.inl rfl) (by
                  have hS2 : ¬ (D 3) b2 = 59 := fun z => hS (by rw [hc3.1 3 (by decide), hr_in (by omega)]; exact z)
                  rw [hDs]
                  exact ⟨⟨by rw [← hfin, hu, if_pos (by omega), if_neg hS2], by rw [← hfin, hu, if_pos (by omega), if_neg hS2]; exact ha2, by rw [← hfin, hu, if_pos (by omega), if_neg hS2]; exact hb2, hc3⟩, rfl⟩) (by decide) (by decide) dX2_readWhole_45
          · refine pv_iconst (q := 34) (v := 1) C dX2_readWhole_33 rfl (by decide) ?_
            exact pv_zret C (Or.inr rfl) (⟨⟨by rw [← hfin, hu, if_neg (by omega)], by rw [← hfin, hu, if_neg (by omega)]; exact ha2, by rw [← hfin, hu, if_neg (by omega)]; exact hb2, hc3⟩, rfl⟩) (by decide) (by decide) dX2_readWhole_34
        · rw [hx] at hQ
          have hc3 := hcu.tr hc2
          have hu := pAll_s (D 3) n k b
          rw [hQ] at hu
          rw [if_neg (by rw [okI_n]; decide)] at hu
          dsimp only at hu
          refine pv_if_ne (q := 20) (tgt := 22) C dX2_readWhole_17 (by decide) rfl (fun h => absurd h (by decide)) (fun _ => ?_) 
          refine pv_iconst (q := 21) (v := 0) C dX2_readWhole_20 rfl (by decide) ?_ 
          exact pv_zret C (Or.inl rfl) (⟨⟨by rw [← hfin, hu], by rw [← hfin, hu]; exact ha2, by rw [← hfin, hu]; exact hb2, hc3⟩, rfl⟩) (by decide) (by decide) dX2_readWhole_21
  exact loop_7 61 0 0 61 D2 (by omega) (by omega) (by omega) (by omega) ⟨by rw [hD2]; exact hn, hn60, by rw [hD2, up2_self]; rfl, by omega⟩ (by rw [hD2]; rfl) (by rw [hD2]; exact (cu_rf _ D).up (by decide)) rfl
set_option maxRecDepth 100000 in
set_option maxHeartbeats 4000000 in
theorem c_X2_readNextPart (l : Launch) (X : XT) (D : DT) (P : PT) (n a : Nat) (ht : ctx D n a)  : CG l X yX2_readNextPart (.code yX2_readNextPart cX2_readNextPart 1 (some .boolean) :: AW) ({ frames := 4, cells := 0, slots := 0, locals := 144 } : Room) [.ref (X.2.2 2)] (qI X (fun r D' P' => (((a = 0 ∨ hr (D 3) n a = 59) ∧ ∃ a2, a2 ≤ n ∧ a2 = (if a = 0 then 0 else a + 1) ∧ ((∃ p b, pPart (D 3) n a2 = (some p, b) ∧ b ≤ n ∧ r = 1 ∧ D' 2 2 = nI b ∧ D' 2 3 = p.1 ∧ D' 2 4 = nI p.2.1 ∧ (p.1 = 105 ∨ p.1 = 103 → D' 2 5 = p.2.2.1) ∧ (p.1 = 105 ∨ p.1 = 117 → D' 2 6 = p.2.2.2) ∧ cu [2, 3, 4, 5, 6] D D') ∨ (∃ b, pPart (D 3) n a2 = (none, b) ∧ b ≤ n ∧ r = 0 ∧ D' 2 2 = nI b ∧ cu [2, 3, 4, 5, 6] D D'))) ∨ (¬ (a = 0 ∨ hr (D 3) n a = 59) ∧ r = 0 ∧ cu [2, 3, 4, 5, 6] D D')) ∧ P = P')) D P 0 0 := by
  refine cg_of (by decide +kernel) (Nat.le_of_ble_eq_true rfl) ?_
  intro K hKl hKR C
  refine PV_lv (lv' := [some (.ref (X.2.2 2))]) rfl ?_
  obtain ⟨t1, t2, t3, t4⟩ := id ht
  refine pv_aload_n (q := 1) C dX2_readNextPart_0 rfl rfl rfl ?_ 
  refine pg_2_2 (q := 4) C k2 tw_171 dX2_readNextPart_1 rfl ?_ 
  rw [t3]
  refine pv_if_leN (q := 7) (tgt := 18) (a := a) (b := 0) C rfl rfl (by omega) (by omega) dX2_readNextPart_4 (by decide) rfl (fun c_4 => ?_) (fun c_4 => ?_) 
  · refine pv_aload_n (q := 19) C dX2_readNextPart_18 rfl rfl rfl ?_
    refine pv_callVi (q := 22) C hKl (c_X2_readPart l X D P n 0 ⟨t1, t2, by rw [t3, show a = 0 by omega], by omega⟩) tw_959 k2 (by decide) rfl mm_X2_readPart ⟨rfl, rfl⟩ (by rw [hKR]; exact ⟨Nat.le_of_ble_eq_true rfl, Nat.le_of_ble_eq_true rfl⟩) (by rw [hKR]; exact ⟨Nat.le_of_ble_eq_true rfl, Nat.le_of_ble_eq_true rfl⟩) rfl rfl rfl (Nat.le_of_ble_eq_true rfl) dX2_readNextPart_19 rfl (fun r19 D19 P19 hp19 => ?_) 
    obtain ⟨hq19, rfl⟩ := hp19
    exact pv_zret C (by rcases hq19 with ⟨_, _, _, _, z, _⟩ | ⟨_, _, _, z, _⟩; exact Or.inr z; exact Or.inl z) (⟨Or.inl ⟨Or.inl (by omega), 0, by omega, by rw [if_pos (by omega)], hq19⟩, rfl⟩) (by decide) (by decide) dX2_readNextPart_22
  · refine pv_aload_n (q := 8) C dX2_readNextPart_7 rfl rfl rfl ?_
    refine pv_bipush (q := 10) (v := 59) C dX2_readNextPart_8 rfl (by decide) ?_ 
    refine pv_callVi (q := 13) C hKl (c_X2_readSign l X D P 59 (by decide) n a ht) tw_979 k2 (by decide) rfl mm_X2_readSign ⟨rfl, rfl⟩ (by rw [hKR]; exact ⟨Nat.le_of_ble_eq_true rfl, Nat.le_of_ble_eq_true rfl⟩) (by rw [hKR]; exact ⟨Nat.le_of_ble_eq_true rfl, Nat.le_of_ble_eq_true rfl⟩) rfl rfl rfl (Nat.le_of_ble_eq_true rfl) dX2_readNextPart_10 rfl (fun r10 D10 P10 hp10 => ?_) 
    rcases hp10 with ⟨⟨hS, hl, rfl, hDs⟩ | ⟨hS, rfl, hDs⟩, rfl⟩
    · have x10 : D10 3 = D 3 := by rw [hDs]; rfl
      have c10 : cu [2, 3, 4, 5, 6] D D10 := by rw [hDs]; exact (cu_rf _ D).up (by decide)
      refine pv_if_ne (q := 16) (tgt := 18) C dX2_readNextPart_13 (by decide) rfl (fun _ => ?_) (fun h => absurd h (by decide)) 
      refine pv_aload_n (q := 19) C dX2_readNextPart_18 rfl rfl rfl ?_ 
      refine pv_callVi (q := 22) C hKl (c_X2_readPart l X D10 P n (a + 1) ⟨by rw [hDs]; exact t1, t2, by rw [hDs, up2_self], hl⟩) tw_959 k2 (by decide) rfl mm_X2_readPart ⟨rfl, rfl⟩ (by rw [hKR]; exact ⟨Nat.le_of_ble_eq_true rfl, Nat.le_of_ble_eq_true rfl⟩) (by rw [hKR]; exact ⟨Nat.le_of_ble_eq_true rfl, Nat.le_of_ble_eq_true rfl⟩) rfl rfl rfl (Nat.le_of_ble_eq_true rfl) dX2_readNextPart_19 rfl (fun r19 D19 P19 hp19 => ?_) 
      obtain ⟨hq19, rfl⟩ := hp19
      exact pv_zret C (by rcases hq19 with ⟨_, _, _, _, z, _⟩ | ⟨_, _, _, z, _⟩; exact Or.inr z; exact Or.inl z) (by
          rw [x10] at hq19
          refine ⟨Or.inl ⟨Or.inr hS, a + 1, hl, by rw [if_neg (by omega)], ?_⟩, rfl⟩
          rcases hq19 with ⟨p, b, z1, z2, z3, z4, z5, z6, z7, z8, z9⟩ | ⟨b, z1, z2, z3, z4, z5⟩
          · exact Or.inl ⟨p, b, z1, z2, z3, z4, z5, z6, z7, z8, c10.tr z9⟩
          · exact Or.inr ⟨b, z1, z2, z3, z4, c10.tr z5⟩) (by decide) (by decide) dX2_readNextPart_22
    · refine pv_if_ne (q := 16) (tgt := 18) C dX2_readNextPart_13 (by decide) rfl (fun h => absurd h (by decide)) (fun _ => ?_)
      refine pv_iconst (q := 17) (v := 0) C dX2_readNextPart_16 rfl (by decide) ?_ 
      exact pv_zret C (Or.inl rfl) (⟨Or.inr ⟨by rintro (z | z); omega; exact hS z, rfl, by rw [hDs]; exact cu_rf _ D⟩, rfl⟩) (by decide) (by decide) dX2_readNextPart_17
set_option maxRecDepth 100000 in
set_option maxHeartbeats 4000000 in
theorem c_X6_append (l : Launch) (X : XT) (D : DT) (P : PT) (hfl : l.stackTraces = false) (M : DT) (W : Nat) (h : RI D P M W) (hW : W + 200 < 2 ^ 29) (n : Nat) (hn60 : n ≤ 60) (hn9 : M 6 9 = nI n) (code : Int32) : XG l X yX6_append (.code yX6_append cX6_append 2 (some .int) :: AW) ({ frames := 6, cells := 2, slots := 12, locals := 216 } : Room) [.ref (X.2.2 0), .int code] (qI X (fun r D' P' => (kApp n code) = 0 ∧ r = (nI n + 1) ∧ RI D' P' (up2 (up2 (clr M) 12 n code) 6 9 (nI n + 1)) (W + 130) ∧ FX D D')) (fun e D' P' => ((e = eIAE ∧ (kApp n code) = 1) ∨ (e = eISE ∧ (kApp n code) = 2)) ∧ Fs D D' ∧ P = P') D P 2 12 := by
  refine xg_of (by decide +kernel) (Nat.le_of_ble_eq_true rfl) ?_
  intro K hKl hKR C ht0 Z
  have hfl : K.2.1.stackTraces = false := by rw [hKl]; exact hfl
  refine PV_lv (lv' := [some (.ref (X.2.2 0)), some (.int code)]) rfl ?_
  obtain ⟨⟨G, A, wr, nx, hw, hR, hT, hI, hAM⟩, ⟨s, hs5, hs3, hs0, hsj⟩, hP1, hP2, ⟨hk4, hk01, hkS⟩, n', hn60', hn9', hn1', hnk'⟩ := id h
  obtain rfl : n = n' := nI_inj (by omega) (by omega) (hn9.symm.trans hn9')
  have hn1 := hn1'
  have hnk := hnk'
  refine pv_iload_n (q := 1) C dX6_append_0 rfl rfl rfl ?_ 
  refine pv_bipush (q := 3) (v := 33) C dX6_append_1 rfl (by decide) ?_ 
  refine pv_icmp_lt (q := 6) (tgt := 12) C dX6_append_3 (by decide) rfl (fun c_3 => ?_) (fun c_3 => ?_) 
  · exact pv_throwIAE (text := "the code is not 33 to 126") C Z ht0 hfl (by decide +kernel) ((by first | exact ⟨Or.inl ⟨rfl, by unfold kApp; rw [if_neg (fun z => absurd c_3 (Int32.not_lt.mpr z.1))]⟩, Fs_rf D, rfl⟩ | exact ⟨Or.inl ⟨rfl, by unfold kApp; rw [if_neg (fun z => c_9 z.2)]⟩, Fs_rf D, rfl⟩)) rfl (by rw [hKR]; exact ⟨Nat.le_of_ble_eq_true rfl, Nat.le_of_ble_eq_true rfl⟩) (by rw [hKR]; first | exact ⟨Nat.le_of_ble_eq_true rfl, Nat.le_of_ble_eq_true rfl⟩ | (constructor <;> (dsimp only; omega))) ⟨by omega, by omega⟩ dX6_append_12 dX6_append_15 dX6_append_16 dX6_append_18 dX6_append_21
  · refine pv_iload_n (q := 7) C dX6_append_6 rfl rfl rfl ?_
    refine pv_bipush (q := 9) (v := 126) C dX6_append_7 rfl (by decide) ?_ 
    refine pv_icmp_le (q := 12) (tgt := 22) C dX6_append_9 (by decide) rfl (fun c_9 => ?_) (fun c_9 => ?_) 
    · have hyc : rg code 33 126 := ⟨Int32.not_lt.mp c_3, c_9⟩
      obtain ⟨cc, hcc, rfl⟩ := rg_N 126 (x := code) ⟨Int32.le_trans (by decide) hyc.1, hyc.2⟩ rfl
      refine pv_aload_n (q := 23) C dX6_append_22 rfl rfl rfl ?_ 
      refine pg_6_5 (q := 26) C k0 tw_206 dX6_append_23 rfl (fun k23 => ?_) 
      refine pg_2_1 (q := 29) C k23 tw_170 dX6_append_26 rfl ?_ 
      rw [hn1]
      refine pv_bipush (q := 31) (v := 60) C dX6_append_29 rfl (by decide) ?_ 
      refine pv_icmp_ltN (q := 34) (tgt := 44) (a := n) (b := 60) C rfl rfl (by omega) (by omega) dX6_append_31 (by decide) rfl (fun c_31 => ?_) (fun c_31 => ?_) 
      · refine pv_aload_n (q := 45) C dX6_append_44 rfl rfl rfl ?_
        refine pg_6_5 (q := 48) C k0 tw_206 dX6_append_45 rfl (fun k45 => ?_) 
        refine pv_iload_n (q := 49) C dX6_append_48 rfl rfl rfl ?_ 
        refine pv_callVv (q := 52) C hKl (c_X2_addSign l X D P n cc hn1 (by omega) (by omega)) tw_777 k45 (by decide) rfl mm_X2_addSign ⟨rfl, rfl⟩ (by rw [hKR]; exact ⟨Nat.le_of_ble_eq_true rfl, Nat.le_of_ble_eq_true rfl⟩) (by rw [hKR]; exact ⟨Nat.le_of_ble_eq_true rfl, Nat.le_of_ble_eq_true rfl⟩) rfl rfl rfl (Nat.le_of_ble_eq_true rfl) dX6_append_49 rfl (fun D49 P49 hp49 => ?_) 
        obtain ⟨hA, rfl⟩ := hp49
        refine pv_aload_n (q := 53) C dX6_append_52 rfl rfl rfl ?_ 
        refine pg_6_5 (q := 56) C k0 tw_206 dX6_append_53 rfl (fun k53 => ?_) 
        refine pg_2_1 (q := 59) C k53 tw_170 dX6_append_56 rfl ?_ 
        rw [show D49 2 1 = nI n + 1 by rw [hA, up2_self, nI_1]]
        exact XK.of (pv_iret C (by
            refine ⟨by unfold kApp; rw [if_pos hyc, if_neg (by omega)], rfl, ⟨SB_cong (h.1.W (by omega)) (fun i x y => by rw [hA, up2_ne _ _ _ (by omega), up2_ne _ _ _ (by omega)]) (fun _ _ => rfl), ⟨s, hs5, hs3, by rw [hA]; exact hs0, fun j hj => (SB_cong (hsj j hj) (fun i x y => by have := sv_B (hP1 j (by omega)); rw [hA, up2_ne _ _ _ (by omega), up2_ne _ _ _ (by omega)]) (fun _ _ => rfl)).W (by omega)⟩, hP1, hP2, ⟨by rw [hA]; exact hk4, hk01, fun z => (SB_cong (hkS z) (fun i x y => by rw [hA, up2_ne _ _ _ (by omega), up2_ne _ _ _ (by omega)]) (fun _ _ => rfl)).W (by omega)⟩, n + 1, by omega, by rw [up2_self, nI_1], by rw [hA, up2_self], fun q hq => ?_⟩, fun i a b => by rw [hA, up2_ne _ _ _ (by omega), up2_ne _ _ _ (by omega)]⟩
            rw [hA, up2_ne _ _ _ (by decide), up2_row, up2_ne _ _ _ (by decide), up2_row]
            by_cases e : q = n
            · subst e; rw [va_up_self, va_up_self]
            · rw [va_up_ne _ _ e, va_up_ne _ _ e]; exact hnk q (by omega)) (by decide) (by decide) dX6_append_59)
      · exact pv_throwISE (text := "the buffer is full") C Z ht0 hfl (by decide +kernel) (⟨Or.inr ⟨rfl, by unfold kApp; rw [if_pos hyc, if_pos (by omega)]⟩, Fs_rf D, rfl⟩) rfl (by rw [hKR]; exact ⟨Nat.le_of_ble_eq_true rfl, Nat.le_of_ble_eq_true rfl⟩) (by rw [hKR]; first | exact ⟨Nat.le_of_ble_eq_true rfl, Nat.le_of_ble_eq_true rfl⟩ | (constructor <;> (dsimp only; omega))) ⟨by omega, by omega⟩ dX6_append_34 dX6_append_37 dX6_append_38 dX6_append_40 dX6_append_43
    · exact pv_throwIAE (text := "the code is not 33 to 126") C Z ht0 hfl (by decide +kernel) ((by first | exact ⟨Or.inl ⟨rfl, by unfold kApp; rw [if_neg (fun z => absurd c_3 (Int32.not_lt.mpr z.1))]⟩, Fs_rf D, rfl⟩ | exact ⟨Or.inl ⟨rfl, by unfold kApp; rw [if_neg (fun z => c_9 z.2)]⟩, Fs_rf D, rfl⟩)) rfl (by rw [hKR]; exact ⟨Nat.le_of_ble_eq_true rfl, Nat.le_of_ble_eq_true rfl⟩) (by rw [hKR]; first | exact ⟨Nat.le_of_ble_eq_true rfl, Nat.le_of_ble_eq_true rfl⟩ | (constructor <;> (dsimp only; omega))) ⟨by omega, by omega⟩ dX6_append_12 dX6_append_15 dX6_append_16 dX6_append_18 dX6_append_21
set_option maxRecDepth 100000 in
set_option maxHeartbeats 4000000 in
theorem c_X6_clearBuffer (l : Launch) (X : XT) (D : DT) (P : PT) (M : DT) (W : Nat) (h : RI D P M W) (hW : W + 200 < 2 ^ 29)  : CG l X yX6_clearBuffer (.code yX6_clearBuffer cX6_clearBuffer 2 (some .int) :: AW) ({ frames := 0, cells := 0, slots := 0, locals := 0 } : Room) [.ref (X.2.2 0)] (qI X (fun r D' P' => r = M 6 9 ∧ RI D' P' (up2 (clr M) 6 9 0) (W + 130) ∧ FX D D')) D P 0 0 := by
  refine cg_of (by decide +kernel) (Nat.le_of_ble_eq_true rfl) ?_
  intro K hKl hKR C
  refine PV_lv (lv' := [some (.ref (X.2.2 0)), none]) rfl ?_
  obtain ⟨⟨G, A, wr, nx, hw, hR, hT, hI, hAM⟩, ⟨s, hs5, hs3, hs0, hsj⟩, hP1, hP2, ⟨hk4, hk01, hkS⟩, n, hn60, hn9, hn1, hnk⟩ := id h
  refine pv_aload_n (q := 1) C dX6_clearBuffer_0 rfl rfl rfl ?_ 
  refine pg_6_5 (q := 4) C k0 tw_206 dX6_clearBuffer_1 rfl (fun k1 => ?_) 
  refine pg_2_1 (q := 7) C k1 tw_170 dX6_clearBuffer_4 rfl ?_ 
  refine pv_istore_n (q := 8) C dX6_clearBuffer_7 rfl rfl (Nat.le_of_ble_eq_true rfl) rfl ?_ 
  refine pv_aload_n (q := 9) C dX6_clearBuffer_8 rfl rfl rfl ?_ 
  refine pg_6_5 (q := 12) C k0 tw_206 dX6_clearBuffer_9 rfl (fun k9 => ?_) 
  refine pv_iconst (q := 13) (v := 0) C dX6_clearBuffer_12 rfl (by decide) ?_ 
  refine pp_2_1 (q := 16) C k9 tw_170 dX6_clearBuffer_13 rfl (fun D13 hD13 => ?_) 
  refine pv_iload_n (q := 17) C dX6_clearBuffer_16 rfl rfl rfl ?_ 
  exact pv_iret C (⟨hn1.trans hn9.symm, ⟨SB_cong (h.1.W (by omega)) (fun i x y => by rw [hD13, up2_ne _ _ _ (by omega)]) (fun _ _ => rfl), ⟨s, hs5, hs3, by rw [hD13]; exact hs0, fun j hj => (SB_cong (hsj j hj) (fun i x y => by have := sv_B (hP1 j (by omega)); rw [hD13, up2_ne _ _ _ (by omega)]) (fun _ _ => rfl)).W (by omega)⟩, hP1, hP2, ⟨by rw [hD13]; exact hk4, hk01, fun z => (SB_cong (hkS z) (fun i x y => by rw [hD13, up2_ne _ _ _ (by omega)]) (fun _ _ => rfl)).W (by omega)⟩, 0, by omega, by rw [up2_self]; rfl, by rw [hD13, up2_self]; rfl, fun q hq => absurd hq (by omega)⟩, fun i a b => by rw [hD13, up2_ne _ _ _ (by omega)]⟩) (by decide) (by decide) dX6_clearBuffer_17
set_option maxRecDepth 100000 in
set_option maxHeartbeats 4000000 in
theorem c_X6_firstError (l : Launch) (X : XT) (D : DT) (P : PT) (M : DT) (W : Nat) (h : RI D P M W) (hW : W + 200 < 2 ^ 29) (n : Nat) (hn60 : n ≤ 60) (hn9 : M 6 9 = nI n)  : CG l X yX6_firstError (.code yX6_firstError cX6_firstError 1 (some .int) :: AW) ({ frames := 5, cells := 0, slots := 0, locals := 180 } : Room) [.ref (X.2.2 0)] (qI X (fun r D' P' => r = nI (pAll (M 12) n 62 0).2 ∧ RI D' P' M (W + 130) ∧ FX D D')) D P 0 0 := by
  refine cg_of (by decide +kernel) (Nat.le_of_ble_eq_true rfl) ?_
  intro K hKl hKR C
  refine PV_lv (lv' := [some (.ref (X.2.2 0))]) rfl ?_
  obtain ⟨⟨G, A, wr, nx, hw, hR, hT, hI, hAM⟩, ⟨s, hs5, hs3, hs0, hsj⟩, hP1, hP2, ⟨hk4, hk01, hkS⟩, n', hn60', hn9', hn1', hnk'⟩ := id h
  obtain rfl : n = n' := nI_inj (by omega) (by omega) (hn9.symm.trans hn9')
  have hn1 := hn1'
  have hnk := hnk'
  refine pv_aload_n (q := 1) C dX6_firstError_0 rfl rfl rfl ?_ 
  refine pg_6_5 (q := 4) C k0 tw_206 dX6_firstError_1 rfl (fun k1 => ?_) 
  refine pv_callVi (q := 7) C hKl (c_X2_readWhole l X D P n hn1 hn60) tw_955 k1 (by decide) rfl mm_X2_readWhole ⟨rfl, rfl⟩ (by rw [hKR]; exact ⟨Nat.le_of_ble_eq_true rfl, Nat.le_of_ble_eq_true rfl⟩) (by rw [hKR]; exact ⟨Nat.le_of_ble_eq_true rfl, Nat.le_of_ble_eq_true rfl⟩) rfl rfl rfl (Nat.le_of_ble_eq_true rfl) dX6_firstError_4 rfl (fun r4 D4 P4 hp4 => ?_) 
  obtain ⟨⟨hrr, ha, hle, hc⟩, rfl⟩ := hp4
  refine pv_pop (q := 8) C dX6_firstError_7 rfl rfl ?_ 
  refine pv_aload_n (q := 9) C dX6_firstError_8 rfl rfl rfl ?_ 
  refine pg_6_5 (q := 12) C k0 tw_206 dX6_firstError_9 rfl (fun k9 => ?_) 
  refine pg_2_2 (q := 15) C k9 tw_172 dX6_firstError_12 rfl ?_ 
  exact pv_iret C (⟨by rw [ha, pAll_cong hnk], RI_W (RI_D h ⟨by rw [hc.1 0 (by decide)], by rw [hc.1 0 (by decide)]⟩ (hc.2 1 (by decide)) (hc.1 3 (by decide)) (fun i hi => hc.1 i (by omega))) (by omega), fun i a b => hc.1 i (by omega)⟩) (by decide) (by decide) dX6_firstError_15
set_option maxRecDepth 100000 in
set_option maxHeartbeats 4000000 in
theorem c_X6_undo (l : Launch) (X : XT) (D : DT) (P : PT) (hfl : l.stackTraces = false) (M : DT) (W : Nat) (h : RI D P M W) (hW : W + 200 < 2 ^ 29) (s : Nat) (hs5 : s ≤ 5) (hs3 : M 6 3 = nI s)  : XG l X yX6_undo (.code yX6_undo cX6_undo 1 (some .int) :: AW) ({ frames := 6, cells := 1, slots := 6, locals := 216 } : Room) [.ref (X.2.2 0)] (qI X (fun r D' P' => (if s = 0 then 1 else 0) = 0 ∧ r = (nI (s - 1)) ∧ RI D' P' (m_und (clr M) s) (W + 130) ∧ FX D D')) (fun e D' P' => ((e = eISE ∧ (if s = 0 then 1 else 0) = 1)) ∧ Fs D D' ∧ P = P') D P 1 6 := by
  refine xg_of (by decide +kernel) (Nat.le_of_ble_eq_true rfl) ?_
  intro K hKl hKR C ht0 Z
  have hfl : K.2.1.stackTraces = false := by rw [hKl]; exact hfl
  refine PV_lv (lv' := [some (.ref (X.2.2 0))]) rfl ?_
  obtain ⟨⟨G, A, wr, nx, hw, hR, hT, hI, hAM⟩, ⟨s', hs5', hs3', hs0', hsj'⟩, hP1, hP2, ⟨hk4, hk01, hkS⟩, n, hn60, hn9, hn1, hnk⟩ := id h
  obtain rfl : s = s' := nI_inj (by omega) (by omega) (hs3.symm.trans hs3')
  have hs0 := hs0'
  have hsj := hsj'
  refine pv_aload_n (q := 1) C dX6_undo_0 rfl rfl rfl ?_ 
  refine pg_6_2 (q := 4) C k0 tw_203 dX6_undo_1 rfl ?_ 
  rw [hs0]
  refine pv_iconst (q := 5) (v := 1) C dX6_undo_4 rfl (by decide) ?_ 
  refine pv_icmp_ltN (q := 8) (tgt := 20) (a := s) (b := 1) C rfl rfl (by omega) (by omega) dX6_undo_5 (by decide) rfl (fun c_5 => ?_) (fun c_5 => ?_) 
  · exact pv_throwISE (text := "there is no saved state") C Z ht0 hfl (by decide +kernel) ((by first | exact ⟨⟨rfl, if_pos (by omega)⟩, Fs_rf D, rfl⟩ | omega)) rfl (by rw [hKR]; exact ⟨Nat.le_of_ble_eq_true rfl, Nat.le_of_ble_eq_true rfl⟩) (by rw [hKR]; first | exact ⟨Nat.le_of_ble_eq_true rfl, Nat.le_of_ble_eq_true rfl⟩ | (constructor <;> (dsimp only; omega))) ⟨by omega, by omega⟩ dX6_undo_20 dX6_undo_23 dX6_undo_24 dX6_undo_26 dX6_undo_29
  · refine pv_aload_n (q := 9) C dX6_undo_8 rfl rfl rfl ?_
    refine pg_6_2 (q := 12) C k0 tw_203 dX6_undo_9 rfl ?_ 
    rw [hs0]
    refine pv_aload_n (q := 13) C dX6_undo_12 rfl rfl rfl ?_ 
    refine pg_6_1 (q := 16) C k0 tw_202 dX6_undo_13 rfl (fun k13 => ?_) 
    refine pv_alen_11 (q := 17) C k13 dX6_undo_16 rfl ?_ 
    refine pv_icmp_leN (q := 20) (tgt := 30) (a := s) (b := 5) C rfl rfl (by omega) (by omega) dX6_undo_17 (by decide) rfl (fun c_17 => ?_) (fun c_17 => ?_) 
    · obtain ⟨G2, A2, wr2, nx2, hw2, hR2, hT2, hI2, hAM2⟩ := hsj (s - 1) (by omega)
      have hB := sv_B (hP1 (s - 1) (by omega))
      refine pv_aload_n (q := 31) C dX6_undo_30 rfl rfl rfl ?_ 
      refine pv_dup (q := 32) C dX6_undo_31 rfl rfl ?_ 
      refine pg_6_2 (q := 35) C k0 tw_203 dX6_undo_32 rfl ?_ 
      rw [hs0]
      refine pv_iconst (q := 36) (v := 1) C dX6_undo_35 rfl (by decide) ?_ 
      refine pv_isubN (q := 37) (a := s) (b := 1) C rfl rfl (by omega) dX6_undo_36 rfl ?_ 
      refine pp_6_2 (q := 40) C k0 tw_203 dX6_undo_37 rfl (fun D37 hD37 => ?_) 
      refine pv_aload_n (q := 41) C dX6_undo_40 rfl rfl rfl ?_ 
      refine pg_6_0 (q := 44) C k0 tw_201 dX6_undo_41 rfl (fun k41 => ?_) 
      refine pv_aload_n (q := 45) C dX6_undo_44 rfl rfl rfl ?_ 
      refine pg_6_1 (q := 48) C k0 tw_202 dX6_undo_45 rfl (fun k45 => ?_) 
      refine pv_aload_n (q := 49) C dX6_undo_48 rfl rfl rfl ?_ 
      refine pg_6_2 (q := 52) C k0 tw_203 dX6_undo_49 rfl ?_ 
      rw [show D37 0 2 = nI (s - 1) by rw [hD37, up2_self]]
      refine pv_aald_11 (q := 53) (j := (s - 1)) C k45 rfl (by omega) (hP1 _ (by omega)).1 dX6_undo_52 rfl (fun k52 => ?_) 
      refine pv_callVv (q := 56) C hKl (c_X3_copyFrom l X D37 P 24 (P.1 (s - 1)) kS24 (hP1 _ (by omega)).1 (fun z => (hP1 (s - 1) (by omega)).2.1 z.symm) (fun k => M 8 (184 * (s - 1) + k)) G2 A2 wr2 nx2 (Rp_D hR2 (fun i x => by rw [hD37, up2_ne _ _ _ (by omega)])) (TR_lo hT2 (by rw [hD37, up2_ne _ _ _ (by omega)]) (by rw [hD37, up2_ne _ _ _ (by omega)]) (fun _ _ => rfl))) tw_230 k41 (by decide) rfl mm_X3_copyFrom ⟨rfl, rfl⟩ (by rw [hKR]; exact ⟨Nat.le_of_ble_eq_true rfl, Nat.le_of_ble_eq_true rfl⟩) (by rw [hKR]; exact ⟨Nat.le_of_ble_eq_true rfl, Nat.le_of_ble_eq_true rfl⟩) rfl rfl rfl (Nat.le_of_ble_eq_true rfl) dX6_undo_53 rfl (fun D53 P53 hp53 => ?_) 
      obtain ⟨s1, s2, s3, rfl⟩ := hp53
      refine pv_aload_n (q := 57) C dX6_undo_56 rfl rfl rfl ?_ 
      refine pg_6_2 (q := 60) C k0 tw_203 dX6_undo_57 rfl ?_ 
      rw [show D53 0 2 = nI (s - 1) by rw [s1 0 (by omega), hD37, up2_self]]
      exact XK.of (pv_iret C (by
          have fO : ∀ i, i ≠ 0 → (i < 24 ∨ 63 ≤ i) → D53 i = D i := fun i hi q => by rw [s1 i (by omega), hD37, up2_ne _ _ _ hi]
          refine ⟨if_neg (by omega), rfl, ⟨⟨G2, A2, wr2, nx2, by omega, Rp_cong s2 (fun k hk => by show (if k < 184 then _ else _) = _; rw [if_pos hk]; rfl) (fun _ _ _ => rfl) rfl (fun _ _ => ⟨rfl, rfl, rfl⟩) (fun _ _ => ⟨fun _ _ _ => rfl, fun _ _ => ⟨rfl, fun _ _ => rfl⟩⟩), TR_lo s3 rfl rfl (fun k hk => by show (if k < 184 then _ else _) = _; rw [if_pos (by omega)]; rfl), TI_ext hI2 (fun k hk => by show (if k < 184 then _ else _) = _; rw [if_pos hk]; rfl), AM_same hAM2 (fun k hk => by show (if k < 184 then _ else _) = _; rw [if_pos (by omega)]; rfl)⟩, ⟨s - 1, by omega, rfl, by rw [s1 0 (by omega), hD37, up2_self], fun j hj => (SB_cong (hsj j (by omega)) (fun i x y => fO i (by have := sv_B (hP1 j (by omega)); omega) (by have := sv_B (hP1 j (by omega)); omega)) (fun _ _ => rfl)).W (by omega)⟩, hP1, hP2, ⟨by rw [s1 0 (by omega), hD37, up2_nk _ _ _ (by decide)]; exact hk4, hk01, fun z => (SB_cong (hkS z) (fun i x y => fO i (by omega) (by omega)) (fun _ _ => rfl)).W (by omega)⟩, n, hn60, hn9, by rw [fO 2 (by decide) (by omega)]; exact hn1, fun q hq => by rw [fO 3 (by decide) (by omega)]; exact hnk q hq⟩, fun i a b => fO i (by omega) (by omega)⟩) (by decide) (by decide) dX6_undo_60)
    · exact pv_throwISE (text := "there is no saved state") C Z ht0 hfl (by decide +kernel) ((by first | exact ⟨⟨rfl, if_pos (by omega)⟩, Fs_rf D, rfl⟩ | omega)) rfl (by rw [hKR]; exact ⟨Nat.le_of_ble_eq_true rfl, Nat.le_of_ble_eq_true rfl⟩) (by rw [hKR]; first | exact ⟨Nat.le_of_ble_eq_true rfl, Nat.le_of_ble_eq_true rfl⟩ | (constructor <;> (dsimp only; omega))) ⟨by omega, by omega⟩ dX6_undo_20 dX6_undo_23 dX6_undo_24 dX6_undo_26 dX6_undo_29
set_option maxRecDepth 100000 in
set_option maxHeartbeats 4000000 in
theorem c_X6_keep (l : Launch) (X : XT) (D : DT) (P : PT) (M : DT) (W : Nat) (h : RI D P M W) (hW : W + 200 < 2 ^ 29)  : CG l X yX6_keep (.code yX6_keep cX6_keep 1 (some .int) :: AW) ({ frames := 4, cells := 0, slots := 0, locals := 144 } : Room) [.ref (X.2.2 0)] (qI X (fun r D' P' => r = nI (tk (M 7)) ∧ RI D' P' (m_keep (clr M)) (W + 130) ∧ FX D D')) D P 0 0 := by
  refine cg_of (by decide +kernel) (Nat.le_of_ble_eq_true rfl) ?_
  intro K hKl hKR C
  refine PV_lv (lv' := [some (.ref (X.2.2 0))]) rfl ?_
  obtain ⟨⟨G, A, wr, nx, hw, hR, hT, hI, hAM⟩, ⟨s, hs5, hs3, hs0, hsj⟩, hP1, hP2, ⟨hk4, hk01, hkS⟩, n, hn60, hn9, hn1, hnk⟩ := id h
  refine pv_aload_n (q := 1) C dX6_keep_0 rfl rfl rfl ?_ 
  refine pg_6_3 (q := 4) C k0 tw_204 dX6_keep_1 rfl (fun k1 => ?_) 
  refine pv_aload_n (q := 5) C dX6_keep_4 rfl rfl rfl ?_ 
  refine pg_6_0 (q := 8) C k0 tw_201 dX6_keep_5 rfl (fun k5 => ?_) 
  refine pv_callVv (q := 11) C hKl (c_X3_copyFrom l X D P 258 24 rfl kS24 (by decide) (M 7) G A wr nx hR hT) tw_230 k1 (by decide) rfl mm_X3_copyFrom ⟨rfl, rfl⟩ (by rw [hKR]; exact ⟨Nat.le_of_ble_eq_true rfl, Nat.le_of_ble_eq_true rfl⟩) (by rw [hKR]; exact ⟨Nat.le_of_ble_eq_true rfl, Nat.le_of_ble_eq_true rfl⟩) rfl rfl rfl (Nat.le_of_ble_eq_true rfl) dX6_keep_8 rfl (fun D8 P8 hp8 => ?_) 
  obtain ⟨s1, s2, s3, rfl⟩ := hp8
  refine pv_aload_n (q := 12) C dX6_keep_11 rfl rfl rfl ?_ 
  refine pv_iconst (q := 13) (v := 1) C dX6_keep_12 rfl (by decide) ?_ 
  refine pp_6_4 (q := 16) C k0 tw_205 (Or.inr rfl) dX6_keep_13 rfl (fun D13 hD13 => ?_) 
  refine pv_aload_n (q := 17) C dX6_keep_16 rfl rfl rfl ?_ 
  refine pg_6_0 (q := 20) C k0 tw_201 dX6_keep_17 rfl (fun k17 => ?_) 
  refine pg_3_0 (q := 23) C k17 tw_129 dX6_keep_20 rfl (fun k20 => ?_) 
  refine pv_callVi (q := 26) C hKl (c_X4_countRows l X D13 P (24 + 1) (by assumption)) tw_255 k20 (by decide) rfl mm_X4_countRows ⟨rfl, rfl⟩ (by rw [hKR]; exact ⟨Nat.le_of_ble_eq_true rfl, Nat.le_of_ble_eq_true rfl⟩) (by rw [hKR]; exact ⟨Nat.le_of_ble_eq_true rfl, Nat.le_of_ble_eq_true rfl⟩) rfl rfl rfl (Nat.le_of_ble_eq_true rfl) dX6_keep_23 rfl (fun r23 D23 P23 hp23 => ?_) 
  obtain ⟨rfl, rfl, rfl⟩ := hp23
  exact pv_iret C (by
      have fO : ∀ i, i ≠ 0 → (i < 258 ∨ 297 ≤ i) → D13 i = D i := fun i hi q => by rw [hD13, up2_ne _ _ _ hi, s1 i (by omega)]
      have f0 : ∀ k, k ≠ 4 → D13 0 k = D 0 k := fun k hk => by rw [hD13, up2_nk _ _ _ hk, s1 0 (by omega)]
      have fK : ∀ k, k < 184 → (m_keep (clr M)) 9 k = M 7 k := fun k hk => by show (if k < 184 then _ else _) = _; rw [if_pos hk]; rfl
      refine ⟨by rw [← TR_tk (TR_lo (D2 := D13) hT (fO _ (by omega) (by omega)) (fO _ (by omega) (by omega)) (fun _ _ => rfl))], ⟨SB_cong (h.1.W (by omega)) (fun i x y => fO i (by omega) (by omega)) (fun _ _ => rfl), ⟨s, hs5, hs3, by rw [f0 2 (by decide)]; exact hs0, fun j hj => (SB_cong (hsj j hj) (fun i x y => fO i (by have := sv_B (hP1 j (by omega)); omega) (by have := sv_B (hP1 j (by omega)); omega)) (fun _ _ => rfl)).W (by omega)⟩, hP1, hP2, ⟨by rw [hD13, up2_self]; rfl, Or.inr rfl, fun _ => ⟨G, A, wr, nx, by omega, Rp_cong (D := D8) s2 fK (fun j x y => by rw [hD13, up2_ne _ _ _ (by omega)]) (by rw [hD13, up2_ne _ _ _ (by omega)]) (fun k _ => by rw [hD13, up2_ne _ _ _ (by omega), up2_ne _ _ _ (by omega), up2_ne _ _ _ (by omega)]; exact ⟨rfl, rfl, rfl⟩) (fun v _ => ⟨fun k _ _ => by rw [hD13, up2_ne _ _ _ (by omega)], fun g _ => ⟨by rw [hD13, up2_ne _ _ _ (by omega)], fun k _ => by rw [hD13, up2_ne _ _ _ (by omega)]⟩⟩), TR_lo s3 (by rw [hD13, up2_ne _ _ _ (by omega)]) (by rw [hD13, up2_ne _ _ _ (by omega)]) (fun k hk => fK k (by omega)), TI_ext hI fK, AM_same hAM (fun k hk => fK k (by omega))⟩⟩, n, hn60, hn9, by rw [fO 2 (by decide) (by omega)]; exact hn1, fun q hq => by rw [fO 3 (by decide) (by omega)]; exact hnk q hq⟩, fun i a b => fO i (by omega) (by omega)⟩) (by decide) (by decide) dX6_keep_26
set_option maxRecDepth 100000 in
set_option maxHeartbeats 4000000 in
theorem c_X6_restore (l : Launch) (X : XT) (D : DT) (P : PT) (hfl : l.stackTraces = false) (M : DT) (W : Nat) (h : RI D P M W) (hW : W + 200 < 2 ^ 29)  : XG l X yX6_restore (.code yX6_restore cX6_restore 1 (some .int) :: AW) ({ frames := 6, cells := 1, slots := 6, locals := 216 } : Room) [.ref (X.2.2 0)] (qI X (fun r D' P' => (if M 6 5 = 0 then 1 else 0) = 0 ∧ r = (nI (tk (M 9))) ∧ RI D' P' (m_rest (m_save (clr M))) (W + 130) ∧ FX D D')) (fun e D' P' => ((e = eISE ∧ (if M 6 5 = 0 then 1 else 0) = 1)) ∧ Fs D D' ∧ P = P') D P 1 6 := by
  refine xg_of (by decide +kernel) (Nat.le_of_ble_eq_true rfl) ?_
  intro K hKl hKR C ht0 Z
  have hfl : K.2.1.stackTraces = false := by rw [hKl]; exact hfl
  refine PV_lv (lv' := [some (.ref (X.2.2 0))]) rfl ?_
  obtain ⟨⟨G, A, wr, nx, hw, hR, hT, hI, hAM⟩, ⟨s, hs5, hs3, hs0, hsj⟩, hP1, hP2, ⟨hk4, hk01, hkS⟩, n, hn60, hn9, hn1, hnk⟩ := id h
  refine pv_aload_n (q := 1) C dX6_restore_0 rfl rfl rfl ?_ 
  refine pg_6_4 (q := 4) C k0 tw_205 dX6_restore_1 rfl ?_ 
  rw [hk4]
  refine pv_if_ne (q := 7) (tgt := 17) C dX6_restore_4 (by decide) rfl (fun c_4 => ?_) (fun c_4 => ?_) 
  · refine pv_aload_n (q := 18) C dX6_restore_17 rfl rfl rfl ?_
    refine pv_callVv (q := 21) C hKl (c_X6_saveState l X D P M W h) tw_344 k0 (by decide) rfl mm_X6_saveState ⟨rfl, rfl⟩ (by rw [hKR]; exact ⟨Nat.le_of_ble_eq_true rfl, Nat.le_of_ble_eq_true rfl⟩) (by rw [hKR]; exact ⟨Nat.le_of_ble_eq_true rfl, Nat.le_of_ble_eq_true rfl⟩) rfl rfl rfl (Nat.le_of_ble_eq_true rfl) dX6_restore_18 rfl (fun D18 P18 hp18 => ?_) 
    obtain ⟨hRI, hF1, hF2⟩ := hp18
    obtain ⟨G, A, wr, nx, hw, hR, hT, hI, hAM⟩ : SB D18 24 (M 7) W := hRI.1
    have hfl : fl (M 7) := h.1.fl
    have hdl : dl (M 7) 2 := h.1.dl (by omega)
    obtain ⟨G2, A2, wr2, nx2, hw2, hR2, hT2, hI2, hAM2⟩ : SB D18 258 (M 9) W := hRI.2.2.2.2.1.2.2 (hk01.resolve_left c_4)
    refine pv_aload_n (q := 22) C dX6_restore_21 rfl rfl rfl ?_ 
    refine pg_6_0 (q := 25) C k0 tw_201 dX6_restore_22 rfl (fun k22 => ?_) 
    refine pv_aload_n (q := 26) C dX6_restore_25 rfl rfl rfl ?_ 
    refine pg_6_3 (q := 29) C k0 tw_204 dX6_restore_26 rfl (fun k26 => ?_) 
    refine pv_callVv (q := 32) C hKl (c_X3_copyFrom l X D18 P18 24 258 kS24 rfl (by decide) (M 9) G2 A2 wr2 nx2 hR2 hT2) tw_230 k22 (by decide) rfl mm_X3_copyFrom ⟨rfl, rfl⟩ (by rw [hKR]; exact ⟨Nat.le_of_ble_eq_true rfl, Nat.le_of_ble_eq_true rfl⟩) (by rw [hKR]; exact ⟨Nat.le_of_ble_eq_true rfl, Nat.le_of_ble_eq_true rfl⟩) rfl rfl rfl (Nat.le_of_ble_eq_true rfl) dX6_restore_29 rfl (fun D29 P29 hp29 => ?_) 
    obtain ⟨s1, s2, s3, rfl⟩ := hp29
    have fK : ∀ k, k < 184 → (m_rest (m_save (clr M))) 7 k = M 9 k := fun k hk => by show (if k < 184 then _ else _) = _; rw [if_pos hk]; rfl
    have hRI2 : RI D29 P18 (m_rest (m_save (clr M))) (W + 130) := RI_now hRI (by omega) ⟨G2, A2, wr2, nx2, by omega, Rp_cong s2 fK (fun _ _ _ => rfl) rfl (fun _ _ => ⟨rfl, rfl, rfl⟩) (fun _ _ => ⟨fun _ _ _ => rfl, fun _ _ => ⟨rfl, fun _ _ => rfl⟩⟩), TR_lo s3 rfl rfl (fun k hk => fK k (by omega)), TI_ext hI2 fK, AM_same hAM2 (fun k hk => fK k (by omega))⟩ (fun i hi => s1 i (by omega)) rfl rfl rfl rfl rfl rfl
    refine pv_aload_n (q := 33) C dX6_restore_32 rfl rfl rfl ?_ 
    refine pg_6_0 (q := 36) C k0 tw_201 dX6_restore_33 rfl (fun k33 => ?_) 
    refine pg_3_0 (q := 39) C k33 tw_129 dX6_restore_36 rfl (fun k36 => ?_) 
    refine pv_callVi (q := 42) C hKl (c_X4_countRows l X D29 P18 (24 + 1) (by assumption)) tw_255 k36 (by decide) rfl mm_X4_countRows ⟨rfl, rfl⟩ (by rw [hKR]; exact ⟨Nat.le_of_ble_eq_true rfl, Nat.le_of_ble_eq_true rfl⟩) (by rw [hKR]; exact ⟨Nat.le_of_ble_eq_true rfl, Nat.le_of_ble_eq_true rfl⟩) rfl rfl rfl (Nat.le_of_ble_eq_true rfl) dX6_restore_39 rfl (fun r39 D39 P39 hp39 => ?_) 
    obtain ⟨rfl, rfl, rfl⟩ := hp39
    exact XK.of (pv_iret C (⟨if_neg c_4, congrArg nI (TR_tk s3), hRI2, fun i a b => by rw [s1 i (by omega), hF1 i (by omega) (by omega)]⟩) (by decide) (by decide) dX6_restore_42)
  · exact pv_throwISE (text := "there is no snapshot") C Z ht0 hfl (by decide +kernel) (⟨⟨rfl, if_pos c_4⟩, Fs_rf D, rfl⟩) rfl (by rw [hKR]; exact ⟨Nat.le_of_ble_eq_true rfl, Nat.le_of_ble_eq_true rfl⟩) (by rw [hKR]; first | exact ⟨Nat.le_of_ble_eq_true rfl, Nat.le_of_ble_eq_true rfl⟩ | (constructor <;> (dsimp only; omega))) ⟨by omega, by omega⟩ dX6_restore_7 dX6_restore_10 dX6_restore_11 dX6_restore_13 dX6_restore_16
