theorem lpA_stop {n k : Nat} {D : DT} (h : ¬ (D 6 11 = 1 ∧ ix (D 6 10) < n)) : lpA n k D = D := by
  cases k with
  | zero => rfl
  | succ k => exact if_neg h
theorem lpA_s {n k b : Nat} {D : DT} (hg : D 6 11 = 1) (ha : D 6 10 = nI b) (hb : b < n) (hn : n ≤ 60) : lpA n (k + 1) D = if D 12 b = 59 then lpA n k (dnU (pres (pd D (b + 1) 1) (pPart (D 12) n (b + 1)))) else dnU (pd D b 0) := by
  show (if D 6 11 = 1 ∧ ix (D 6 10) < n then _ else _) = _
  rw [if_pos ⟨hg, by rw [ha, ix_n (by omega)]; exact hb⟩, ha, ix_n (by omega)]
theorem txt_dn {D : DT} {n a : Nat} (h : txt D n a) : txt (dnU D) n a := ⟨by rw [dnU_k _ (by decide)]; exact h.1, h.2.1, by rw [dnU_k _ (by decide)]; exact h.2.2.1, h.2.2.2⟩
set_option maxRecDepth 100000 in
set_option maxHeartbeats 4000000 in
theorem c_X7_readAll (l : Launch) (X : XT) (D : DT) (P : PT) (n : Nat) (hn : D 6 9 = nI n) (hn60 : n ≤ 60) (d : Int32) (hd : d = 0 ∨ d = 1) (hrw : d = 1 → RW (D 7) 126) : CG l X yX7_readAll (.code yX7_readAll cX7_readAll 3 none :: AW) ({ frames := 7, cells := 0, slots := 0, locals := 252 } : Room) [.ref (X.2.2 6), .int d] (qV X (fun D' P' => D' = rdA D n d ∧ P = P')) D P 0 0 := by
  refine cg_of (by decide +kernel) (Nat.le_of_ble_eq_true rfl) ?_
  intro K hKl hKR C
  refine PV_lv (lv' := [some (.ref (X.2.2 6)), some (.int d), none]) rfl ?_
  refine pv_aload_n (q := 1) C dX7_readAll_0 rfl rfl rfl ?_ 
  refine pv_iconst (q := 2) (v := 0) C dX7_readAll_1 rfl (by decide) ?_ 
  refine pp_7_10 (q := 5) C k6 tw_1005 dX7_readAll_2 rfl (fun D2 hD2 => ?_) 
  refine pv_aload_n (q := 6) C dX7_readAll_5 rfl rfl rfl ?_ 
  refine pv_iconst (q := 7) (v := 1) C dX7_readAll_6 rfl (by decide) ?_ 
  refine pp_7_11 (q := 10) C k6 tw_1006 (Or.inr rfl) dX7_readAll_7 rfl (fun D7 hD7 => ?_) 
  refine pv_aload_n (q := 11) C dX7_readAll_10 rfl rfl rfl ?_ 
  refine pv_iload_n (q := 12) C dX7_readAll_11 rfl rfl rfl ?_ 
  refine pp_7_12 (q := 15) C k6 tw_1007 (hd) dX7_readAll_12 rfl (fun D12 hD12 => ?_) 
  refine pv_aload_n (q := 16) C dX7_readAll_15 rfl rfl rfl ?_ 
  refine pv_iconst (q := 17) (v := 0) C dX7_readAll_16 rfl (by decide) ?_ 
  refine pp_7_13 (q := 20) C k6 tw_1008 dX7_readAll_17 rfl (fun D17 hD17 => ?_) 
  refine pv_aload_n (q := 21) C dX7_readAll_20 rfl rfl rfl ?_ 
  refine pv_iconst (q := 22) (v := 0) C dX7_readAll_21 rfl (by decide) ?_ 
  refine pp_7_14 (q := 25) C k6 tw_1009 dX7_readAll_22 rfl (fun D22 hD22 => ?_) 
  have e10 : up2 (up2 D 6 10 0) 6 11 1 = pd D 0 1 := by
    refine DT_ext (fun i hi => by rw [up2_ne _ _ _ hi, up2_ne _ _ _ hi, pd_o _ _ _ hi]) (fun k => ?_)
    by_cases e : k = 11
    · subst e; rw [up2_self, pd_g]
    · rw [up2_nk _ _ _ e]
      by_cases e2 : k = 10
      · subst e2; rw [up2_self, pd_a]; rfl
      · rw [up2_nk _ _ _ e2, pd_k _ _ _ e2 e]
  have e22 : D22 = rdI D d := by
    rw [hD22, hD17, hD12, hD7, hD2, e10]
    rfl
  have i9 : rdI D d 6 9 = D 6 9 := by unfold rdI; rw [up2_nk _ _ _ (by decide), up2_nk _ _ _ (by decide), up2_nk _ _ _ (by decide), pd_k _ _ _ (by decide) (by decide)]
  have i10 : rdI D d 6 10 = nI 0 := by unfold rdI; rw [up2_nk _ _ _ (by decide), up2_nk _ _ _ (by decide), up2_nk _ _ _ (by decide), pd_a]
  have i11 : rdI D d 6 11 = 1 := by unfold rdI; rw [up2_nk _ _ _ (by decide), up2_nk _ _ _ (by decide), up2_nk _ _ _ (by decide), pd_g]
  have id12 : rdI D d 6 12 = d := by unfold rdI; rw [up2_nk _ _ _ (by decide), up2_nk _ _ _ (by decide), up2_self]
  have io : ∀ i, i ≠ 6 → rdI D d i = D i := fun i hi => by unfold rdI; rw [up2_ne _ _ _ hi, up2_ne _ _ _ hi, up2_ne _ _ _ hi, pd_o _ _ _ hi]
  have i12 : rdI D d 12 = D 12 := io 12 (by decide)
  have ri : RH (rdI D d) 126 := fun z1 z2 => by rw [io 7 (by decide)]; exact hrw (by rw [← id12]; exact z1)
  refine pv_aload_n (q := 26) C dX7_readAll_25 rfl rfl rfl ?_ 
  refine pv_callVi (q := 29) C hKl (c_X7_readPart l X D22 P n 0 (by rw [e22]; exact ⟨i9.trans hn, hn60, i10, by omega⟩) (by rw [e22, id12]; exact hd) (by rw [e22]; exact i11) (by rw [e22]; exact fun z1 z2 => RW_le (ri z1 z2) (by decide))) tw_1211 k6 (by decide) rfl mm_X7_readPart ⟨rfl, rfl⟩ (by rw [hKR]; exact ⟨Nat.le_of_ble_eq_true rfl, Nat.le_of_ble_eq_true rfl⟩) (by rw [hKR]; exact ⟨Nat.le_of_ble_eq_true rfl, Nat.le_of_ble_eq_true rfl⟩) rfl rfl rfl (Nat.le_of_ble_eq_true rfl) dX7_readAll_26 rfl (fun r26 D26 P26 hp26 => ?_) 
  obtain ⟨hR26, rfl⟩ := hp26
  have e26 : D26 = pres (rdI D d) (pPart (D 12) n 0) := by rw [hR26, e22, i12]
  have ok26 := pPart_ok (f := D 12) (n := n) (a := 0) (by omega)
  have g26 : D26 6 11 = 0 ∨ D26 6 11 = 1 := by rw [e26, pres_g]; exact okI_01 _
  refine pv_istore_n (q := 30) C dX7_readAll_29 rfl rfl (Nat.le_of_ble_eq_true rfl) rfl ?_ 
  refine pv_aload_n (q := 31) C dX7_readAll_30 rfl rfl rfl ?_ 
  refine pv_dup (q := 32) C dX7_readAll_31 rfl rfl ?_ 
  refine pg_7_14 (q := 35) C k6 tw_1009 dX7_readAll_32 rfl ?_ 
  refine pv_aload_n (q := 36) C dX7_readAll_35 rfl rfl rfl ?_ 
  refine pg_7_11 (q := 39) C k6 tw_1006 dX7_readAll_36 rfl ?_ 
  refine pv_if_eq (q := 42) (tgt := 53) C dX7_readAll_39 (by decide) rfl (fun c_39 => ?_) (fun c_39 => ?_) 
  · refine pv_iconst (q := 54) (v := 0) C dX7_readAll_53 rfl (by decide) ?_
    refine pv_iadd (q := 55) C dX7_readAll_54 rfl ?_ 
    refine pp_7_14 (q := 58) C k6 tw_1009 dX7_readAll_55 rfl (fun D55 hD55 => ?_) 
    have loop_58 : ∀ (nn : Nat) (b k : Nat) (D1 : DT), (k + 1 ≤ nn) → (D1 6 11 = 0 ∨ n < b + k) → b ≤ n → txt D1 n b → D1 12 = D 12 → D1 6 12 = d → (D1 6 11 = 0 ∨ D1 6 11 = 1) → RH D1 (2 * k + 2) → lpA n k D1 = rdA D n d → PV K X (MK K X (qV X (fun D' P' => D' = rdA D n d ∧ P = P')) 0 0) (0) (0) 58 [some (.ref (X.2.2 6)), some (.int d), none] [] D1 P := by
      intro nn
      induction nn with
      | zero =>
        intro b k D1 hfuel hk hb ht hx h12 hgg hrh hfin
        exact absurd hfuel (by omega)
      | succ nn ih =>
        intro b k D1 hfuel hk hb ht hx h12 hgg hrh hfin
        refine pv_aload_n (q := 59) C dX7_readAll_58 rfl rfl rfl ?_ 
        refine pg_7_11 (q := 62) C k6 tw_1006 dX7_readAll_59 rfl ?_ 
        refine pv_if_eq (q := 65) (tgt := 141) C dX7_readAll_62 (by decide) rfl (fun c_62 => ?_) (fun c_62 => ?_) 
        · exact pv_vret C (⟨by rw [← hfin, lpA_stop (fun z => absurd z.1 (by rw [c_62]; decide))], rfl⟩) (by decide) (by decide) dX7_readAll_141
        · refine pv_aload_n (q := 66) C dX7_readAll_65 rfl rfl rfl ?_
          refine pg_7_10 (q := 69) C k6 tw_1005 dX7_readAll_66 rfl ?_ 
          rw [show D1 6 10 = nI b from ht.2.2.1]
          refine pv_aload_n (q := 70) C dX7_readAll_69 rfl rfl rfl ?_ 
          refine pg_7_9 (q := 73) C k6 tw_1004 dX7_readAll_70 rfl ?_ 
          rw [show D1 6 9 = nI n from ht.1]
          refine pv_icmp_geN (q := 76) (tgt := 141) (a := b) (b := n) C rfl rfl (by omega) (by omega) dX7_readAll_73 (by decide) rfl (fun c_73 => ?_) (fun c_73 => ?_) 
          · exact pv_vret C (⟨by rw [← hfin, lpA_stop (fun z => absurd z.2 (by rw [ht.2.2.1, ix_n (by omega)]; omega))], rfl⟩) (by decide) (by decide) dX7_readAll_141
          · have hgd : D1 6 11 = 1 := hgg.resolve_left c_62
            refine pv_aload_n (q := 77) C dX7_readAll_76 rfl rfl rfl ?_ 
            refine pv_aload_n (q := 78) C dX7_readAll_77 rfl rfl rfl ?_ 
            refine pv_callVi (q := 81) C hKl (c_X7_here l X D1 P n b (ht)) tw_1215 k6 (by decide) rfl mm_X7_here ⟨rfl, rfl⟩ (by rw [hKR]; exact ⟨Nat.le_of_ble_eq_true rfl, Nat.le_of_ble_eq_true rfl⟩) (by rw [hKR]; exact ⟨Nat.le_of_ble_eq_true rfl, Nat.le_of_ble_eq_true rfl⟩) rfl rfl rfl (Nat.le_of_ble_eq_true rfl) dX7_readAll_78 rfl (fun r78 D78 P78 hp78 => ?_) 
            obtain ⟨rfl, rfl, rfl⟩ := hp78
            refine pv_bipush (q := 83) (v := 59) C dX7_readAll_81 rfl (by decide) ?_ 
            refine pv_icmp_ne (q := 86) (tgt := 90) C dX7_readAll_83 (by decide) rfl (fun c_83 => ?_) (fun c_83 => ?_) 
            · refine pv_iconst (q := 91) (v := 0) C dX7_readAll_90 rfl (by decide) ?_
              refine pv_callVv (q := 94) C hKl (c_X7_take0 l X D1 P b ht.2.2.1) tw_1219 k6 (by decide) rfl mm_X7_take ⟨rfl, rfl⟩ (by rw [hKR]; exact ⟨Nat.le_of_ble_eq_true rfl, Nat.le_of_ble_eq_true rfl⟩) (by rw [hKR]; exact ⟨Nat.le_of_ble_eq_true rfl, Nat.le_of_ble_eq_true rfl⟩) rfl rfl rfl (Nat.le_of_ble_eq_true rfl) dX7_readAll_91 rfl (fun D91 P91 hp91 => ?_) 
              obtain ⟨hR91, rfl⟩ := hp91
              refine pv_aload_n (q := 95) C dX7_readAll_94 rfl rfl rfl ?_ 
              refine pg_7_11 (q := 98) C k6 tw_1006 dX7_readAll_95 rfl ?_ 
              rw [show D91 6 11 = 0 by rw [hR91]; exact pd_g _ _ _]
              refine pv_if_eq (q := 101) (tgt := 108) C dX7_readAll_98 (by decide) rfl (fun _ => ?_) (fun h => absurd h (by decide)) 
              refine pv_iconst (q := 109) (v := 0) C dX7_readAll_108 rfl (by decide) ?_ 
              refine pv_istore_n (q := 110) C dX7_readAll_109 rfl rfl (Nat.le_of_ble_eq_true rfl) rfl ?_ 
              refine pv_aload_n (q := 111) C dX7_readAll_110 rfl rfl rfl ?_ 
              refine pv_dup (q := 112) C dX7_readAll_111 rfl rfl ?_ 
              refine pg_7_14 (q := 115) C k6 tw_1009 dX7_readAll_112 rfl ?_ 
              refine pv_aload_n (q := 116) C dX7_readAll_115 rfl rfl rfl ?_ 
              refine pg_7_11 (q := 119) C k6 tw_1006 dX7_readAll_116 rfl ?_ 
              rw [show D91 6 11 = 0 by rw [hR91]; exact pd_g _ _ _]
              refine pv_if_eq (q := 122) (tgt := 133) C dX7_readAll_119 (by decide) rfl (fun _ => ?_) (fun h => absurd h (by decide)) 
              refine pv_iconst (q := 134) (v := 0) C dX7_readAll_133 rfl (by decide) ?_ 
              refine pv_iadd (q := 135) C dX7_readAll_134 rfl ?_ 
              refine pp_7_14 (q := 138) C k6 tw_1009 dX7_readAll_135 rfl (fun D135 hD135 => ?_) 
              refine pv_goto (tgt := 58) C dX7_readAll_138 (by decide) ?_ 
              have e135 : D135 = dnU (pd D1 b 0) := by rw [hD135, hR91]; unfold dnU; rw [pd_g, if_neg (fun z => absurd z.1 (by decide))]
              obtain ⟨k2, rfl⟩ : ∃ k2, k = k2 + 1 := ⟨k - 1, by have := hk.resolve_left c_62; omega⟩
              have hs := lpA_s (k := k2) hgd ht.2.2.1 (by omega) hn60
              rw [if_neg (fun z => c_83 (by unfold hr; rw [if_pos (by omega)]; exact z))] at hs
              have g0 : D135 6 11 = 0 := by rw [e135, dnU_k _ (by decide), pd_g]
              exact PV_le (ih b k2 D135 (by omega) (Or.inl g0) (by omega) (by rw [e135]; exact txt_dn (txt_pd ht (by omega) 0)) (by rw [e135, dnU_o _ (by decide), pd_o _ _ _ (by decide), hx]) (by rw [e135, dnU_k _ (by decide), pd_k _ _ _ (by decide) (by decide), h12]) (Or.inl g0) (by rw [e135]; exact RH_dn (RH_pd (fun z1 z2 => RW_le (hrh z1 z2) (by omega)))) (by rw [lpA_stop (by rw [g0]; exact fun z => absurd z.1 (by decide)), e135, ← hs]; exact hfin)) ⟨Or.inr rfl, Or.inr rfl, Or.inl rfl, trivial⟩
            · refine pv_iconst (q := 87) (v := 1) C dX7_readAll_86 rfl (by decide) ?_
              refine pv_goto (tgt := 91) C dX7_readAll_87 (by decide) ?_ 
              refine pv_callVv (q := 94) C hKl (c_X7_take1 l X D1 P b ht.2.2.1 hgd) tw_1219 k6 (by decide) rfl mm_X7_take ⟨rfl, rfl⟩ (by rw [hKR]; exact ⟨Nat.le_of_ble_eq_true rfl, Nat.le_of_ble_eq_true rfl⟩) (by rw [hKR]; exact ⟨Nat.le_of_ble_eq_true rfl, Nat.le_of_ble_eq_true rfl⟩) rfl rfl rfl (Nat.le_of_ble_eq_true rfl) dX7_readAll_91 rfl (fun D91 P91 hp91 => ?_) 
              obtain ⟨hR91, rfl⟩ := hp91
              have w91 : txt D91 n (b + 1) := by rw [hR91]; exact txt_pd ht (by omega) 1
              refine pv_aload_n (q := 95) C dX7_readAll_94 rfl rfl rfl ?_ 
              refine pg_7_11 (q := 98) C k6 tw_1006 dX7_readAll_95 rfl ?_ 
              rw [show D91 6 11 = 1 by rw [hR91]; exact pd_g _ _ _]
              refine pv_if_eq (q := 101) (tgt := 108) C dX7_readAll_98 (by decide) rfl (fun h => absurd h (by decide)) (fun _ => ?_) 
              refine pv_aload_n (q := 102) C dX7_readAll_101 rfl rfl rfl ?_ 
              refine pv_callVi (q := 105) C hKl (c_X7_readPart l X D91 P n (b + 1) w91 (by rw [hR91, pd_k _ _ _ (by decide) (by decide), h12]; exact hd) (by rw [hR91]; exact pd_g _ _ _) (by rw [hR91]; exact RH_pd (fun z1 z2 => RW_le (hrh z1 z2) (by omega)))) tw_1211 k6 (by decide) rfl mm_X7_readPart ⟨rfl, rfl⟩ (by rw [hKR]; exact ⟨Nat.le_of_ble_eq_true rfl, Nat.le_of_ble_eq_true rfl⟩) (by rw [hKR]; exact ⟨Nat.le_of_ble_eq_true rfl, Nat.le_of_ble_eq_true rfl⟩) rfl rfl rfl (Nat.le_of_ble_eq_true rfl) dX7_readAll_102 rfl (fun r102 D102 P102 hp102 => ?_) 
              obtain ⟨hR102, rfl⟩ := hp102
              have e102 : D102 = pres (pd D1 (b + 1) 1) (pPart (D 12) n (b + 1)) := by rw [hR102, hR91, pd_o _ _ _ (by decide), hx]
              have ok := pPart_ok (f := D 12) (n := n) (a := b + 1) (by omega)
              have g102 : D102 6 11 = 0 ∨ D102 6 11 = 1 := by rw [e102, pres_g]; exact okI_01 _
              refine pv_goto (tgt := 109) C dX7_readAll_105 (by decide) ?_ 
              refine pv_istore_n (q := 110) C dX7_readAll_109 rfl rfl (Nat.le_of_ble_eq_true rfl) rfl ?_ 
              refine pv_aload_n (q := 111) C dX7_readAll_110 rfl rfl rfl ?_ 
              refine pv_dup (q := 112) C dX7_readAll_111 rfl rfl ?_ 
              refine pg_7_14 (q := 115) C k6 tw_1009 dX7_readAll_112 rfl ?_ 
              refine pv_aload_n (q := 116) C dX7_readAll_115 rfl rfl rfl ?_ 
              refine pg_7_11 (q := 119) C k6 tw_1006 dX7_readAll_116 rfl ?_ 
              refine pv_if_eq (q := 122) (tgt := 133) C dX7_readAll_119 (by decide) rfl (fun c_119 => ?_) (fun c_119 => ?_) 
              · refine pv_iconst (q := 134) (v := 0) C dX7_readAll_133 rfl (by decide) ?_
                refine pv_iadd (q := 135) C dX7_readAll_134 rfl ?_ 
                refine pp_7_14 (q := 138) C k6 tw_1009 dX7_readAll_135 rfl (fun D135 hD135 => ?_) 
                refine pv_goto (tgt := 58) C dX7_readAll_138 (by decide) ?_ 
                have e135 : D135 = dnU D102 := by rw [hD135]; unfold dnU; rw [if_neg (fun z => absurd z.1 (by rw [c_119]; decide))]
                obtain ⟨k2, rfl⟩ : ∃ k2, k = k2 + 1 := ⟨k - 1, by have := hk.resolve_left c_62; omega⟩
                have hs := lpA_s (k := k2) hgd ht.2.2.1 (by omega) hn60
                rw [if_pos (by unfold hr at c_83; rw [if_pos (by omega)] at c_83; exact c_83), hx] at hs
                exact PV_le (ih (pPart (D 12) n (b + 1)).2 k2 D135 (by omega) (Or.inr (by have := hk.resolve_left c_62; have := ok.2.1; omega)) ok.1 (by rw [e135, e102]; exact txt_dn ⟨by rw [pres_k _ _ (by decide) (by decide) (by decide), pd_k _ _ _ (by decide) (by decide)]; exact ht.1, hn60, pres_a _ _, ok.1⟩) (by rw [e135, dnU_o _ (by decide), e102, pres_o _ _ (by decide) (by decide), pd_o _ _ _ (by decide), hx]) (by rw [e135, dnU_k _ (by decide), e102, pres_k _ _ (by decide) (by decide) (by decide), pd_k _ _ _ (by decide) (by decide), h12]) (by rw [e135, dnU_k _ (by decide), e102, pres_g]; exact okI_01 _) (by rw [e135, e102]; exact RH_dn (RH_pres (m := 2 * k2 + 2) (RH_pd hrh) (fun p hp => (ok.2.2 p hp).2))) (by rw [e135, e102, ← hs]; exact hfin)) ⟨Or.inr rfl, Or.inr rfl, Or.inl rfl, trivial⟩
              · refine pv_aload_n (q := 123) C dX7_readAll_122 rfl rfl rfl ?_
                refine pg_7_13 (q := 126) C k6 tw_1008 dX7_readAll_123 rfl ?_ 
                refine pv_if_ne (q := 129) (tgt := 133) C dX7_readAll_126 (by decide) rfl (fun c_126 => ?_) (fun c_126 => ?_) 
                · refine pv_iconst (q := 134) (v := 0) C dX7_readAll_133 rfl (by decide) ?_
                  refine pv_iadd (q := 135) C dX7_readAll_134 rfl ?_ 
                  refine pp_7_14 (q := 138) C k6 tw_1009 dX7_readAll_135 rfl (fun D135 hD135 => ?_) 
                  refine pv_goto (tgt := 58) C dX7_readAll_138 (by decide) ?_ 
                  have e135 : D135 = dnU D102 := by rw [hD135]; unfold dnU; rw [if_neg (fun z => c_126 z.2)]
                  obtain ⟨k2, rfl⟩ : ∃ k2, k = k2 + 1 := ⟨k - 1, by have := hk.resolve_left c_62; omega⟩
                  have hs := lpA_s (k := k2) hgd ht.2.2.1 (by omega) hn60
                  rw [if_pos (by unfold hr at c_83; rw [if_pos (by omega)] at c_83; exact c_83), hx] at hs
                  exact PV_le (ih (pPart (D 12) n (b + 1)).2 k2 D135 (by omega) (Or.inr (by have := hk.resolve_left c_62; have := ok.2.1; omega)) ok.1 (by rw [e135, e102]; exact txt_dn ⟨by rw [pres_k _ _ (by decide) (by decide) (by decide), pd_k _ _ _ (by decide) (by decide)]; exact ht.1, hn60, pres_a _ _, ok.1⟩) (by rw [e135, dnU_o _ (by decide), e102, pres_o _ _ (by decide) (by decide), pd_o _ _ _ (by decide), hx]) (by rw [e135, dnU_k _ (by decide), e102, pres_k _ _ (by decide) (by decide) (by decide), pd_k _ _ _ (by decide) (by decide), h12]) (by rw [e135, dnU_k _ (by decide), e102, pres_g]; exact okI_01 _) (by rw [e135, e102]; exact RH_dn (RH_pres (m := 2 * k2 + 2) (RH_pd hrh) (fun p hp => (ok.2.2 p hp).2))) (by rw [e135, e102, ← hs]; exact hfin)) ⟨Or.inr rfl, Or.inr rfl, Or.inl rfl, trivial⟩
                · refine pv_iconst (q := 130) (v := 1) C dX7_readAll_129 rfl (by decide) ?_
                  refine pv_goto (tgt := 134) C dX7_readAll_130 (by decide) ?_ 
                  refine pv_iadd (q := 135) C dX7_readAll_134 rfl ?_ 
                  refine pp_7_14 (q := 138) C k6 tw_1009 dX7_readAll_135 rfl (fun D135 hD135 => ?_) 
                  refine pv_goto (tgt := 58) C dX7_readAll_138 (by decide) ?_ 
                  have e135 : D135 = dnU D102 := by rw [hD135]; unfold dnU; rw [if_pos ⟨g102.resolve_left c_119, c_126⟩]
                  obtain ⟨k2, rfl⟩ : ∃ k2, k = k2 + 1 := ⟨k - 1, by have := hk.resolve_left c_62; omega⟩
                  have hs := lpA_s (k := k2) hgd ht.2.2.1 (by omega) hn60
                  rw [if_pos (by unfold hr at c_83; rw [if_pos (by omega)] at c_83; exact c_83), hx] at hs
                  exact PV_le (ih (pPart (D 12) n (b + 1)).2 k2 D135 (by omega) (Or.inr (by have := hk.resolve_left c_62; have := ok.2.1; omega)) ok.1 (by rw [e135, e102]; exact txt_dn ⟨by rw [pres_k _ _ (by decide) (by decide) (by decide), pd_k _ _ _ (by decide) (by decide)]; exact ht.1, hn60, pres_a _ _, ok.1⟩) (by rw [e135, dnU_o _ (by decide), e102, pres_o _ _ (by decide) (by decide), pd_o _ _ _ (by decide), hx]) (by rw [e135, dnU_k _ (by decide), e102, pres_k _ _ (by decide) (by decide) (by decide), pd_k _ _ _ (by decide) (by decide), h12]) (by rw [e135, dnU_k _ (by decide), e102, pres_g]; exact okI_01 _) (by rw [e135, e102]; exact RH_dn (RH_pres (m := 2 * k2 + 2) (RH_pd hrh) (fun p hp => (ok.2.2 p hp).2))) (by rw [e135, e102, ← hs]; exact hfin)) ⟨Or.inr rfl, Or.inr rfl, Or.inl rfl, trivial⟩
    have e58 : D55 = dnU D26 := by rw [hD55]; unfold dnU; rw [if_neg (fun z => absurd z.1 (by rw [c_39]; decide))]
    exact PV_le (loop_58 62 (pPart (D 12) n 0).2 61 D55 (by omega) (Or.inr (by omega)) ok26.1 (by rw [e58]; exact txt_dn ⟨by rw [e26, pres_k _ _ (by decide) (by decide) (by decide), i9]; exact hn, hn60, by rw [e26, pres_a], ok26.1⟩) (by rw [e58, dnU_o _ (by decide), e26, pres_o _ _ (by decide) (by decide), i12]) (by rw [e58, dnU_k _ (by decide), e26, pres_k _ _ (by decide) (by decide) (by decide), id12]) (by rw [e58, dnU_k _ (by decide)]; exact g26) (by rw [e58, e26]; exact RH_dn (RH_pres (m := 124) ri (fun p hp => (ok26.2.2 p hp).2))) (by rw [e58, e26]; rfl)) ⟨Or.inr rfl, Or.inr rfl, Or.inl rfl, trivial⟩
  · refine pv_aload_n (q := 43) C dX7_readAll_42 rfl rfl rfl ?_
    refine pg_7_13 (q := 46) C k6 tw_1008 dX7_readAll_43 rfl ?_ 
    refine pv_if_ne (q := 49) (tgt := 53) C dX7_readAll_46 (by decide) rfl (fun c_46 => ?_) (fun c_46 => ?_) 
    · refine pv_iconst (q := 54) (v := 0) C dX7_readAll_53 rfl (by decide) ?_
      refine pv_iadd (q := 55) C dX7_readAll_54 rfl ?_ 
      refine pp_7_14 (q := 58) C k6 tw_1009 dX7_readAll_55 rfl (fun D55 hD55 => ?_) 
      have loop_58 : ∀ (nn : Nat) (b k : Nat) (D1 : DT), (k + 1 ≤ nn) → (D1 6 11 = 0 ∨ n < b + k) → b ≤ n → txt D1 n b → D1 12 = D 12 → D1 6 12 = d → (D1 6 11 = 0 ∨ D1 6 11 = 1) → RH D1 (2 * k + 2) → lpA n k D1 = rdA D n d → PV K X (MK K X (qV X (fun D' P' => D' = rdA D n d ∧ P = P')) 0 0) (0) (0) 58 [some (.ref (X.2.2 6)), some (.int d), none] [] D1 P := by
        intro nn
        induction nn with
        | zero =>
          intro b k D1 hfuel hk hb ht hx h12 hgg hrh hfin
          exact absurd hfuel (by omega)
        | succ nn ih =>
          intro b k D1 hfuel hk hb ht hx h12 hgg hrh hfin
          refine pv_aload_n (q := 59) C dX7_readAll_58 rfl rfl rfl ?_ 
          refine pg_7_11 (q := 62) C k6 tw_1006 dX7_readAll_59 rfl ?_ 
          refine pv_if_eq (q := 65) (tgt := 141) C dX7_readAll_62 (by decide) rfl (fun c_62 => ?_) (fun c_62 => ?_) 
          · exact pv_vret C (⟨by rw [← hfin, lpA_stop (fun z => absurd z.1 (by rw [c_62]; decide))], rfl⟩) (by decide) (by decide) dX7_readAll_141
          · refine pv_aload_n (q := 66) C dX7_readAll_65 rfl rfl rfl ?_
            refine pg_7_10 (q := 69) C k6 tw_1005 dX7_readAll_66 rfl ?_ 
            rw [show D1 6 10 = nI b from ht.2.2.1]
            refine pv_aload_n (q := 70) C dX7_readAll_69 rfl rfl rfl ?_ 
            refine pg_7_9 (q := 73) C k6 tw_1004 dX7_readAll_70 rfl ?_ 
            rw [show D1 6 9 = nI n from ht.1]
            refine pv_icmp_geN (q := 76) (tgt := 141) (a := b) (b := n) C rfl rfl (by omega) (by omega) dX7_readAll_73 (by decide) rfl (fun c_73 => ?_) (fun c_73 => ?_) 
            · exact pv_vret C (⟨by rw [← hfin, lpA_stop (fun z => absurd z.2 (by rw [ht.2.2.1, ix_n (by omega)]; omega))], rfl⟩) (by decide) (by decide) dX7_readAll_141
            · have hgd : D1 6 11 = 1 := hgg.resolve_left c_62
              refine pv_aload_n (q := 77) C dX7_readAll_76 rfl rfl rfl ?_ 
              refine pv_aload_n (q := 78) C dX7_readAll_77 rfl rfl rfl ?_ 
              refine pv_callVi (q := 81) C hKl (c_X7_here l X D1 P n b (ht)) tw_1215 k6 (by decide) rfl mm_X7_here ⟨rfl, rfl⟩ (by rw [hKR]; exact ⟨Nat.le_of_ble_eq_true rfl, Nat.le_of_ble_eq_true rfl⟩) (by rw [hKR]; exact ⟨Nat.le_of_ble_eq_true rfl, Nat.le_of_ble_eq_true rfl⟩) rfl rfl rfl (Nat.le_of_ble_eq_true rfl) dX7_readAll_78 rfl (fun r78 D78 P78 hp78 => ?_) 
              obtain ⟨rfl, rfl, rfl⟩ := hp78
              refine pv_bipush (q := 83) (v := 59) C dX7_readAll_81 rfl (by decide) ?_ 
              refine pv_icmp_ne (q := 86) (tgt := 90) C dX7_readAll_83 (by decide) rfl (fun c_83 => ?_) (fun c_83 => ?_) 
              · refine pv_iconst (q := 91) (v := 0) C dX7_readAll_90 rfl (by decide) ?_
                refine pv_callVv (q := 94) C hKl (c_X7_take0 l X D1 P b ht.2.2.1) tw_1219 k6 (by decide) rfl mm_X7_take ⟨rfl, rfl⟩ (by rw [hKR]; exact ⟨Nat.le_of_ble_eq_true rfl, Nat.le_of_ble_eq_true rfl⟩) (by rw [hKR]; exact ⟨Nat.le_of_ble_eq_true rfl, Nat.le_of_ble_eq_true rfl⟩) rfl rfl rfl (Nat.le_of_ble_eq_true rfl) dX7_readAll_91 rfl (fun D91 P91 hp91 => ?_) 
                obtain ⟨hR91, rfl⟩ := hp91
                refine pv_aload_n (q := 95) C dX7_readAll_94 rfl rfl rfl ?_ 
                refine pg_7_11 (q := 98) C k6 tw_1006 dX7_readAll_95 rfl ?_ 
                rw [show D91 6 11 = 0 by rw [hR91]; exact pd_g _ _ _]
                refine pv_if_eq (q := 101) (tgt := 108) C dX7_readAll_98 (by decide) rfl (fun _ => ?_) (fun h => absurd h (by decide)) 
                refine pv_iconst (q := 109) (v := 0) C dX7_readAll_108 rfl (by decide) ?_ 
                refine pv_istore_n (q := 110) C dX7_readAll_109 rfl rfl (Nat.le_of_ble_eq_true rfl) rfl ?_ 
                refine pv_aload_n (q := 111) C dX7_readAll_110 rfl rfl rfl ?_ 
                refine pv_dup (q := 112) C dX7_readAll_111 rfl rfl ?_ 
                refine pg_7_14 (q := 115) C k6 tw_1009 dX7_readAll_112 rfl ?_ 
                refine pv_aload_n (q := 116) C dX7_readAll_115 rfl rfl rfl ?_ 
                refine pg_7_11 (q := 119) C k6 tw_1006 dX7_readAll_116 rfl ?_ 
                rw [show D91 6 11 = 0 by rw [hR91]; exact pd_g _ _ _]
                refine pv_if_eq (q := 122) (tgt := 133) C dX7_readAll_119 (by decide) rfl (fun _ => ?_) (fun h => absurd h (by decide)) 
                refine pv_iconst (q := 134) (v := 0) C dX7_readAll_133 rfl (by decide) ?_ 
                refine pv_iadd (q := 135) C dX7_readAll_134 rfl ?_ 
                refine pp_7_14 (q := 138) C k6 tw_1009 dX7_readAll_135 rfl (fun D135 hD135 => ?_) 
                refine pv_goto (tgt := 58) C dX7_readAll_138 (by decide) ?_ 
                have e135 : D135 = dnU (pd D1 b 0) := by rw [hD135, hR91]; unfold dnU; rw [pd_g, if_neg (fun z => absurd z.1 (by decide))]
                obtain ⟨k2, rfl⟩ : ∃ k2, k = k2 + 1 := ⟨k - 1, by have := hk.resolve_left c_62; omega⟩
                have hs := lpA_s (k := k2) hgd ht.2.2.1 (by omega) hn60
                rw [if_neg (fun z => c_83 (by unfold hr; rw [if_pos (by omega)]; exact z))] at hs
                have g0 : D135 6 11 = 0 := by rw [e135, dnU_k _ (by decide), pd_g]
                exact PV_le (ih b k2 D135 (by omega) (Or.inl g0) (by omega) (by rw [e135]; exact txt_dn (txt_pd ht (by omega) 0)) (by rw [e135, dnU_o _ (by decide), pd_o _ _ _ (by decide), hx]) (by rw [e135, dnU_k _ (by decide), pd_k _ _ _ (by decide) (by decide), h12]) (Or.inl g0) (by rw [e135]; exact RH_dn (RH_pd (fun z1 z2 => RW_le (hrh z1 z2) (by omega)))) (by rw [lpA_stop (by rw [g0]; exact fun z => absurd z.1 (by decide)), e135, ← hs]; exact hfin)) ⟨Or.inr rfl, Or.inr rfl, Or.inl rfl, trivial⟩
              · refine pv_iconst (q := 87) (v := 1) C dX7_readAll_86 rfl (by decide) ?_
                refine pv_goto (tgt := 91) C dX7_readAll_87 (by decide) ?_ 
                refine pv_callVv (q := 94) C hKl (c_X7_take1 l X D1 P b ht.2.2.1 hgd) tw_1219 k6 (by decide) rfl mm_X7_take ⟨rfl, rfl⟩ (by rw [hKR]; exact ⟨Nat.le_of_ble_eq_true rfl, Nat.le_of_ble_eq_true rfl⟩) (by rw [hKR]; exact ⟨Nat.le_of_ble_eq_true rfl, Nat.le_of_ble_eq_true rfl⟩) rfl rfl rfl (Nat.le_of_ble_eq_true rfl) dX7_readAll_91 rfl (fun D91 P91 hp91 => ?_) 
                obtain ⟨hR91, rfl⟩ := hp91
                have w91 : txt D91 n (b + 1) := by rw [hR91]; exact txt_pd ht (by omega) 1
                refine pv_aload_n (q := 95) C dX7_readAll_94 rfl rfl rfl ?_ 
                refine pg_7_11 (q := 98) C k6 tw_1006 dX7_readAll_95 rfl ?_ 
                rw [show D91 6 11 = 1 by rw [hR91]; exact pd_g _ _ _]
                refine pv_if_eq (q := 101) (tgt := 108) C dX7_readAll_98 (by decide) rfl (fun h => absurd h (by decide)) (fun _ => ?_) 
                refine pv_aload_n (q := 102) C dX7_readAll_101 rfl rfl rfl ?_ 
                refine pv_callVi (q := 105) C hKl (c_X7_readPart l X D91 P n (b + 1) w91 (by rw [hR91, pd_k _ _ _ (by decide) (by decide), h12]; exact hd) (by rw [hR91]; exact pd_g _ _ _) (by rw [hR91]; exact RH_pd (fun z1 z2 => RW_le (hrh z1 z2) (by omega)))) tw_1211 k6 (by decide) rfl mm_X7_readPart ⟨rfl, rfl⟩ (by rw [hKR]; exact ⟨Nat.le_of_ble_eq_true rfl, Nat.le_of_ble_eq_true rfl⟩) (by rw [hKR]; exact ⟨Nat.le_of_ble_eq_true rfl, Nat.le_of_ble_eq_true rfl⟩) rfl rfl rfl (Nat.le_of_ble_eq_true rfl) dX7_readAll_102 rfl (fun r102 D102 P102 hp102 => ?_) 
                obtain ⟨hR102, rfl⟩ := hp102
                have e102 : D102 = pres (pd D1 (b + 1) 1) (pPart (D 12) n (b + 1)) := by rw [hR102, hR91, pd_o _ _ _ (by decide), hx]
                have ok := pPart_ok (f := D 12) (n := n) (a := b + 1) (by omega)
                have g102 : D102 6 11 = 0 ∨ D102 6 11 = 1 := by rw [e102, pres_g]; exact okI_01 _
                refine pv_goto (tgt := 109) C dX7_readAll_105 (by decide) ?_ 
                refine pv_istore_n (q := 110) C dX7_readAll_109 rfl rfl (Nat.le_of_ble_eq_true rfl) rfl ?_ 
                refine pv_aload_n (q := 111) C dX7_readAll_110 rfl rfl rfl ?_ 
                refine pv_dup (q := 112) C dX7_readAll_111 rfl rfl ?_ 
                refine pg_7_14 (q := 115) C k6 tw_1009 dX7_readAll_112 rfl ?_ 
                refine pv_aload_n (q := 116) C dX7_readAll_115 rfl rfl rfl ?_ 
                refine pg_7_11 (q := 119) C k6 tw_1006 dX7_readAll_116 rfl ?_ 
                refine pv_if_eq (q := 122) (tgt := 133) C dX7_readAll_119 (by decide) rfl (fun c_119 => ?_) (fun c_119 => ?_) 
                · refine pv_iconst (q := 134) (v := 0) C dX7_readAll_133 rfl (by decide) ?_
                  refine pv_iadd (q := 135) C dX7_readAll_134 rfl ?_ 
                  refine pp_7_14 (q := 138) C k6 tw_1009 dX7_readAll_135 rfl (fun D135 hD135 => ?_) 
                  refine pv_goto (tgt := 58) C dX7_readAll_138 (by decide) ?_ 
                  have e135 : D135 = dnU D102 := by rw [hD135]; unfold dnU; rw [if_neg (fun z => absurd z.1 (by rw [c_119]; decide))]
                  obtain ⟨k2, rfl⟩ : ∃ k2, k = k2 + 1 := ⟨k - 1, by have := hk.resolve_left c_62; omega⟩
                  have hs := lpA_s (k := k2) hgd ht.2.2.1 (by omega) hn60
                  rw [if_pos (by unfold hr at c_83; rw [if_pos (by omega)] at c_83; exact c_83), hx] at hs
                  exact PV_le (ih (pPart (D 12) n (b + 1)).2 k2 D135 (by omega) (Or.inr (by have := hk.resolve_left c_62; have := ok.2.1; omega)) ok.1 (by rw [e135, e102]; exact txt_dn ⟨by rw [pres_k _ _ (by decide) (by decide) (by decide), pd_k _ _ _ (by decide) (by decide)]; exact ht.1, hn60, pres_a _ _, ok.1⟩) (by rw [e135, dnU_o _ (by decide), e102, pres_o _ _ (by decide) (by decide), pd_o _ _ _ (by decide), hx]) (by rw [e135, dnU_k _ (by decide), e102, pres_k _ _ (by decide) (by decide) (by decide), pd_k _ _ _ (by decide) (by decide), h12]) (by rw [e135, dnU_k _ (by decide), e102, pres_g]; exact okI_01 _) (by rw [e135, e102]; exact RH_dn (RH_pres (m := 2 * k2 + 2) (RH_pd hrh) (fun p hp => (ok.2.2 p hp).2))) (by rw [e135, e102, ← hs]; exact hfin)) ⟨Or.inr rfl, Or.inr rfl, Or.inl rfl, trivial⟩
                · refine pv_aload_n (q := 123) C dX7_readAll_122 rfl rfl rfl ?_
                  refine pg_7_13 (q := 126) C k6 tw_1008 dX7_readAll_123 rfl ?_ 
                  refine pv_if_ne (q := 129) (tgt := 133) C dX7_readAll_126 (by decide) rfl (fun c_126 => ?_) (fun c_126 => ?_) 
                  · refine pv_iconst (q := 134) (v := 0) C dX7_readAll_133 rfl (by decide) ?_
                    refine pv_iadd (q := 135) C dX7_readAll_134 rfl ?_ 
                    refine pp_7_14 (q := 138) C k6 tw_1009 dX7_readAll_135 rfl (fun D135 hD135 => ?_) 
                    refine pv_goto (tgt := 58) C dX7_readAll_138 (by decide) ?_ 
                    have e135 : D135 = dnU D102 := by rw [hD135]; unfold dnU; rw [if_neg (fun z => c_126 z.2)]
                    obtain ⟨k2, rfl⟩ : ∃ k2, k = k2 + 1 := ⟨k - 1, by have := hk.resolve_left c_62; omega⟩
                    have hs := lpA_s (k := k2) hgd ht.2.2.1 (by omega) hn60
                    rw [if_pos (by unfold hr at c_83; rw [if_pos (by omega)] at c_83; exact c_83), hx] at hs
                    exact PV_le (ih (pPart (D 12) n (b + 1)).2 k2 D135 (by omega) (Or.inr (by have := hk.resolve_left c_62; have := ok.2.1; omega)) ok.1 (by rw [e135, e102]; exact txt_dn ⟨by rw [pres_k _ _ (by decide) (by decide) (by decide), pd_k _ _ _ (by decide) (by decide)]; exact ht.1, hn60, pres_a _ _, ok.1⟩) (by rw [e135, dnU_o _ (by decide), e102, pres_o _ _ (by decide) (by decide), pd_o _ _ _ (by decide), hx]) (by rw [e135, dnU_k _ (by decide), e102, pres_k _ _ (by decide) (by decide) (by decide), pd_k _ _ _ (by decide) (by decide), h12]) (by rw [e135, dnU_k _ (by decide), e102, pres_g]; exact okI_01 _) (by rw [e135, e102]; exact RH_dn (RH_pres (m := 2 * k2 + 2) (RH_pd hrh) (fun p hp => (ok.2.2 p hp).2))) (by rw [e135, e102, ← hs]; exact hfin)) ⟨Or.inr rfl, Or.inr rfl, Or.inl rfl, trivial⟩
                  · refine pv_iconst (q := 130) (v := 1) C dX7_readAll_129 rfl (by decide) ?_
                    refine pv_goto (tgt := 134) C dX7_readAll_130 (by decide) ?_ 
                    refine pv_iadd (q := 135) C dX7_readAll_134 rfl ?_ 
                    refine pp_7_14 (q := 138) C k6 tw_1009 dX7_readAll_135 rfl (fun D135 hD135 => ?_) 
                    refine pv_goto (tgt := 58) C dX7_readAll_138 (by decide) ?_ 
                    have e135 : D135 = dnU D102 := by rw [hD135]; unfold dnU; rw [if_pos ⟨g102.resolve_left c_119, c_126⟩]
                    obtain ⟨k2, rfl⟩ : ∃ k2, k = k2 + 1 := ⟨k - 1, by have := hk.resolve_left c_62; omega⟩
                    have hs := lpA_s (k := k2) hgd ht.2.2.1 (by omega) hn60
                    rw [if_pos (by unfold hr at c_83; rw [if_pos (by omega)] at c_83; exact c_83), hx] at hs
                    exact PV_le (ih (pPart (D 12) n (b + 1)).2 k2 D135 (by omega) (Or.inr (by have := hk.resolve_left c_62; have := ok.2.1; omega)) ok.1 (by rw [e135, e102]; exact txt_dn ⟨by rw [pres_k _ _ (by decide) (by decide) (by decide), pd_k _ _ _ (by decide) (by decide)]; exact ht.1, hn60, pres_a _ _, ok.1⟩) (by rw [e135, dnU_o _ (by decide), e102, pres_o _ _ (by decide) (by decide), pd_o _ _ _ (by decide), hx]) (by rw [e135, dnU_k _ (by decide), e102, pres_k _ _ (by decide) (by decide) (by decide), pd_k _ _ _ (by decide) (by decide), h12]) (by rw [e135, dnU_k _ (by decide), e102, pres_g]; exact okI_01 _) (by rw [e135, e102]; exact RH_dn (RH_pres (m := 2 * k2 + 2) (RH_pd hrh) (fun p hp => (ok.2.2 p hp).2))) (by rw [e135, e102, ← hs]; exact hfin)) ⟨Or.inr rfl, Or.inr rfl, Or.inl rfl, trivial⟩
      have e58 : D55 = dnU D26 := by rw [hD55]; unfold dnU; rw [if_neg (fun z => c_46 z.2)]
      exact PV_le (loop_58 62 (pPart (D 12) n 0).2 61 D55 (by omega) (Or.inr (by omega)) ok26.1 (by rw [e58]; exact txt_dn ⟨by rw [e26, pres_k _ _ (by decide) (by decide) (by decide), i9]; exact hn, hn60, by rw [e26, pres_a], ok26.1⟩) (by rw [e58, dnU_o _ (by decide), e26, pres_o _ _ (by decide) (by decide), i12]) (by rw [e58, dnU_k _ (by decide), e26, pres_k _ _ (by decide) (by decide) (by decide), id12]) (by rw [e58, dnU_k _ (by decide)]; exact g26) (by rw [e58, e26]; exact RH_dn (RH_pres (m := 124) ri (fun p hp => (ok26.2.2 p hp).2))) (by rw [e58, e26]; rfl)) ⟨Or.inr rfl, Or.inr rfl, Or.inl rfl, trivial⟩
    · refine pv_iconst (q := 50) (v := 1) C dX7_readAll_49 rfl (by decide) ?_
      refine pv_goto (tgt := 54) C dX7_readAll_50 (by decide) ?_ 
      refine pv_iadd (q := 55) C dX7_readAll_54 rfl ?_ 
      refine pp_7_14 (q := 58) C k6 tw_1009 dX7_readAll_55 rfl (fun D55 hD55 => ?_) 
      have loop_58 : ∀ (nn : Nat) (b k : Nat) (D1 : DT), (k + 1 ≤ nn) → (D1 6 11 = 0 ∨ n < b + k) → b ≤ n → txt D1 n b → D1 12 = D 12 → D1 6 12 = d → (D1 6 11 = 0 ∨ D1 6 11 = 1) → RH D1 (2 * k + 2) → lpA n k D1 = rdA D n d → PV K X (MK K X (qV X (fun D' P' => D' = rdA D n d ∧ P = P')) 0 0) (0) (0) 58 [some (.ref (X.2.2 6)), some (.int d), none] [] D1 P := by
        intro nn
        induction nn with
        | zero =>
          intro b k D1 hfuel hk hb ht hx h12 hgg hrh hfin
          exact absurd hfuel (by omega)
        | succ nn ih =>
          intro b k D1 hfuel hk hb ht hx h12 hgg hrh hfin
          refine pv_aload_n (q := 59) C dX7_readAll_58 rfl rfl rfl ?_ 
          refine pg_7_11 (q := 62) C k6 tw_1006 dX7_readAll_59 rfl ?_ 
          refine pv_if_eq (q := 65) (tgt := 141) C dX7_readAll_62 (by decide) rfl (fun c_62 => ?_) (fun c_62 => ?_) 
          · exact pv_vret C (⟨by rw [← hfin, lpA_stop (fun z => absurd z.1 (by rw [c_62]; decide))], rfl⟩) (by decide) (by decide) dX7_readAll_141
          · refine pv_aload_n (q := 66) C dX7_readAll_65 rfl rfl rfl ?_
            refine pg_7_10 (q := 69) C k6 tw_1005 dX7_readAll_66 rfl ?_ 
            rw [show D1 6 10 = nI b from ht.2.2.1]
            refine pv_aload_n (q := 70) C dX7_readAll_69 rfl rfl rfl ?_ 
            refine pg_7_9 (q := 73) C k6 tw_1004 dX7_readAll_70 rfl ?_ 
            rw [show D1 6 9 = nI n from ht.1]
            refine pv_icmp_geN (q := 76) (tgt := 141) (a := b) (b := n) C rfl rfl (by omega) (by omega) dX7_readAll_73 (by decide) rfl (fun c_73 => ?_) (fun c_73 => ?_) 
            · exact pv_vret C (⟨by rw [← hfin, lpA_stop (fun z => absurd z.2 (by rw [ht.2.2.1, ix_n (by omega)]; omega))], rfl⟩) (by decide) (by decide) dX7_readAll_141
            · have hgd : D1 6 11 = 1 := hgg.resolve_left c_62
              refine pv_aload_n (q := 77) C dX7_readAll_76 rfl rfl rfl ?_ 
              refine pv_aload_n (q := 78) C dX7_readAll_77 rfl rfl rfl ?_ 
              refine pv_callVi (q := 81) C hKl (c_X7_here l X D1 P n b (ht)) tw_1215 k6 (by decide) rfl mm_X7_here ⟨rfl, rfl⟩ (by rw [hKR]; exact ⟨Nat.le_of_ble_eq_true rfl, Nat.le_of_ble_eq_true rfl⟩) (by rw [hKR]; exact ⟨Nat.le_of_ble_eq_true rfl, Nat.le_of_ble_eq_true rfl⟩) rfl rfl rfl (Nat.le_of_ble_eq_true rfl) dX7_readAll_78 rfl (fun r78 D78 P78 hp78 => ?_) 
              obtain ⟨rfl, rfl, rfl⟩ := hp78
              refine pv_bipush (q := 83) (v := 59) C dX7_readAll_81 rfl (by decide) ?_ 
              refine pv_icmp_ne (q := 86) (tgt := 90) C dX7_readAll_83 (by decide) rfl (fun c_83 => ?_) (fun c_83 => ?_) 
              · refine pv_iconst (q := 91) (v := 0) C dX7_readAll_90 rfl (by decide) ?_
                refine pv_callVv (q := 94) C hKl (c_X7_take0 l X D1 P b ht.2.2.1) tw_1219 k6 (by decide) rfl mm_X7_take ⟨rfl, rfl⟩ (by rw [hKR]; exact ⟨Nat.le_of_ble_eq_true rfl, Nat.le_of_ble_eq_true rfl⟩) (by rw [hKR]; exact ⟨Nat.le_of_ble_eq_true rfl, Nat.le_of_ble_eq_true rfl⟩) rfl rfl rfl (Nat.le_of_ble_eq_true rfl) dX7_readAll_91 rfl (fun D91 P91 hp91 => ?_) 
                obtain ⟨hR91, rfl⟩ := hp91
                refine pv_aload_n (q := 95) C dX7_readAll_94 rfl rfl rfl ?_ 
                refine pg_7_11 (q := 98) C k6 tw_1006 dX7_readAll_95 rfl ?_ 
                rw [show D91 6 11 = 0 by rw [hR91]; exact pd_g _ _ _]
                refine pv_if_eq (q := 101) (tgt := 108) C dX7_readAll_98 (by decide) rfl (fun _ => ?_) (fun h => absurd h (by decide)) 
                refine pv_iconst (q := 109) (v := 0) C dX7_readAll_108 rfl (by decide) ?_ 
                refine pv_istore_n (q := 110) C dX7_readAll_109 rfl rfl (Nat.le_of_ble_eq_true rfl) rfl ?_ 
                refine pv_aload_n (q := 111) C dX7_readAll_110 rfl rfl rfl ?_ 
                refine pv_dup (q := 112) C dX7_readAll_111 rfl rfl ?_ 
                refine pg_7_14 (q := 115) C k6 tw_1009 dX7_readAll_112 rfl ?_ 
                refine pv_aload_n (q := 116) C dX7_readAll_115 rfl rfl rfl ?_ 
                refine pg_7_11 (q := 119) C k6 tw_1006 dX7_readAll_116 rfl ?_ 
                rw [show D91 6 11 = 0 by rw [hR91]; exact pd_g _ _ _]
                refine pv_if_eq (q := 122) (tgt := 133) C dX7_readAll_119 (by decide) rfl (fun _ => ?_) (fun h => absurd h (by decide)) 
                refine pv_iconst (q := 134) (v := 0) C dX7_readAll_133 rfl (by decide) ?_ 
                refine pv_iadd (q := 135) C dX7_readAll_134 rfl ?_ 
                refine pp_7_14 (q := 138) C k6 tw_1009 dX7_readAll_135 rfl (fun D135 hD135 => ?_) 
                refine pv_goto (tgt := 58) C dX7_readAll_138 (by decide) ?_ 
                have e135 : D135 = dnU (pd D1 b 0) := by rw [hD135, hR91]; unfold dnU; rw [pd_g, if_neg (fun z => absurd z.1 (by decide))]
                obtain ⟨k2, rfl⟩ : ∃ k2, k = k2 + 1 := ⟨k - 1, by have := hk.resolve_left c_62; omega⟩
                have hs := lpA_s (k := k2) hgd ht.2.2.1 (by omega) hn60
                rw [if_neg (fun z => c_83 (by unfold hr; rw [if_pos (by omega)]; exact z))] at hs
                have g0 : D135 6 11 = 0 := by rw [e135, dnU_k _ (by decide), pd_g]
                exact PV_le (ih b k2 D135 (by omega) (Or.inl g0) (by omega) (by rw [e135]; exact txt_dn (txt_pd ht (by omega) 0)) (by rw [e135, dnU_o _ (by decide), pd_o _ _ _ (by decide), hx]) (by rw [e135, dnU_k _ (by decide), pd_k _ _ _ (by decide) (by decide), h12]) (Or.inl g0) (by rw [e135]; exact RH_dn (RH_pd (fun z1 z2 => RW_le (hrh z1 z2) (by omega)))) (by rw [lpA_stop (by rw [g0]; exact fun z => absurd z.1 (by decide)), e135, ← hs]; exact hfin)) ⟨Or.inr rfl, Or.inr rfl, Or.inl rfl, trivial⟩
              · refine pv_iconst (q := 87) (v := 1) C dX7_readAll_86 rfl (by decide) ?_
                refine pv_goto (tgt := 91) C dX7_readAll_87 (by decide) ?_ 
                refine pv_callVv (q := 94) C hKl (c_X7_take1 l X D1 P b ht.2.2.1 hgd) tw_1219 k6 (by decide) rfl mm_X7_take ⟨rfl, rfl⟩ (by rw [hKR]; exact ⟨Nat.le_of_ble_eq_true rfl, Nat.le_of_ble_eq_true rfl⟩) (by rw [hKR]; exact ⟨Nat.le_of_ble_eq_true rfl, Nat.le_of_ble_eq_true rfl⟩) rfl rfl rfl (Nat.le_of_ble_eq_true rfl) dX7_readAll_91 rfl (fun D91 P91 hp91 => ?_) 
                obtain ⟨hR91, rfl⟩ := hp91
                have w91 : txt D91 n (b + 1) := by rw [hR91]; exact txt_pd ht (by omega) 1
                refine pv_aload_n (q := 95) C dX7_readAll_94 rfl rfl rfl ?_ 
                refine pg_7_11 (q := 98) C k6 tw_1006 dX7_readAll_95 rfl ?_ 
                rw [show D91 6 11 = 1 by rw [hR91]; exact pd_g _ _ _]
                refine pv_if_eq (q := 101) (tgt := 108) C dX7_readAll_98 (by decide) rfl (fun h => absurd h (by decide)) (fun _ => ?_) 
                refine pv_aload_n (q := 102) C dX7_readAll_101 rfl rfl rfl ?_ 
                refine pv_callVi (q := 105) C hKl (c_X7_readPart l X D91 P n (b + 1) w91 (by rw [hR91, pd_k _ _ _ (by decide) (by decide), h12]; exact hd) (by rw [hR91]; exact pd_g _ _ _) (by rw [hR91]; exact RH_pd (fun z1 z2 => RW_le (hrh z1 z2) (by omega)))) tw_1211 k6 (by decide) rfl mm_X7_readPart ⟨rfl, rfl⟩ (by rw [hKR]; exact ⟨Nat.le_of_ble_eq_true rfl, Nat.le_of_ble_eq_true rfl⟩) (by rw [hKR]; exact ⟨Nat.le_of_ble_eq_true rfl, Nat.le_of_ble_eq_true rfl⟩) rfl rfl rfl (Nat.le_of_ble_eq_true rfl) dX7_readAll_102 rfl (fun r102 D102 P102 hp102 => ?_) 
                obtain ⟨hR102, rfl⟩ := hp102
                have e102 : D102 = pres (pd D1 (b + 1) 1) (pPart (D 12) n (b + 1)) := by rw [hR102, hR91, pd_o _ _ _ (by decide), hx]
                have ok := pPart_ok (f := D 12) (n := n) (a := b + 1) (by omega)
                have g102 : D102 6 11 = 0 ∨ D102 6 11 = 1 := by rw [e102, pres_g]; exact okI_01 _
                refine pv_goto (tgt := 109) C dX7_readAll_105 (by decide) ?_ 
                refine pv_istore_n (q := 110) C dX7_readAll_109 rfl rfl (Nat.le_of_ble_eq_true rfl) rfl ?_ 
                refine pv_aload_n (q := 111) C dX7_readAll_110 rfl rfl rfl ?_ 
                refine pv_dup (q := 112) C dX7_readAll_111 rfl rfl ?_ 
                refine pg_7_14 (q := 115) C k6 tw_1009 dX7_readAll_112 rfl ?_ 
                refine pv_aload_n (q := 116) C dX7_readAll_115 rfl rfl rfl ?_ 
                refine pg_7_11 (q := 119) C k6 tw_1006 dX7_readAll_116 rfl ?_ 
                refine pv_if_eq (q := 122) (tgt := 133) C dX7_readAll_119 (by decide) rfl (fun c_119 => ?_) (fun c_119 => ?_) 
                · refine pv_iconst (q := 134) (v := 0) C dX7_readAll_133 rfl (by decide) ?_
                  refine pv_iadd (q := 135) C dX7_readAll_134 rfl ?_ 
                  refine pp_7_14 (q := 138) C k6 tw_1009 dX7_readAll_135 rfl (fun D135 hD135 => ?_) 
                  refine pv_goto (tgt := 58) C dX7_readAll_138 (by decide) ?_ 
                  have e135 : D135 = dnU D102 := by rw [hD135]; unfold dnU; rw [if_neg (fun z => absurd z.1 (by rw [c_119]; decide))]
                  obtain ⟨k2, rfl⟩ : ∃ k2, k = k2 + 1 := ⟨k - 1, by have := hk.resolve_left c_62; omega⟩
                  have hs := lpA_s (k := k2) hgd ht.2.2.1 (by omega) hn60
                  rw [if_pos (by unfold hr at c_83; rw [if_pos (by omega)] at c_83; exact c_83), hx] at hs
                  exact PV_le (ih (pPart (D 12) n (b + 1)).2 k2 D135 (by omega) (Or.inr (by have := hk.resolve_left c_62; have := ok.2.1; omega)) ok.1 (by rw [e135, e102]; exact txt_dn ⟨by rw [pres_k _ _ (by decide) (by decide) (by decide), pd_k _ _ _ (by decide) (by decide)]; exact ht.1, hn60, pres_a _ _, ok.1⟩) (by rw [e135, dnU_o _ (by decide), e102, pres_o _ _ (by decide) (by decide), pd_o _ _ _ (by decide), hx]) (by rw [e135, dnU_k _ (by decide), e102, pres_k _ _ (by decide) (by decide) (by decide), pd_k _ _ _ (by decide) (by decide), h12]) (by rw [e135, dnU_k _ (by decide), e102, pres_g]; exact okI_01 _) (by rw [e135, e102]; exact RH_dn (RH_pres (m := 2 * k2 + 2) (RH_pd hrh) (fun p hp => (ok.2.2 p hp).2))) (by rw [e135, e102, ← hs]; exact hfin)) ⟨Or.inr rfl, Or.inr rfl, Or.inl rfl, trivial⟩
                · refine pv_aload_n (q := 123) C dX7_readAll_122 rfl rfl rfl ?_
                  refine pg_7_13 (q := 126) C k6 tw_1008 dX7_readAll_123 rfl ?_ 
                  refine pv_if_ne (q := 129) (tgt := 133) C dX7_readAll_126 (by decide) rfl (fun c_126 => ?_) (fun c_126 => ?_) 
                  · refine pv_iconst (q := 134) (v := 0) C dX7_readAll_133 rfl (by decide) ?_
                    refine pv_iadd (q := 135) C dX7_readAll_134 rfl ?_ 
                    refine pp_7_14 (q := 138) C k6 tw_1009 dX7_readAll_135 rfl (fun D135 hD135 => ?_) 
                    refine pv_goto (tgt := 58) C dX7_readAll_138 (by decide) ?_ 
                    have e135 : D135 = dnU D102 := by rw [hD135]; unfold dnU; rw [if_neg (fun z => c_126 z.2)]
                    obtain ⟨k2, rfl⟩ : ∃ k2, k = k2 + 1 := ⟨k - 1, by have := hk.resolve_left c_62; omega⟩
                    have hs := lpA_s (k := k2) hgd ht.2.2.1 (by omega) hn60
                    rw [if_pos (by unfold hr at c_83; rw [if_pos (by omega)] at c_83; exact c_83), hx] at hs
                    exact PV_le (ih (pPart (D 12) n (b + 1)).2 k2 D135 (by omega) (Or.inr (by have := hk.resolve_left c_62; have := ok.2.1; omega)) ok.1 (by rw [e135, e102]; exact txt_dn ⟨by rw [pres_k _ _ (by decide) (by decide) (by decide), pd_k _ _ _ (by decide) (by decide)]; exact ht.1, hn60, pres_a _ _, ok.1⟩) (by rw [e135, dnU_o _ (by decide), e102, pres_o _ _ (by decide) (by decide), pd_o _ _ _ (by decide), hx]) (by rw [e135, dnU_k _ (by decide), e102, pres_k _ _ (by decide) (by decide) (by decide), pd_k _ _ _ (by decide) (by decide), h12]) (by rw [e135, dnU_k _ (by decide), e102, pres_g]; exact okI_01 _) (by rw [e135, e102]; exact RH_dn (RH_pres (m := 2 * k2 + 2) (RH_pd hrh) (fun p hp => (ok.2.2 p hp).2))) (by rw [e135, e102, ← hs]; exact hfin)) ⟨Or.inr rfl, Or.inr rfl, Or.inl rfl, trivial⟩
                  · refine pv_iconst (q := 130) (v := 1) C dX7_readAll_129 rfl (by decide) ?_
                    refine pv_goto (tgt := 134) C dX7_readAll_130 (by decide) ?_ 
                    refine pv_iadd (q := 135) C dX7_readAll_134 rfl ?_ 
                    refine pp_7_14 (q := 138) C k6 tw_1009 dX7_readAll_135 rfl (fun D135 hD135 => ?_) 
                    refine pv_goto (tgt := 58) C dX7_readAll_138 (by decide) ?_ 
                    have e135 : D135 = dnU D102 := by rw [hD135]; unfold dnU; rw [if_pos ⟨g102.resolve_left c_119, c_126⟩]
                    obtain ⟨k2, rfl⟩ : ∃ k2, k = k2 + 1 := ⟨k - 1, by have := hk.resolve_left c_62; omega⟩
                    have hs := lpA_s (k := k2) hgd ht.2.2.1 (by omega) hn60
                    rw [if_pos (by unfold hr at c_83; rw [if_pos (by omega)] at c_83; exact c_83), hx] at hs
                    exact PV_le (ih (pPart (D 12) n (b + 1)).2 k2 D135 (by omega) (Or.inr (by have := hk.resolve_left c_62; have := ok.2.1; omega)) ok.1 (by rw [e135, e102]; exact txt_dn ⟨by rw [pres_k _ _ (by decide) (by decide) (by decide), pd_k _ _ _ (by decide) (by decide)]; exact ht.1, hn60, pres_a _ _, ok.1⟩) (by rw [e135, dnU_o _ (by decide), e102, pres_o _ _ (by decide) (by decide), pd_o _ _ _ (by decide), hx]) (by rw [e135, dnU_k _ (by decide), e102, pres_k _ _ (by decide) (by decide) (by decide), pd_k _ _ _ (by decide) (by decide), h12]) (by rw [e135, dnU_k _ (by decide), e102, pres_g]; exact okI_01 _) (by rw [e135, e102]; exact RH_dn (RH_pres (m := 2 * k2 + 2) (RH_pd hrh) (fun p hp => (ok.2.2 p hp).2))) (by rw [e135, e102, ← hs]; exact hfin)) ⟨Or.inr rfl, Or.inr rfl, Or.inl rfl, trivial⟩
      have e58 : D55 = dnU D26 := by rw [hD55]; unfold dnU; rw [if_pos ⟨g26.resolve_left c_39, c_46⟩]
      exact PV_le (loop_58 62 (pPart (D 12) n 0).2 61 D55 (by omega) (Or.inr (by omega)) ok26.1 (by rw [e58]; exact txt_dn ⟨by rw [e26, pres_k _ _ (by decide) (by decide) (by decide), i9]; exact hn, hn60, by rw [e26, pres_a], ok26.1⟩) (by rw [e58, dnU_o _ (by decide), e26, pres_o _ _ (by decide) (by decide), i12]) (by rw [e58, dnU_k _ (by decide), e26, pres_k _ _ (by decide) (by decide) (by decide), id12]) (by rw [e58, dnU_k _ (by decide)]; exact g26) (by rw [e58, e26]; exact RH_dn (RH_pres (m := 124) ri (fun p hp => (ok26.2.2 p hp).2))) (by rw [e58, e26]; rfl)) ⟨Or.inr rfl, Or.inr rfl, Or.inl rfl, trivial⟩
