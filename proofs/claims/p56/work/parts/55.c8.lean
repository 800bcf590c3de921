set_option maxRecDepth 100000 in
set_option maxHeartbeats 4000000 in
theorem c_X6_replay (l : Launch) (X : XT) (D : DT) (P : PT) (hfl : l.stackTraces = false) (M : DT) (W : Nat) (h : RI D P M W) (hW : W + 200 < 2 ^ 29) (n : Nat) (hn60 : n ≤ 60) (hn9 : M 6 9 = nI n)  : XG l X yX6_replay (.code yX6_replay cX6_replay 2 (some .int) :: AW) ({ frames := 6, cells := 1, slots := 6, locals := 216 } : Room) [.ref (X.2.2 0)] (qI X (fun r D' P' => (kRpl M n) = 0 ∧ r = ((rFin (M 12) n (M 7)).2.2) ∧ RI D' P' (m_rpl M n) (W + 130) ∧ FX D D')) (fun e D' P' => (e = eIAE ∧ kRpl M n = 1) ∧ RI D' P' M W ∧ FX D D') D P 1 6 := by
  refine xg_of (by decide +kernel) (Nat.le_of_ble_eq_true rfl) ?_
  intro K hKl hKR C ht0 Z
  have hfl : K.2.1.stackTraces = false := by rw [hKl]; exact hfl
  refine PV_lv (lv' := [some (.ref (X.2.2 0)), none]) rfl ?_
  obtain ⟨⟨G, A, wr, nx, hw, hR, hT, hI, hAM⟩, ⟨s, hs5, hs3, hs0, hsj⟩, hP1, hP2, ⟨hk4, hk01, hkS⟩, n', hn60', hn9', hn1', hnk'⟩ := id h
  obtain rfl : n = n' := nI_inj (by omega) (by omega) (hn9.symm.trans hn9')
  have hn1 := hn1'
  have hnk := hnk'
  refine pv_aload_n (q := 1) C dX6_replay_0 rfl rfl rfl ?_ 
  refine pg_6_5 (q := 4) C k0 tw_206 dX6_replay_1 rfl (fun k1 => ?_) 
  refine pv_callVi (q := 7) C hKl (c_X2_readWhole l X D P n hn1 hn60) tw_955 k1 (by decide) rfl mm_X2_readWhole ⟨rfl, rfl⟩ (by rw [hKR]; exact ⟨Nat.le_of_ble_eq_true rfl, Nat.le_of_ble_eq_true rfl⟩) (by rw [hKR]; exact ⟨Nat.le_of_ble_eq_true rfl, Nat.le_of_ble_eq_true rfl⟩) rfl rfl rfl (Nat.le_of_ble_eq_true rfl) dX6_replay_4 rfl (fun r4 D4 P4 hp4 => ?_) 
  obtain ⟨⟨hrr, ha, hle, hc⟩, rfl⟩ := hp4
  have hRI0 : RI D4 P M W := RI_D h ⟨by rw [hc.1 0 (by decide)], by rw [hc.1 0 (by decide)]⟩ (hc.2 1 (by decide)) (hc.1 3 (by decide)) (fun i hi => hc.1 i (by omega))
  rw [pAll_cong hnk] at hrr
  refine pv_if_ne (q := 10) (tgt := 20) C dX6_replay_7 (by decide) rfl (fun c_7 => ?_) (fun c_7 => ?_) 
  · have hg1 : (pAll (M 12) n 62 0).1 = 1 := (pAll_01 62 0).resolve_left (fun z => c_7 (hrr.trans z))
    refine pv_aload_n (q := 21) C dX6_replay_20 rfl rfl rfl ?_ 
    refine pv_callVv (q := 24) C hKl (c_X6_saveState l X D4 P M W hRI0) tw_344 k0 (by decide) rfl mm_X6_saveState ⟨rfl, rfl⟩ (by rw [hKR]; exact ⟨Nat.le_of_ble_eq_true rfl, Nat.le_of_ble_eq_true rfl⟩) (by rw [hKR]; exact ⟨Nat.le_of_ble_eq_true rfl, Nat.le_of_ble_eq_true rfl⟩) rfl rfl rfl (Nat.le_of_ble_eq_true rfl) dX6_replay_21 rfl (fun D21 P21 hp21 => ?_) 
    obtain ⟨hRI, hF1, hF2⟩ := hp21
    refine pv_aload_n (q := 25) C dX6_replay_24 rfl rfl rfl ?_ 
    refine pg_6_5 (q := 28) C k0 tw_206 dX6_replay_25 rfl (fun k25 => ?_) 
    refine pv_iconst (q := 29) (v := 0) C dX6_replay_28 rfl (by decide) ?_ 
    refine pp_2_2 (q := 32) C k25 tw_172 dX6_replay_29 rfl (fun D29 hD29 => ?_) 
    refine pv_aload_n (q := 33) C dX6_replay_32 rfl rfl rfl ?_ 
    refine pg_6_0 (q := 36) C k0 tw_201 dX6_replay_33 rfl (fun k33 => ?_) 
    refine pv_iconst (q := 37) (v := (-1)) C dX6_replay_36 rfl (by decide) ?_ 
    refine pp_3_7 (q := 40) C k33 tw_143 dX6_replay_37 rfl (fun D37 hD37 => ?_) 
    refine pv_iconst (q := 41) (v := 0) C dX6_replay_40 rfl (by decide) ?_ 
    refine pv_istore_n (q := 42) C dX6_replay_41 rfl rfl (Nat.le_of_ble_eq_true rfl) rfl ?_ 
    have loop_42 : ∀ (nn : Nat) (hh a k sb : Nat) (x : Int32) (r1 : Nat → Int32) (D1 : DT), (64 ≤ 2 * hh + sb + nn) → sb ≤ 1 → hh ≤ 30 → 2 * hh ≤ a + 1 → ctx D1 n a → D1 3 = D 3 → (∀ i, i ≠ 2 → (i < 24 ∨ 63 ≤ i) → D1 i = D21 i) → SB D1 24 (va_up r1 183 x) (W + 2 * hh) → runM (D 3) n (M 7) hh a k sb x r1 → PV K X (XK K X (qI X (fun r D' P' => (kRpl M n) = 0 ∧ r = ((rFin (M 12) n (M 7)).2.2) ∧ RI D' P' (m_rpl M n) (W + 130) ∧ FX D D')) (fun e D' P' => (e = eIAE ∧ kRpl M n = 1) ∧ RI D' P' M W ∧ FX D D') 1 6) (0) (0) 42 [some (.ref (X.2.2 0)), some (.int (nI hh))] [] D1 P21 := by
      intro nn
      induction nn with
      | zero =>
        intro hh a k sb x r1 D1 hfuel hsb hh30 h2a hctx hx3 hfr hSB hmode
        exact absurd hfuel (by omega)
      | succ nn ih =>
        intro hh a k sb x r1 D1 hfuel hsb hh30 h2a hctx hx3 hfr hSB hmode
        obtain ⟨G1, A1, wr1, nx1, hw1, hR1, hT1, hI1, hAM1⟩ := id hSB
        have hx7 : D1 24 7 = x := (hR1.2.2.2.2.2 7 (by omega) (by omega)).trans (va_up_self _ _ _)
        refine pv_iload_n (q := 43) C dX6_replay_42 rfl rfl rfl ?_ 
        refine pv_bipush (q := 45) (v := 60) C dX6_replay_43 rfl (by decide) ?_ 
        refine pv_icmp_geN (q := 48) (tgt := 100) (a := hh) (b := 60) C rfl rfl (by omega) (by omega) dX6_replay_45 (by decide) rfl (fun c_45 => absurd c_45 (by omega)) (fun c_45 => ?_) 
        refine pv_aload_n (q := 49) C dX6_replay_48 rfl rfl rfl ?_ 
        refine pg_6_0 (q := 52) C k0 tw_201 dX6_replay_49 rfl (fun k49 => ?_) 
        refine pg_3_7 (q := 55) C k49 tw_143 dX6_replay_52 rfl ?_ 
        rw [hx7]
        refine pv_iconst (q := 56) (v := (-1)) C dX6_replay_55 rfl (by decide) ?_ 
        refine pv_icmp_ne (q := 59) (tgt := 100) C dX6_replay_56 (by decide) rfl (fun c_56 => ?_) (fun c_56 => ?_) 
        · refine pv_aload_n (q := 101) C dX6_replay_100 rfl rfl rfl ?_
          refine pg_6_5 (q := 104) C k0 tw_206 dX6_replay_101 rfl (fun k101 => ?_) 
          refine pv_iconst (q := 105) (v := 0) C dX6_replay_104 rfl (by decide) ?_ 
          refine pp_2_1 (q := 108) C k101 tw_170 dX6_replay_105 rfl (fun D105 hD105 => ?_) 
          refine pv_iload_n (q := 109) C dX6_replay_108 rfl rfl rfl ?_ 
          exact XK.of (pv_iret C (by
              have hrf2 : rFin (M 12) n (M 7) = (r1, 1, nI hh) := by rw [← rFin_cong hnk]; exact (runM_stop hmode c_56).1
              have hE7 : m_rpl M n 7 = va_up r1 183 x := by
                show va_up (rFin (M 12) n (M 7)).1 183 (if (rFin (M 12) n (M 7)).2.1 = 0 then -1 else (rFin (M 12) n (M 7)).2.2) = _
                rw [hrf2]
                exact congrArg (va_up r1 183) ((runM_stop hmode c_56).2.symm)
              refine ⟨by unfold kRpl; rw [if_pos hg1], by rw [hrf2], RI_rpl hRI (by omega) (by rw [hE7]; exact (SB_cong (hSB) (fun i q1 q2 => by rw [hD105, up2_ne _ _ _ (by omega)]) (fun _ _ => rfl)).W (by omega)) (fun i q1 q2 => by rw [hD105, up2_ne _ _ _ q1]; exact hfr i q1 q2) rfl rfl rfl (by rw [hD105, up2_self]) rfl rfl, fun i q1 q2 => by rw [hD105, up2_ne _ _ _ (by omega)]; exact (hfr i (by omega) (by omega)).trans ((hF1 i (by omega) (by omega)).trans (hc.1 i (by omega)))⟩) (by decide) (by decide) dX6_replay_109)
        · refine pv_aload_n (q := 60) C dX6_replay_59 rfl rfl rfl ?_
          refine pg_6_5 (q := 63) C k0 tw_206 dX6_replay_60 rfl (fun k60 => ?_) 
          refine pv_callVi (q := 66) C hKl (c_X2_readNextPart l X D1 P21 n a hctx) tw_1004 k60 (by decide) rfl mm_X2_readNextPart ⟨rfl, rfl⟩ (by rw [hKR]; exact ⟨Nat.le_of_ble_eq_true rfl, Nat.le_of_ble_eq_true rfl⟩) (by rw [hKR]; exact ⟨Nat.le_of_ble_eq_true rfl, Nat.le_of_ble_eq_true rfl⟩) rfl rfl rfl (Nat.le_of_ble_eq_true rfl) dX6_replay_63 rfl (fun r63 D63 P63 hp63 => ?_) 
          rcases hp63 with ⟨⟨hC, a2, ha2, ea2, ⟨p, b, hQ, hb, rfl, hat, hkd, hnm, hgp, hxm, hcu⟩ | ⟨b, hQ, hb, rfl, hat, hcu⟩⟩ | ⟨hC, rfl, hcu⟩, rfl⟩
          · rw [hx3] at hQ hC
            obtain ⟨n1, n2, n3, n4⟩ := runM_next hmode c_56 hh30 hC ea2 (Or.inr trivial)
            have ok := pPart_ok (f := D 3) (n := n) ha2
            rw [hQ] at ok
            obtain ⟨hab, hpk⟩ := ok.2.2 p rfl
            dsimp only at hab
            have hSB' : SB D63 24 (va_up r1 183 x) (W + 2 * hh) := SB_cong hSB (fun i q1 q2 => hcu.1 i (by omega)) (fun _ _ => rfl)
            refine pv_if_eq (q := 69) (tgt := 100) C dX6_replay_66 (by decide) rfl (fun h => absurd h (by decide)) (fun _ => ?_) 
            refine pv_aload_n (q := 70) C dX6_replay_69 rfl rfl rfl ?_ 
            refine pg_6_0 (q := 73) C k0 tw_201 dX6_replay_70 rfl (fun k70 => ?_) 
            refine pv_aload_n (q := 74) C dX6_replay_73 rfl rfl rfl ?_ 
            refine pg_6_5 (q := 77) C k0 tw_206 dX6_replay_74 rfl (fun k74 => ?_) 
            refine pv_callVi (q := 80) C hKl (c_X3_letHappen l X D63 P21 24 (W + 2 * hh) kS24 (va_up r1 183 x) hSB' (by omega) p hpk hkd hnm hgp hxm (pPart_z (by rw [hQ]))) tw_1008 k70 (by decide) rfl mm_X3_letHappen ⟨rfl, rfl⟩ (by rw [hKR]; exact ⟨Nat.le_of_ble_eq_true rfl, Nat.le_of_ble_eq_true rfl⟩) (by rw [hKR]; exact ⟨Nat.le_of_ble_eq_true rfl, Nat.le_of_ble_eq_true rfl⟩) rfl rfl rfl (Nat.le_of_ble_eq_true rfl) dX6_replay_77 rfl (fun r77 D77 P77 hp77 => ?_) 
            rcases hp77 with ⟨⟨hcan, rfl, s1, s2⟩ | ⟨hcan, rfl, hE⟩, rfl⟩
            · rw [(eqx_st r1 x).can hpk] at hcan
              refine pv_if_eq (q := 83) (tgt := 89) C dX6_replay_80 (by decide) rfl (fun h => absurd h (by decide)) (fun _ => ?_) 
              refine pv_iinc (q := 86) (v := nI (hh + 1)) C dX6_replay_83 rfl rfl (nI_add _ _) rfl ?_ 
              refine pv_goto (tgt := 42) C dX6_replay_86 (by decide) ?_ 
              exact ih (hh + 1) b (k - 1) 0 (-1) (goP r1 p) D77 (by omega) (by omega) (by have := hb; have := hctx.2.1; rw [ea2] at hab; split at hab <;> omega) (by rw [ea2] at hab; split at hab <;> omega) ⟨by rw [s1 2 (by omega), hcu.2 1 (by decide)]; exact hctx.1, hn60, by rw [s1 2 (by omega)]; exact hat, hb⟩ (by rw [s1 3 (by omega), hcu.1 3 (by decide)]; exact hx3) (fun i q1 q2 => by rw [s1 i (by omega), hcu.1 i q1]; exact hfr i q1 q2) (by rw [go_st hpk, ← c_56]; exact s2.W (by omega)) (runM_go hb hab hQ n1 n2 n3 hcan)
            · rw [(eqx_st r1 x).can hpk] at hcan
              refine pv_if_eq (q := 83) (tgt := 89) C dX6_replay_80 (by decide) rfl (fun _ => ?_) (fun h => absurd h (by decide)) 
              refine pv_aload_n (q := 90) C dX6_replay_89 rfl rfl rfl ?_ 
              refine pg_6_0 (q := 93) C k0 tw_201 dX6_replay_90 rfl (fun k90 => ?_) 
              refine pv_iload_n (q := 94) C dX6_replay_93 rfl rfl rfl ?_ 
              refine pp_3_7 (q := 97) C k90 tw_143 dX6_replay_94 rfl (fun D94 hD94 => ?_) 
              refine pv_goto (tgt := 42) C dX6_replay_97 (by decide) ?_ 
              exact ih hh b k 1 (nI hh) r1 D94 (by omega) (by omega) hh30 (by rw [ea2] at hab; split at hab <;> omega) ⟨by rw [hD94, hE, up2_ne _ _ _ (by decide), hcu.2 1 (by decide)]; exact hctx.1, hn60, by rw [hD94, hE, up2_ne _ _ _ (by decide)]; exact hat, hb⟩ (by rw [hD94, hE, up2_ne _ _ _ (by decide), hcu.1 3 (by decide)]; exact hx3) (fun i q1 q2 => by rw [hD94, hE, up2_ne _ _ _ (by omega), hcu.1 i q1]; exact hfr i q1 q2) (by have z := SB_stop (x := nI hh) hSB'; rw [va_up_up] at z; rw [hD94, hE]; exact z) (runM_no hQ n2 hcan)
          · rw [hx3] at hQ hC
            obtain ⟨n1, n2, n3, n4⟩ := runM_next hmode c_56 hh30 hC ea2 (Or.inr trivial)
            refine pv_if_eq (q := 69) (tgt := 100) C dX6_replay_66 (by decide) rfl (fun _ => ?_) (fun h => absurd h (by decide)) 
            refine pv_aload_n (q := 101) C dX6_replay_100 rfl rfl rfl ?_ 
            refine pg_6_5 (q := 104) C k0 tw_206 dX6_replay_101 rfl (fun k101 => ?_) 
            refine pv_iconst (q := 105) (v := 0) C dX6_replay_104 rfl (by decide) ?_ 
            refine pp_2_1 (q := 108) C k101 tw_170 dX6_replay_105 rfl (fun D105 hD105 => ?_) 
            refine pv_iload_n (q := 109) C dX6_replay_108 rfl rfl rfl ?_ 
            exact XK.of (pv_iret C (absurd (pAll_none hQ n3) id) (by decide) (by decide) dX6_replay_109)
          · rw [hx3] at hC
            have hrf := runM_fin hmode c_56 hh30 hC
            have hSB' : SB D63 24 (va_up r1 183 x) (W + 2 * hh) := SB_cong hSB (fun i q1 q2 => hcu.1 i (by omega)) (fun _ _ => rfl)
            refine pv_if_eq (q := 69) (tgt := 100) C dX6_replay_66 (by decide) rfl (fun _ => ?_) (fun h => absurd h (by decide)) 
            refine pv_aload_n (q := 101) C dX6_replay_100 rfl rfl rfl ?_ 
            refine pg_6_5 (q := 104) C k0 tw_206 dX6_replay_101 rfl (fun k101 => ?_) 
            refine pv_iconst (q := 105) (v := 0) C dX6_replay_104 rfl (by decide) ?_ 
            refine pp_2_1 (q := 108) C k101 tw_170 dX6_replay_105 rfl (fun D105 hD105 => ?_) 
            refine pv_iload_n (q := 109) C dX6_replay_108 rfl rfl rfl ?_ 
            exact XK.of (pv_iret C (by
                have hrf2 : rFin (M 12) n (M 7) = (r1, 0, nI hh) := by rw [← rFin_cong hnk]; exact hrf
                have hE7 : m_rpl M n 7 = va_up r1 183 x := by
                  show va_up (rFin (M 12) n (M 7)).1 183 (if (rFin (M 12) n (M 7)).2.1 = 0 then -1 else (rFin (M 12) n (M 7)).2.2) = _
                  rw [hrf2]
                  exact congrArg (va_up r1 183) (c_56.symm)
                refine ⟨by unfold kRpl; rw [if_pos hg1], by rw [hrf2], RI_rpl hRI (by omega) (by rw [hE7]; exact (SB_cong (hSB') (fun i q1 q2 => by rw [hD105, up2_ne _ _ _ (by omega)]) (fun _ _ => rfl)).W (by omega)) (fun i q1 q2 => by rw [hD105, up2_ne _ _ _ q1]; exact (hcu.1 i q1).trans (hfr i q1 q2)) rfl rfl rfl (by rw [hD105, up2_self]) rfl rfl, fun i q1 q2 => by rw [hD105, up2_ne _ _ _ (by omega)]; exact (hcu.1 i (by omega)).trans ((hfr i (by omega) (by omega)).trans ((hF1 i (by omega) (by omega)).trans (hc.1 i (by omega))))⟩) (by decide) (by decide) dX6_replay_109)
    exact loop_42 64 0 0 61 0 (-1) (M 7) D37 (by omega) (by omega) (by omega) (by omega) ⟨by rw [hD37, hD29, up2_ne _ _ _ (by decide), up2_nk _ _ _ (by decide), hF1 2 (by decide) (by decide), hc.2 1 (by decide)]; exact hn1, hn60, by rw [hD37, hD29, up2_ne _ _ _ (by decide), up2_self]; rfl, by omega⟩ (by rw [hD37, hD29, up2_ne _ _ _ (by decide), up2_ne _ _ _ (by decide), hF1 3 (by decide) (by decide), hc.1 3 (by decide)]) (fun i q1 q2 => by rw [hD37, hD29, up2_ne _ _ _ (by omega), up2_ne _ _ _ q1]) (by rw [hD37]; exact SB_stop (SB_cong (row := M 7) (W := W + 2 * 0) hRI.1 (fun i q1 q2 => by rw [hD29, up2_ne _ _ _ (by omega)]) (fun _ _ => rfl))) (Or.inl ⟨rfl, rfl, Or.inr ⟨Or.inl rfl, by rw [if_pos rfl]; omega, by rw [if_pos rfl]; rfl, by rw [if_pos rfl, pAll_cong hnk]; exact hg1⟩⟩)
  · exact pv_throwIAE (text := "the buffer is not a complete log") C Z ht0 hfl (by decide +kernel) (⟨⟨rfl, by unfold kRpl; rw [if_neg (fun z => absurd ((hrr.trans z).symm.trans c_7) (by decide))]⟩, hRI0, fun i q1 q2 => hc.1 i (by omega)⟩) rfl (by rw [hKR]; exact ⟨Nat.le_of_ble_eq_true rfl, Nat.le_of_ble_eq_true rfl⟩) (by rw [hKR]; first | exact ⟨Nat.le_of_ble_eq_true rfl, Nat.le_of_ble_eq_true rfl⟩ | (constructor <;> (dsimp only; omega))) ⟨by omega, by omega⟩ dX6_replay_10 dX6_replay_13 dX6_replay_14 dX6_replay_16 dX6_replay_19
