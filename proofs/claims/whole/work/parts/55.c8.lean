set_option maxRecDepth 100000 in
set_option maxHeartbeats 4000000 in
theorem c_X7_firstError (l : Launch) (X : XT) (D : DT) (P : PT) (n : Nat) (hn : D 6 9 = nI n) (hn60 : n ≤ 60)  : CG l X yX7_firstError (.code yX7_firstError cX7_firstError 1 (some .int) :: AW) ({ frames := 8, cells := 0, slots := 0, locals := 288 } : Room) [.ref (X.2.2 6)] (qI X (fun r D' P' => rd 0 (nI (pAll (D 12) n 62 0).2) D r D' ∧ P = P')) D P 0 0 := by
  refine cg_of (by decide +kernel) (Nat.le_of_ble_eq_true rfl) ?_
  intro K hKl hKR C
  refine PV_lv (lv' := [some (.ref (X.2.2 6))]) rfl ?_
  refine pv_aload_n (q := 1) C dX7_firstError_0 rfl rfl rfl ?_ 
  refine pv_iconst (q := 2) (v := 0) C dX7_firstError_1 rfl (by decide) ?_ 
  refine pp_7_0 (q := 5) C k6 tw_995 dX7_firstError_2 rfl (fun D2 hD2 => ?_) 
  refine pv_aload_n (q := 6) C dX7_firstError_5 rfl rfl rfl ?_ 
  refine pv_iconst (q := 7) (v := 0) C dX7_firstError_6 rfl (by decide) ?_ 
  refine pv_callVv (q := 10) C hKl (c_X7_readAll l X D2 P n (by rw [hD2]; exact hn) hn60 0 (Or.inl rfl) (fun z => absurd z (by decide))) tw_1207 k6 (by decide) rfl mm_X7_readAll ⟨rfl, rfl⟩ (by rw [hKR]; exact ⟨Nat.le_of_ble_eq_true rfl, Nat.le_of_ble_eq_true rfl⟩) (by rw [hKR]; exact ⟨Nat.le_of_ble_eq_true rfl, Nat.le_of_ble_eq_true rfl⟩) rfl rfl rfl (Nat.le_of_ble_eq_true rfl) dX7_firstError_7 rfl (fun D7 P7 hp7 => ?_) 
  obtain ⟨hA, rfl⟩ := hp7
  have hp := rdA_p (D := D2) (n := n) 0 hn60
  rw [← hA, show D2 12 = D 12 by rw [hD2]; rfl] at hp
  have hS : Sx D D7 := by rw [hA]; exact fun i j hij => (rdA_Sx i j hij).trans (by rw [hD2]; exact (Sx_rf D).up (k := 0) (Or.inl rfl) i j hij)
  have h60 : D7 6 0 = 0 := by rw [hA, (rdA_o 0).1 0 (by decide), hD2, up2_self]
  refine pv_aload_n (q := 11) C dX7_firstError_10 rfl rfl rfl ?_ 
  refine pg_7_11 (q := 14) C k6 tw_1006 dX7_firstError_11 rfl ?_ 
  refine pv_if_eq (q := 17) (tgt := 24) C dX7_firstError_14 (by decide) rfl (fun c_14 => ?_) (fun c_14 => ?_) 
  · refine pv_aload_n (q := 25) C dX7_firstError_24 rfl rfl rfl ?_
    refine pg_7_10 (q := 28) C k6 tw_1005 dX7_firstError_25 rfl ?_ 
    exact pv_iret C (⟨⟨h60, fun _ => hp.2, hS⟩, rfl⟩) (by decide) (by decide) dX7_firstError_28
  · refine pv_aload_n (q := 18) C dX7_firstError_17 rfl rfl rfl ?_
    refine pg_7_9 (q := 21) C k6 tw_1004 dX7_firstError_18 rfl ?_ 
    refine pv_goto (tgt := 28) C dX7_firstError_21 (by decide) ?_ 
    exact pv_iret C (⟨⟨h60, fun _ => by rw [show D7 6 9 = nI n by rw [hA, (rdA_o 0).1 9 (by decide), hD2]; exact hn, pAll_g 62 0 (by omega) ((pAll_01 62 0).resolve_left (fun z => c_14 (hp.1.trans z)))], hS⟩, rfl⟩) (by decide) (by decide) dX7_firstError_28
set_option maxRecDepth 100000 in
set_option maxHeartbeats 4000000 in
theorem c_X7_replay (l : Launch) (X : XT) (D : DT) (P : PT) (n : Nat) (hn : D 6 9 = nI n) (hn60 : n ≤ 60) (hs : sok D) (hrw : RW (D 7) 126) : CG l X yX7_replay (.code yX7_replay cX7_replay 1 (some .int) :: AW) ({ frames := 8, cells := 0, slots := 0, locals := 288 } : Room) [.ref (X.2.2 6)] (qI X (fun r D' P' => ((¬ kRpl D n = 0 ∧ D' 6 0 = kRpl D n ∧ Sx D D') ∨ (kRpl D n = 0 ∧ D' 6 0 = 0 ∧ r = (rFin (D 12) n (D 7)).2.2 ∧ Sx (m_rpl D n) D')) ∧ P = P')) D P 0 0 := by
  refine cg_of (by decide +kernel) (Nat.le_of_ble_eq_true rfl) ?_
  intro K hKl hKR C
  refine PV_lv (lv' := [some (.ref (X.2.2 6))]) rfl ?_
  refine pv_aload_n (q := 1) C dX7_replay_0 rfl rfl rfl ?_ 
  refine pv_iconst (q := 2) (v := 0) C dX7_replay_1 rfl (by decide) ?_ 
  refine pv_callVv (q := 5) C hKl (c_X7_readAll l X D P n hn hn60 0 (Or.inl rfl) (fun z => absurd z (by decide))) tw_1207 k6 (by decide) rfl mm_X7_readAll ⟨rfl, rfl⟩ (by rw [hKR]; exact ⟨Nat.le_of_ble_eq_true rfl, Nat.le_of_ble_eq_true rfl⟩) (by rw [hKR]; exact ⟨Nat.le_of_ble_eq_true rfl, Nat.le_of_ble_eq_true rfl⟩) rfl rfl rfl (Nat.le_of_ble_eq_true rfl) dX7_replay_2 rfl (fun D2 P2 hp2 => ?_) 
  obtain ⟨hA, rfl⟩ := hp2
  have hp := rdA_p (D := D) (n := n) 0 hn60
  rw [← hA] at hp
  have hS : Sx D D2 := by rw [hA]; exact rdA_Sx
  have hO := rdA_o (D := D) (n := n) 0
  rw [← hA] at hO
  refine pv_aload_n (q := 6) C dX7_replay_5 rfl rfl rfl ?_ 
  refine pv_aload_n (q := 7) C dX7_replay_6 rfl rfl rfl ?_ 
  refine pg_7_11 (q := 10) C k6 tw_1006 dX7_replay_7 rfl ?_ 
  refine pv_if_eq (q := 13) (tgt := 17) C dX7_replay_10 (by decide) rfl (fun c_10 => ?_) (fun c_10 => ?_) 
  · refine pv_iconst (q := 18) (v := 1) C dX7_replay_17 rfl (by decide) ?_
    refine pv_callVi (q := 21) C hKl (c_X7_refused l X D2 P _ (by decide)) tw_1069 k6 (by decide) rfl mm_X7_refused ⟨rfl, rfl⟩ (by rw [hKR]; exact ⟨Nat.le_of_ble_eq_true rfl, Nat.le_of_ble_eq_true rfl⟩) (by rw [hKR]; exact ⟨Nat.le_of_ble_eq_true rfl, Nat.le_of_ble_eq_true rfl⟩) rfl rfl rfl (Nat.le_of_ble_eq_true rfl) dX7_replay_18 rfl (fun r18 D18 P18 hp18 => ?_) 
    obtain ⟨rfl, hR18, rfl⟩ := hp18
    refine pv_if_eq (q := 24) (tgt := 26) C dX7_replay_21 (by decide) rfl (fun h => absurd h (by decide)) (fun _ => ?_) 
    refine pv_iconst (q := 25) (v := 0) C dX7_replay_24 rfl (by decide) ?_ 
    exact pv_iret C (⟨Or.inl ⟨by rw [show kRpl D n = 1 by unfold kRpl; rw [if_neg (fun z => absurd ((hp.1.trans z).symm.trans c_10) (by decide))]]; decide, by rw [show kRpl D n = 1 by unfold kRpl; rw [if_neg (fun z => absurd ((hp.1.trans z).symm.trans c_10) (by decide))], hR18, up2_self], by rw [hR18]; exact hS.up (Or.inl rfl)⟩, rfl⟩) (by decide) (by decide) dX7_replay_25
  · refine pv_iconst (q := 14) (v := 0) C dX7_replay_13 rfl (by decide) ?_
    refine pv_goto (tgt := 18) C dX7_replay_14 (by decide) ?_ 
    refine pv_callVi (q := 21) C hKl (c_X7_refused0 l X D2 P ) tw_1069 k6 (by decide) rfl mm_X7_refused ⟨rfl, rfl⟩ (by rw [hKR]; exact ⟨Nat.le_of_ble_eq_true rfl, Nat.le_of_ble_eq_true rfl⟩) (by rw [hKR]; exact ⟨Nat.le_of_ble_eq_true rfl, Nat.le_of_ble_eq_true rfl⟩) rfl rfl rfl (Nat.le_of_ble_eq_true rfl) dX7_replay_18 rfl (fun r18 D18 P18 hp18 => ?_) 
    obtain ⟨rfl, hR18, rfl⟩ := hp18
    refine pv_if_eq (q := 24) (tgt := 26) C dX7_replay_21 (by decide) rfl (fun _ => ?_) (fun h => absurd h (by decide)) 
    refine pv_aload_n (q := 27) C dX7_replay_26 rfl rfl rfl ?_ 
    refine pv_callVv (q := 30) C hKl (c_X7_save l X D18 P (by rw [hR18]; obtain ⟨s, z1, z2⟩ := hs; exact ⟨s, z1, (hO.1 3 (by decide)).trans z2⟩)) tw_1073 k6 (by decide) rfl mm_X7_save ⟨rfl, rfl⟩ (by rw [hKR]; exact ⟨Nat.le_of_ble_eq_true rfl, Nat.le_of_ble_eq_true rfl⟩) (by rw [hKR]; exact ⟨Nat.le_of_ble_eq_true rfl, Nat.le_of_ble_eq_true rfl⟩) rfl rfl rfl (Nat.le_of_ble_eq_true rfl) dX7_replay_27 rfl (fun D27 P27 hp27 => ?_) 
    obtain ⟨hR27, rfl⟩ := hp27
    have o6 : ∀ j, j ≠ 3 → j < 10 → j ≠ 0 → D27 6 j = D 6 j := fun j h1 h2 h3 => by
      rw [hR27]
      show up2 _ 6 3 _ 6 j = _
      rw [up2_nk _ _ _ h1, va_up_ne _ _ (by decide), hR18, up2_nk _ _ _ h3]
      exact hO.1 j h2
    have q7 : D27 7 = D 7 := by rw [hR27, hR18]; exact hO.2.2 rfl
    have q12 : D27 12 = D 12 := by rw [hR27, hR18]; exact hO.2.1 12 (by decide) (by decide)
    refine pv_aload_n (q := 31) C dX7_replay_30 rfl rfl rfl ?_ 
    refine pv_iconst (q := 32) (v := 1) C dX7_replay_31 rfl (by decide) ?_ 
    refine pv_callVv (q := 35) C hKl (c_X7_readAll l X D27 P n (by rw [o6 9 (by decide) (by decide) (by decide)]; exact hn) hn60 1 (Or.inr rfl) (fun _ => by rw [q7]; exact hrw)) tw_1207 k6 (by decide) rfl mm_X7_readAll ⟨rfl, rfl⟩ (by rw [hKR]; exact ⟨Nat.le_of_ble_eq_true rfl, Nat.le_of_ble_eq_true rfl⟩) (by rw [hKR]; exact ⟨Nat.le_of_ble_eq_true rfl, Nat.le_of_ble_eq_true rfl⟩) rfl rfl rfl (Nat.le_of_ble_eq_true rfl) dX7_replay_32 rfl (fun D32 P32 hp32 => ?_) 
    obtain ⟨hB, rfl⟩ := hp32
    have hq := rdA_r (D := D27) (n := n) hn60
    rw [← hB, q7, q12] at hq
    have hP := rdA_o (D := D27) (n := n) 1
    rw [← hB] at hP
    refine pv_aload_n (q := 36) C dX7_replay_35 rfl rfl rfl ?_ 
    refine pg_7_1 (q := 39) C k6 tw_996 dX7_replay_36 rfl (fun k36 => ?_) 
    refine pv_sipush (q := 42) (v := 183) C dX7_replay_39 rfl (by decide) ?_ 
    refine pv_aload_n (q := 43) C dX7_replay_42 rfl rfl rfl ?_ 
    refine pg_7_13 (q := 46) C k6 tw_1008 dX7_replay_43 rfl ?_ 
    refine pv_if_ne (q := 49) (tgt := 53) C dX7_replay_46 (by decide) rfl (fun c_46 => ?_) (fun c_46 => ?_) 
    · refine pv_aload_n (q := 54) C dX7_replay_53 rfl rfl rfl ?_
      refine pg_7_14 (q := 57) C k6 tw_1009 dX7_replay_54 rfl ?_ 
      refine pv_iast (q := 58) (j := 183) C (iln_15 k36) rfl (by decide) dX7_replay_57 rfl (fun D57 hD57 => ?_) 
      refine pv_aload_n (q := 59) C dX7_replay_58 rfl rfl rfl ?_ 
      refine pv_iconst (q := 60) (v := 0) C dX7_replay_59 rfl (by decide) ?_ 
      refine pp_7_9 (q := 63) C k6 tw_1004 dX7_replay_60 rfl (fun D60 hD60 => ?_) 
      refine pv_aload_n (q := 64) C dX7_replay_63 rfl rfl rfl ?_ 
      refine pg_7_14 (q := 67) C k6 tw_1009 dX7_replay_64 rfl ?_ 
      exact pv_iret C (by
          have hk : kRpl D n = 0 := by unfold kRpl; rw [if_pos ((pAll_01 62 0).resolve_left (fun z => c_10 (hp.1.trans z)))]
          refine ⟨Or.inr ⟨hk, ?_, ?_, ?_⟩, rfl⟩
          · rw [hD60, up2_nk _ _ _ (by decide), hD57, up2_ne _ _ _ (by decide), hP.1 0 (by decide), hR27]
            show up2 _ 6 3 _ 6 0 = _
            rw [up2_nk _ _ _ (by decide), va_up_ne _ _ (by decide), hR18, up2_self]
          · rw [hD60, up2_nk _ _ _ (by decide), hD57, up2_ne _ _ _ (by decide)]; exact hq.2.2
          · intro i j hij
            unfold m_rpl
            rw [hD60]
            by_cases e6 : i = 6
            · subst e6
              by_cases e9 : j = 9
              · subst e9; rw [up2_self, up2_self]
              · rw [up2_nk _ _ _ e9, up2_nk _ _ _ e9, hD57, up2_ne _ _ _ (by decide), va_up_ne _ _ (by decide), hP.1 j (by omega), hR27]
                show up2 _ 6 3 _ 6 j = up2 _ 6 3 _ 6 j
                by_cases e3 : j = 3
                · subst e3; rw [up2_self, up2_self, hR18]; congr 3; rw [show up2 D2 6 0 0 6 3 = D 6 3 from hO.1 3 (by decide)]; rfl
                · rw [up2_nk _ _ _ e3, up2_nk _ _ _ e3, va_up_ne _ _ (by decide), va_up_ne _ _ (by decide), hR18]
                  show up2 _ 6 0 0 6 j = up2 _ 6 0 0 6 j
                  rw [up2_nk _ _ _ (by omega), up2_nk _ _ _ (by omega)]
                  exact hO.1 j (by omega)
            · rw [up2_ne _ _ _ e6, up2_ne _ _ _ e6, hD57]
              by_cases e7 : i = 7
              · subst e7
                rw [up2_row, va_up_self, hq.1, if_neg (fun z => c_46 (hq.2.1.trans z)), hq.2.2]
              · rw [up2_ne _ _ _ e7, va_up_ne _ _ e7, hP.2.1 i e6 e7, hR27]
                show up2 _ 6 3 _ i j = up2 _ 6 3 _ i j
                rw [up2_ne _ _ _ e6, up2_ne _ _ _ e6, hR18]
                by_cases e8 : i = 8
                · subst e8
                  rw [va_up_self, va_up_self]
                  show m_book (up2 D2 6 0 0 8) (up2 D2 6 0 0 7) (ix (up2 D2 6 0 0 6 3)) j = m_book (D 8) (D 7) (ix (D 6 3)) j
                  rw [up2_ne _ _ _ (by decide), up2_ne _ _ _ (by decide), up2_nk _ _ _ (by decide), hO.2.1 8 (by decide) (by decide), hO.2.2 rfl, hO.1 3 (by decide)]
                · rw [va_up_ne _ _ e8, va_up_ne _ _ e8]
                  show up2 D2 6 0 0 i j = up2 D 6 0 0 i j
                  rw [up2_ne _ _ _ e6, up2_ne _ _ _ e6, hO.2.1 i e6 e7]) (by decide) (by decide) dX7_replay_67
    · refine pv_iconst (q := 50) (v := (-1)) C dX7_replay_49 rfl (by decide) ?_
      refine pv_goto (tgt := 57) C dX7_replay_50 (by decide) ?_ 
      refine pv_iast (q := 58) (j := 183) C (iln_15 k36) rfl (by decide) dX7_replay_57 rfl (fun D57 hD57 => ?_) 
      refine pv_aload_n (q := 59) C dX7_replay_58 rfl rfl rfl ?_ 
      refine pv_iconst (q := 60) (v := 0) C dX7_replay_59 rfl (by decide) ?_ 
      refine pp_7_9 (q := 63) C k6 tw_1004 dX7_replay_60 rfl (fun D60 hD60 => ?_) 
      refine pv_aload_n (q := 64) C dX7_replay_63 rfl rfl rfl ?_ 
      refine pg_7_14 (q := 67) C k6 tw_1009 dX7_replay_64 rfl ?_ 
      exact pv_iret C (by
          have hk : kRpl D n = 0 := by unfold kRpl; rw [if_pos ((pAll_01 62 0).resolve_left (fun z => c_10 (hp.1.trans z)))]
          refine ⟨Or.inr ⟨hk, ?_, ?_, ?_⟩, rfl⟩
          · rw [hD60, up2_nk _ _ _ (by decide), hD57, up2_ne _ _ _ (by decide), hP.1 0 (by decide), hR27]
            show up2 _ 6 3 _ 6 0 = _
            rw [up2_nk _ _ _ (by decide), va_up_ne _ _ (by decide), hR18, up2_self]
          · rw [hD60, up2_nk _ _ _ (by decide), hD57, up2_ne _ _ _ (by decide)]; exact hq.2.2
          · intro i j hij
            unfold m_rpl
            rw [hD60]
            by_cases e6 : i = 6
            · subst e6
              by_cases e9 : j = 9
              · subst e9; rw [up2_self, up2_self]
              · rw [up2_nk _ _ _ e9, up2_nk _ _ _ e9, hD57, up2_ne _ _ _ (by decide), va_up_ne _ _ (by decide), hP.1 j (by omega), hR27]
                show up2 _ 6 3 _ 6 j = up2 _ 6 3 _ 6 j
                by_cases e3 : j = 3
                · subst e3; rw [up2_self, up2_self, hR18]; congr 3; rw [show up2 D2 6 0 0 6 3 = D 6 3 from hO.1 3 (by decide)]; rfl
                · rw [up2_nk _ _ _ e3, up2_nk _ _ _ e3, va_up_ne _ _ (by decide), va_up_ne _ _ (by decide), hR18]
                  show up2 _ 6 0 0 6 j = up2 _ 6 0 0 6 j
                  rw [up2_nk _ _ _ (by omega), up2_nk _ _ _ (by omega)]
                  exact hO.1 j (by omega)
            · rw [up2_ne _ _ _ e6, up2_ne _ _ _ e6, hD57]
              by_cases e7 : i = 7
              · subst e7
                rw [up2_row, va_up_self, hq.1, if_pos (hq.2.1.symm.trans c_46)]
              · rw [up2_ne _ _ _ e7, va_up_ne _ _ e7, hP.2.1 i e6 e7, hR27]
                show up2 _ 6 3 _ i j = up2 _ 6 3 _ i j
                rw [up2_ne _ _ _ e6, up2_ne _ _ _ e6, hR18]
                by_cases e8 : i = 8
                · subst e8
                  rw [va_up_self, va_up_self]
                  show m_book (up2 D2 6 0 0 8) (up2 D2 6 0 0 7) (ix (up2 D2 6 0 0 6 3)) j = m_book (D 8) (D 7) (ix (D 6 3)) j
                  rw [up2_ne _ _ _ (by decide), up2_ne _ _ _ (by decide), up2_nk _ _ _ (by decide), hO.2.1 8 (by decide) (by decide), hO.2.2 rfl, hO.1 3 (by decide)]
                · rw [va_up_ne _ _ e8, va_up_ne _ _ e8]
                  show up2 D2 6 0 0 i j = up2 D 6 0 0 i j
                  rw [up2_ne _ _ _ e6, up2_ne _ _ _ e6, hO.2.1 i e6 e7]) (by decide) (by decide) dX7_replay_67
set_option maxRecDepth 100000 in
set_option maxHeartbeats 4000000 in
theorem c_X6_replay (l : Launch) (X : XT) (D : DT) (P : PT) (hfl : l.stackTraces = false) (M : DT) (W : Nat) (h : RI D P M W) (hW : W + 200 < 2 ^ 29) (n : Nat) (hn60 : n ≤ 60) (hn9 : M 6 9 = nI n)  : XG l X yX6_replay (.code yX6_replay cX6_replay 2 (some .int) :: AW) ({ frames := 6, cells := 1, slots := 6, locals := 216 } : Room) [.ref (X.2.2 0)] (qI X (fun r D' P' => (kRpl M n) = 0 ∧ r = ((rFin (M 12) n (M 7)).2.2) ∧ RI D' P' (m_rpl M n) (W + 130) ∧ FX D D')) (fun e D' P' => (e = eIAE ∧ kRpl M n = 1) ∧ RI D' P' M W ∧ FX D D') D P 1 6 := by
  refine xg_of (by decide +kernel) (Nat.le_of_ble_eq_true rfl) ?_
  intro K hKl hKR C ht0 Z
  have hfl : K.2.1.stackTraces = false := by rw [hKl]; exact hfl
  refine PV_lv (lv' := [some (.ref (X.2.2 0)), none]) rfl ?_
  obtain ⟨⟨G, A, wr, nx, hw, hR, hT, hI, hAM⟩, ⟨s, hs5, hs3, hs0, hsj⟩, hP1, hP2, ⟨hk4, hk01, hkS⟩, n', hn60', hn9', hn1', hnk'⟩ := id h
  obtain rfl : n = n' := nI_inj (by omega) (by omega) (hn9.symm.trans hn9')
  have hn1 := hn1'
  have hnk := hnk'
  refine pv_aload_n (q := 1) C dX6_replay_0 rfl rfl rfl ?_ 
  refine pg_6_5 (q := 4) C k0 tw_208 dX6_replay_1 rfl (fun k1 => ?_) 
  refine pv_callVi (q := 7) C hKl (c_X2_readWhole l X D P n hn1 hn60) tw_236 k1 (by decide) rfl mm_X2_readWhole ⟨rfl, rfl⟩ (by rw [hKR]; exact ⟨Nat.le_of_ble_eq_true rfl, Nat.le_of_ble_eq_true rfl⟩) (by rw [hKR]; exact ⟨Nat.le_of_ble_eq_true rfl, Nat.le_of_ble_eq_true rfl⟩) rfl rfl rfl (Nat.le_of_ble_eq_true rfl) dX6_replay_4 rfl (fun r4 D4 P4 hp4 => ?_) 
  obtain ⟨⟨hrr, ha, hle, hc⟩, rfl⟩ := hp4
  have hRI0 : RI D4 P M W := RI_D h ⟨by rw [hc.1 0 (by decide)], by rw [hc.1 0 (by decide)]⟩ (hc.2 1 (by decide)) (hc.1 3 (by decide)) (fun i hi => hc.1 i (by omega))
  rw [pAll_cong hnk] at hrr
  refine pv_if_ne (q := 10) (tgt := 20) C dX6_replay_7 (by decide) rfl (fun c_7 => ?_) (fun c_7 => ?_) 
  · have hg1 : (pAll (M 12) n 62 0).1 = 1 := (pAll_01 62 0).resolve_left (fun z => c_7 (hrr.trans z))
    refine pv_aload_n (q := 21) C dX6_replay_20 rfl rfl rfl ?_ 
    refine pv_callVv (q := 24) C hKl (c_X6_saveState l X D4 P M W hRI0) tw_649 k0 (by decide) rfl mm_X6_saveState ⟨rfl, rfl⟩ (by rw [hKR]; exact ⟨Nat.le_of_ble_eq_true rfl, Nat.le_of_ble_eq_true rfl⟩) (by rw [hKR]; exact ⟨Nat.le_of_ble_eq_true rfl, Nat.le_of_ble_eq_true rfl⟩) rfl rfl rfl (Nat.le_of_ble_eq_true rfl) dX6_replay_21 rfl (fun D21 P21 hp21 => ?_) 
    obtain ⟨hRI, hF1, hF2⟩ := hp21
    refine pv_aload_n (q := 25) C dX6_replay_24 rfl rfl rfl ?_ 
    refine pg_6_5 (q := 28) C k0 tw_208 dX6_replay_25 rfl (fun k25 => ?_) 
    refine pv_iconst (q := 29) (v := 0) C dX6_replay_28 rfl (by decide) ?_ 
    refine pp_2_2 (q := 32) C k25 tw_174 dX6_replay_29 rfl (fun D29 hD29 => ?_) 
    refine pv_aload_n (q := 33) C dX6_replay_32 rfl rfl rfl ?_ 
    refine pg_6_0 (q := 36) C k0 tw_203 dX6_replay_33 rfl (fun k33 => ?_) 
    refine pv_iconst (q := 37) (v := (-1)) C dX6_replay_36 rfl (by decide) ?_ 
    refine pp_3_7 (q := 40) C k33 tw_145 dX6_replay_37 rfl (fun D37 hD37 => ?_) 
    refine pv_iconst (q := 41) (v := 0) C dX6_replay_40 rfl (by decide) ?_ 
    refine pv_istore_n (q := 42) C dX6_replay_41 rfl rfl (Nat.le_of_ble_eq_true rfl) rfl ?_ 
    have loop_42 : ∀ (nn : Nat) (hh a k sb : Nat) (x : Int32) (r1 : Nat → Int32) (D1 : DT), (64 ≤ 2 * hh + sb + nn) → sb ≤ 1 → hh ≤ 30 → 2 * hh ≤ a + 1 → ctx D1 n a → D1 3 = D 3 → (∀ i, i ≠ 2 → (i < 24 ∨ 63 ≤ i) → D1 i = D21 i) → SB D1 24 (va_up r1 183 x) (W + 2 * hh) → runM (D 3) n (M 7) hh a k sb x r1 → PV K X (XK K X (qI X (fun r D' P' => (kRpl M n) = 0 ∧ r = ((rFin (M 12) n (M 7)).2.2) ∧ RI D' P' (m_rpl M n) (W + 130) ∧ FX D D')) (fun e D' P' => (e = eIAE ∧ kRpl M n = 1) ∧ RI D' P' M W ∧ FX D D') 1 6) (0) (0) 42 [some (.ref (X.2.2 0)), some (.int (nI hh))] [] D1 P21 := by
      intro nn
      induction nn with
      | zero =>
        intro hh a k sb x r1 D1 hfuel hsb hh30 h2a hctx hx3 hfr hSB hmode
        exact absurd hfuel (by omega)
      | succ nn ih =>
        intro hh a k sb x r1 D1 hfuel hsb hh30 h2a hctx hx3 hfr hSB hmode
        obtain ⟨G1, A1, wr1, nx1, hw1, hR1, hT1, hI1, hAM1⟩ := id hSB
        have hx7 : D1 24 7 = x := (hR1.2.2.2.2.2 7 (by omega) (by omega)).trans (va_up_self _ _ _)
        refine pv_iload_n (q := 43) C dX6_replay_42 rfl rfl rfl ?_ 
        refine pv_bipush (q := 45) (v := 60) C dX6_replay_43 rfl (by decide) ?_ 
        refine pv_icmp_geN (q := 48) (tgt := 100) (a := hh) (b := 60) C rfl rfl (by omega) (by omega) dX6_replay_45 (by decide) rfl (fun c_45 => absurd c_45 (by omega)) (fun c_45 => ?_) 
        refine pv_aload_n (q := 49) C dX6_replay_48 rfl rfl rfl ?_ 
        refine pg_6_0 (q := 52) C k0 tw_203 dX6_replay_49 rfl (fun k49 => ?_) 
        refine pg_3_7 (q := 55) C k49 tw_145 dX6_replay_52 rfl ?_ 
        rw [hx7]
        refine pv_iconst (q := 56) (v := (-1)) C dX6_replay_55 rfl (by decide) ?_ 
        refine pv_icmp_ne (q := 59) (tgt := 100) C dX6_replay_56 (by decide) rfl (fun c_56 => ?_) (fun c_56 => ?_) 
        · refine pv_aload_n (q := 101) C dX6_replay_100 rfl rfl rfl ?_
          refine pg_6_5 (q := 104) C k0 tw_208 dX6_replay_101 rfl (fun k101 => ?_) 
          refine pv_iconst (q := 105) (v := 0) C dX6_replay_104 rfl (by decide) ?_ 
          refine pp_2_1 (q := 108) C k101 tw_172 dX6_replay_105 rfl (fun D105 hD105 => ?_) 
          refine pv_iload_n (q := 109) C dX6_replay_108 rfl rfl rfl ?_ 
          exact XK.of (pv_iret C (by
              have hrf2 : rFin (M 12) n (M 7) = (r1, 1, nI hh) := by rw [← rFin_cong hnk]; exact (runM_stop hmode c_56).1
              have hE7 : m_rpl M n 7 = va_up r1 183 x := by
                show va_up (rFin (M 12) n (M 7)).1 183 (if (rFin (M 12) n (M 7)).2.1 = 0 then -1 else (rFin (M 12) n (M 7)).2.2) = _
                rw [hrf2]
                exact congrArg (va_up r1 183) ((runM_stop hmode c_56).2.symm)
              refine ⟨by unfold kRpl; rw [if_pos hg1], by rw [hrf2], RI_rpl hRI (by omega) (by rw [hE7]; exact (SB_cong (hSB) (fun i q1 q2 => by rw [hD105, up2_ne _ _ _ (by omega)]) (fun _ _ => rfl)).W (by omega)) (fun i q1 q2 => by rw [hD105, up2_ne _ _ _ q1]; exact hfr i q1 q2) rfl rfl rfl (by rw [hD105, up2_self]) rfl rfl, fun i q1 q2 => by rw [hD105, up2_ne _ _ _ (by omega)]; exact (hfr i (by omega) (by omega)).trans ((hF1 i (by omega) (by omega)).trans (hc.1 i (by omega)))⟩) (by decide) (by decide) dX6_replay_109)
        · refine pv_aload_n (q := 60) C dX6_replay_59 rfl rfl rfl ?_
          refine pg_6_5 (q := 63) C k0 tw_208 dX6_replay_60 rfl (fun k60 => ?_) 
          refine pv_callVi (q := 66) C hKl (c_X2_readNextPart l X D1 P21 n a hctx) tw_817 k60 (by decide) rfl mm_X2_readNextPart ⟨rfl, rfl⟩ (by rw [hKR]; exact ⟨Nat.le_of_ble_eq_true rfl, Nat.le_of_ble_eq_true rfl⟩) (by rw [hKR]; exact ⟨Nat.le_of_ble_eq_true rfl, Nat.le_of_ble_eq_true rfl⟩) rfl rfl rfl (Nat.le_of_ble_eq_true rfl) dX6_replay_63 rfl (fun r63 D63 P63 hp63 => ?_) 
          rcases hp63 with ⟨⟨hC, a2, ha2, ea2, ⟨p, b, hQ, hb, rfl, hat, hkd, hnm, hgp, hxm, hcu⟩ | ⟨b, hQ, hb, rfl, hat, hcu⟩⟩ | ⟨hC, rfl, hcu⟩, rfl⟩
          · rw [hx3] at hQ hC
            obtain ⟨n1, n2, n3, n4⟩ := runM_next hmode c_56 hh30 hC ea2 (Or.inr trivial)
            have ok := pPart_ok (f := D 3) (n := n) ha2
            rw [hQ] at ok
            obtain ⟨hab, hpk⟩ := ok.2.2 p rfl
            dsimp only at hab
            have hSB' : SB D63 24 (va_up r1 183 x) (W + 2 * hh) := SB_cong hSB (fun i q1 q2 => hcu.1 i (by omega)) (fun _ _ => rfl)
            refine pv_if_eq (q := 69) (tgt := 100) C dX6_replay_66 (by decide) rfl (fun h => absurd h (by decide)) (fun _ => ?_) 
            refine pv_aload_n (q := 70) C dX6_replay_69 rfl rfl rfl ?_ 
            refine pg_6_0 (q := 73) C k0 tw_203 dX6_replay_70 rfl (fun k70 => ?_) 
            refine pv_aload_n (q := 74) C dX6_replay_73 rfl rfl rfl ?_ 
            refine pg_6_5 (q := 77) C k0 tw_208 dX6_replay_74 rfl (fun k74 => ?_) 
            refine pv_callVi (q := 80) C hKl (c_X3_letHappen l X D63 P21 24 (W + 2 * hh) kS24 (va_up r1 183 x) hSB' (by omega) p hpk hkd hnm hgp hxm (pPart_z (by rw [hQ]))) tw_821 k70 (by decide) rfl mm_X3_letHappen ⟨rfl, rfl⟩ (by rw [hKR]; exact ⟨Nat.le_of_ble_eq_true rfl, Nat.le_of_ble_eq_true rfl⟩) (by rw [hKR]; exact ⟨Nat.le_of_ble_eq_true rfl, Nat.le_of_ble_eq_true rfl⟩) rfl rfl rfl (Nat.le_of_ble_eq_true rfl) dX6_replay_77 rfl (fun r77 D77 P77 hp77 => ?_) 
            rcases hp77 with ⟨⟨hcan, rfl, s1, s2⟩ | ⟨hcan, rfl, hE⟩, rfl⟩
            · rw [(eqx_st r1 x).can hpk] at hcan
              refine pv_if_eq (q := 83) (tgt := 89) C dX6_replay_80 (by decide) rfl (fun h => absurd h (by decide)) (fun _ => ?_) 
              refine pv_iinc (q := 86) (v := nI (hh + 1)) C dX6_replay_83 rfl rfl (nI_add _ _) rfl ?_ 
              refine pv_goto (tgt := 42) C dX6_replay_86 (by decide) ?_ 
              exact ih (hh + 1) b (k - 1) 0 (-1) (goP r1 p) D77 (by omega) (by omega) (by have := hb; have := hctx.2.1; rw [ea2] at hab; split at hab <;> omega) (by rw [ea2] at hab; split at hab <;> omega) ⟨by rw [s1 2 (by omega), hcu.2 1 (by decide)]; exact hctx.1, hn60, by rw [s1 2 (by omega)]; exact hat, hb⟩ (by rw [s1 3 (by omega), hcu.1 3 (by decide)]; exact hx3) (fun i q1 q2 => by rw [s1 i (by omega), hcu.1 i q1]; exact hfr i q1 q2) (by rw [go_st hpk, ← c_56]; exact s2.W (by omega)) (runM_go hb hab hQ n1 n2 n3 hcan)
            · rw [(eqx_st r1 x).can hpk] at hcan
              refine pv_if_eq (q := 83) (tgt := 89) C dX6_replay_80 (by decide) rfl (fun _ => ?_) (fun h => absurd h (by decide)) 
              refine pv_aload_n (q := 90) C dX6_replay_89 rfl rfl rfl ?_ 
              refine pg_6_0 (q := 93) C k0 tw_203 dX6_replay_90 rfl (fun k90 => ?_) 
              refine pv_iload_n (q := 94) C dX6_replay_93 rfl rfl rfl ?_ 
              refine pp_3_7 (q := 97) C k90 tw_145 dX6_replay_94 rfl (fun D94 hD94 => ?_) 
              refine pv_goto (tgt := 42) C dX6_replay_97 (by decide) ?_ 
              exact ih hh b k 1 (nI hh) r1 D94 (by omega) (by omega) hh30 (by rw [ea2] at hab; split at hab <;> omega) ⟨by rw [hD94, hE, up2_ne _ _ _ (by decide), hcu.2 1 (by decide)]; exact hctx.1, hn60, by rw [hD94, hE, up2_ne _ _ _ (by decide)]; exact hat, hb⟩ (by rw [hD94, hE, up2_ne _ _ _ (by decide), hcu.1 3 (by decide)]; exact hx3) (fun i q1 q2 => by rw [hD94, hE, up2_ne _ _ _ (by omega), hcu.1 i q1]; exact hfr i q1 q2) (by have z := SB_stop (x := nI hh) hSB'; rw [va_up_up] at z; rw [hD94, hE]; exact z) (runM_no hQ n2 hcan)
          · rw [hx3] at hQ hC
            obtain ⟨n1, n2, n3, n4⟩ := runM_next hmode c_56 hh30 hC ea2 (Or.inr trivial)
            refine pv_if_eq (q := 69) (tgt := 100) C dX6_replay_66 (by decide) rfl (fun _ => ?_) (fun h => absurd h (by decide)) 
            refine pv_aload_n (q := 101) C dX6_replay_100 rfl rfl rfl ?_ 
            refine pg_6_5 (q := 104) C k0 tw_208 dX6_replay_101 rfl (fun k101 => ?_) 
            refine pv_iconst (q := 105) (v := 0) C dX6_replay_104 rfl (by decide) ?_ 
            refine pp_2_1 (q := 108) C k101 tw_172 dX6_replay_105 rfl (fun D105 hD105 => ?_) 
            refine pv_iload_n (q := 109) C dX6_replay_108 rfl rfl rfl ?_ 
            exact XK.of (pv_iret C (absurd (pAll_none hQ n3) id) (by decide) (by decide) dX6_replay_109)
          · rw [hx3] at hC
            have hrf := runM_fin hmode c_56 hh30 hC
            have hSB' : SB D63 24 (va_up r1 183 x) (W + 2 * hh) := SB_cong hSB (fun i q1 q2 => hcu.1 i (by omega)) (fun _ _ => rfl)
            refine pv_if_eq (q := 69) (tgt := 100) C dX6_replay_66 (by decide) rfl (fun _ => ?_) (fun h => absurd h (by decide)) 
            refine pv_aload_n (q := 101) C dX6_replay_100 rfl rfl rfl ?_ 
            refine pg_6_5 (q := 104) C k0 tw_208 dX6_replay_101 rfl (fun k101 => ?_) 
            refine pv_iconst (q := 105) (v := 0) C dX6_replay_104 rfl (by decide) ?_ 
            refine pp_2_1 (q := 108) C k101 tw_172 dX6_replay_105 rfl (fun D105 hD105 => ?_) 
            refine pv_iload_n (q := 109) C dX6_replay_108 rfl rfl rfl ?_ 
            exact XK.of (pv_iret C (by
                have hrf2 : rFin (M 12) n (M 7) = (r1, 0, nI hh) := by rw [← rFin_cong hnk]; exact hrf
                have hE7 : m_rpl M n 7 = va_up r1 183 x := by
                  show va_up (rFin (M 12) n (M 7)).1 183 (if (rFin (M 12) n (M 7)).2.1 = 0 then -1 else (rFin (M 12) n (M 7)).2.2) = _
                  rw [hrf2]
                  exact congrArg (va_up r1 183) (c_56.symm)
                refine ⟨by unfold kRpl; rw [if_pos hg1], by rw [hrf2], RI_rpl hRI (by omega) (by rw [hE7]; exact (SB_cong (hSB') (fun i q1 q2 => by rw [hD105, up2_ne _ _ _ (by omega)]) (fun _ _ => rfl)).W (by omega)) (fun i q1 q2 => by rw [hD105, up2_ne _ _ _ q1]; exact (hcu.1 i q1).trans (hfr i q1 q2)) rfl rfl rfl (by rw [hD105, up2_self]) rfl rfl, fun i q1 q2 => by rw [hD105, up2_ne _ _ _ (by omega)]; exact (hcu.1 i (by omega)).trans ((hfr i (by omega) (by omega)).trans ((hF1 i (by omega) (by omega)).trans (hc.1 i (by omega))))⟩) (by decide) (by decide) dX6_replay_109)
    exact loop_42 64 0 0 61 0 (-1) (M 7) D37 (by omega) (by omega) (by omega) (by omega) ⟨by rw [hD37, hD29, up2_ne _ _ _ (by decide), up2_nk _ _ _ (by decide), hF1 2 (by decide) (by decide), hc.2 1 (by decide)]; exact hn1, hn60, by rw [hD37, hD29, up2_ne _ _ _ (by decide), up2_self]; rfl, by omega⟩ (by rw [hD37, hD29, up2_ne _ _ _ (by decide), up2_ne _ _ _ (by decide), hF1 3 (by decide) (by decide), hc.1 3 (by decide)]) (fun i q1 q2 => by rw [hD37, hD29, up2_ne _ _ _ (by omega), up2_ne _ _ _ q1]) (by rw [hD37]; exact SB_stop (SB_cong (row := M 7) (W := W + 2 * 0) hRI.1 (fun i q1 q2 => by rw [hD29, up2_ne _ _ _ (by omega)]) (fun _ _ => rfl))) (Or.inl ⟨rfl, rfl, Or.inr ⟨Or.inl rfl, by rw [if_pos rfl]; omega, by rw [if_pos rfl]; rfl, by rw [if_pos rfl, pAll_cong hnk]; exact hg1⟩⟩)
  · exact pv_throwIAE (text := "the buffer is not a complete log") C Z ht0 hfl (by decide +kernel) (⟨⟨rfl, by unfold kRpl; rw [if_neg (fun z => absurd ((hrr.trans z).symm.trans c_7) (by decide))]⟩, hRI0, fun i q1 q2 => hc.1 i (by omega)⟩) rfl (by rw [hKR]; exact ⟨Nat.le_of_ble_eq_true rfl, Nat.le_of_ble_eq_true rfl⟩) (by rw [hKR]; first | exact ⟨Nat.le_of_ble_eq_true rfl, Nat.le_of_ble_eq_true rfl⟩ | (constructor <;> (dsimp only; omega))) ⟨by omega, by omega⟩ dX6_replay_10 dX6_replay_13 dX6_replay_14 dX6_replay_16 dX6_replay_19
