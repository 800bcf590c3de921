set_option maxRecDepth 100000 in
set_option maxHeartbeats 4000000 in
theorem c_X6_insert (l : Launch) (X : XT) (D : DT) (P : PT) (hfl : l.stackTraces = false) (M : DT) (W : Nat) (h : RI D P M W) (hW : W + 200 < 2 ^ 29) (place group amount : Int32) : XG l X yX6_insert (.code yX6_insert cX6_insert 4 (some .int) :: AW) ({ frames := 7, cells := 4, slots := 24, locals := 252 } : Room) [.ref (X.2.2 0), .int place, .int group, .int amount] (qI X (fun r D' P' => (kIns (M 7) place group amount) = 0 ∧ r = (nI (tk (m_ins (M 7) (ix place) group amount))) ∧ RI D' P' (va_up (m_save (clr M)) 7 (m_ins (M 7) (ix place) group amount)) (W + 130) ∧ FX D D')) (fun e D' P' => ((e = eIOE ∧ (kIns (M 7) place group amount) = 1) ∨ (e = eIAE ∧ (kIns (M 7) place group amount) = 2) ∨ (e = eISE ∧ (kIns (M 7) place group amount) = 3)) ∧ Fs D D' ∧ P = P') D P 4 24 := by
  refine xg_of (by decide +kernel) (Nat.le_of_ble_eq_true rfl) ?_
  intro K hKl hKR C ht0 Z
  have hfl : K.2.1.stackTraces = false := by rw [hKl]; exact hfl
  refine PV_lv (lv' := [some (.ref (X.2.2 0)), some (.int place), some (.int group), some (.int amount)]) rfl ?_
  obtain ⟨⟨G, A, wr, nx, hw, hR, hT, hI, hAM⟩, ⟨s, hs5, hs3, hs0, hsj⟩, hP1, hP2, ⟨hk4, hk01, hkS⟩, n, hn60, hn9, hn1, hnk⟩ := id h
  refine pv_iload_n (q := 1) C dX6_insert_0 rfl rfl rfl ?_ 
  refine pv_callSvx (q := 4) C Z ht0 hKl (c_X6_requirePlace l X D P (hKl ▸ hfl) _) tw_413 mm_X6_requirePlace ⟨rfl, rfl⟩ (by rw [hKR]; exact ⟨Nat.le_of_ble_eq_true rfl, Nat.le_of_ble_eq_true rfl⟩) (by rw [hKR]; exact ⟨by first | exact Nat.le_of_ble_eq_true rfl | (dsimp only; omega), by first | exact Nat.le_of_ble_eq_true rfl | (dsimp only; omega)⟩) rfl rfl rfl (Nat.le_of_ble_eq_true rfl) dX6_insert_1 rfl (fun e D1 P1 hx => ⟨Or.inl (⟨hx.1, by unfold kIns; rw [if_neg (fun z => hx.2.1 z.1)]⟩), hx.2.2.1 ▸ Fs_rf _, hx.2.2.2⟩) (by first | omega | exact ⟨by omega, by omega⟩) (fun D1 P1 hp1 => ?_) 
  obtain ⟨hy1, rfl, rfl⟩ := hp1
  obtain ⟨p, hp, rfl⟩ := rg16 hy1
  refine pv_iload_n (q := 5) C dX6_insert_4 rfl rfl rfl ?_ 
  refine pv_callSvx (q := 8) C Z ht0 hKl (c_X6_requireGroup l X D P (hKl ▸ hfl) _) tw_561 mm_X6_requireGroup ⟨rfl, rfl⟩ (by rw [hKR]; exact ⟨Nat.le_of_ble_eq_true rfl, Nat.le_of_ble_eq_true rfl⟩) (by rw [hKR]; exact ⟨by first | exact Nat.le_of_ble_eq_true rfl | (dsimp only; omega), by first | exact Nat.le_of_ble_eq_true rfl | (dsimp only; omega)⟩) rfl rfl rfl (Nat.le_of_ble_eq_true rfl) dX6_insert_5 rfl (fun e D1 P1 hx => ⟨Or.inl (⟨hx.1, by unfold kIns; rw [if_neg (fun z => hx.2.1 z.2)]⟩), hx.2.2.1 ▸ Fs_rf _, hx.2.2.2⟩) (by first | omega | exact ⟨by omega, by omega⟩) (fun D5 P5 hp5 => ?_) 
  obtain ⟨hy5, rfl, rfl⟩ := hp5
  obtain ⟨j, hj, rfl⟩ := rg4 hy5
  refine pv_iload_n (q := 9) C dX6_insert_8 rfl rfl rfl ?_ 
  refine pv_callSvx (q := 12) C Z ht0 hKl (c_X6_requireAmount l X D P (hKl ▸ hfl) _) tw_607 mm_X6_requireAmount ⟨rfl, rfl⟩ (by rw [hKR]; exact ⟨Nat.le_of_ble_eq_true rfl, Nat.le_of_ble_eq_true rfl⟩) (by rw [hKR]; exact ⟨by first | exact Nat.le_of_ble_eq_true rfl | (dsimp only; omega), by first | exact Nat.le_of_ble_eq_true rfl | (dsimp only; omega)⟩) rfl rfl rfl (Nat.le_of_ble_eq_true rfl) dX6_insert_9 rfl (fun e D1 P1 hx => ⟨Or.inr (Or.inl (⟨hx.1, by unfold kIns; rw [if_pos ⟨hy1, hy5⟩, if_neg hx.2.1]⟩)), hx.2.2.1 ▸ Fs_rf _, hx.2.2.2⟩) (by first | omega | exact ⟨by omega, by omega⟩) (fun D9 P9 hp9 => ?_) 
  obtain ⟨hy9, rfl, rfl⟩ := hp9
  refine pv_aload_n (q := 13) C dX6_insert_12 rfl rfl rfl ?_ 
  refine pg_6_0 (q := 16) C k0 tw_201 dX6_insert_13 rfl (fun k13 => ?_) 
  refine pg_3_0 (q := 19) C k13 tw_129 dX6_insert_16 rfl (fun k16 => ?_) 
  refine pv_iload_n (q := 20) C dX6_insert_19 rfl rfl rfl ?_ 
  refine pv_callVi (q := 23) C hKl (c_X4_freeAt l X D P (24 + 1) (by assumption) _) tw_432 k16 (by decide) rfl mm_X4_freeAt ⟨rfl, rfl⟩ (by rw [hKR]; exact ⟨Nat.le_of_ble_eq_true rfl, Nat.le_of_ble_eq_true rfl⟩) (by rw [hKR]; exact ⟨by first | exact Nat.le_of_ble_eq_true rfl | (dsimp only; omega), by first | exact Nat.le_of_ble_eq_true rfl | (dsimp only; omega)⟩) rfl rfl rfl (Nat.le_of_ble_eq_true rfl) dX6_insert_20 rfl (fun r20 D20 P20 hp20 => ?_) 
  rcases hp20 with ⟨⟨⟨q0, hq0, eq0, hne⟩, rfl⟩ | ⟨hfr, rfl⟩, rfl, rfl⟩
  · have hocc : ¬ M 7 p = 0 := fun z => by
      have := nI_inj (by omega) (by omega) eq0
      subst this
      exact hne ((free_iff hT hp).mpr z p hp rfl)
    refine pv_if_ne (q := 26) (tgt := 36) C dX6_insert_23 (by decide) rfl (fun h => absurd h (by decide)) (fun _ => ?_) 
    exact pv_throwISE (text := "the place is not free") C Z ht0 hfl (by decide +kernel) (⟨Or.inr (Or.inr ⟨rfl, by unfold kIns; rw [if_pos ⟨hy1, hy5⟩, if_pos hy9, ix_n (by omega), if_neg hocc]⟩), Fs_rf D, rfl⟩) rfl (by rw [hKR]; exact ⟨Nat.le_of_ble_eq_true rfl, Nat.le_of_ble_eq_true rfl⟩) (by rw [hKR]; first | exact ⟨Nat.le_of_ble_eq_true rfl, Nat.le_of_ble_eq_true rfl⟩ | (constructor <;> (dsimp only; omega))) ⟨by omega, by omega⟩ dX6_insert_26 dX6_insert_29 dX6_insert_30 dX6_insert_32 dX6_insert_35
  · have hfree : M 7 p = 0 := (free_iff hT hp).mp hfr
    refine pv_if_ne (q := 26) (tgt := 36) C dX6_insert_23 (by decide) rfl (fun _ => ?_) (fun h => absurd h (by decide)) 
    refine pv_aload_n (q := 37) C dX6_insert_36 rfl rfl rfl ?_ 
    refine pv_callVv (q := 40) C hKl (c_X6_saveState l X D P M W h) tw_344 k0 (by decide) rfl mm_X6_saveState ⟨rfl, rfl⟩ (by rw [hKR]; exact ⟨Nat.le_of_ble_eq_true rfl, Nat.le_of_ble_eq_true rfl⟩) (by rw [hKR]; exact ⟨by first | exact Nat.le_of_ble_eq_true rfl | (dsimp only; omega), by first | exact Nat.le_of_ble_eq_true rfl | (dsimp only; omega)⟩) rfl rfl rfl (Nat.le_of_ble_eq_true rfl) dX6_insert_37 rfl (fun D37 P37 hp37 => ?_) 
    obtain ⟨hRI, hF1, hF2⟩ := hp37
    obtain ⟨G, A, wr, nx, hw, hR, hT, hI, hAM⟩ : SB D37 24 (M 7) W := hRI.1
    have hfl : fl (M 7) := h.1.fl
    have hdl : dl (M 7) 2 := h.1.dl (by omega)
    refine pv_aload_n (q := 41) C dX6_insert_40 rfl rfl rfl ?_ 
    refine pg_6_0 (q := 44) C k0 tw_201 dX6_insert_41 rfl (fun k41 => ?_) 
    refine pv_iload_n (q := 45) C dX6_insert_44 rfl rfl rfl ?_ 
    refine pv_iload_n (q := 46) C dX6_insert_45 rfl rfl rfl ?_ 
    refine pv_iload_n (q := 47) C dX6_insert_46 rfl rfl rfl ?_ 
    refine pv_callVv (q := 50) C hKl (c_X3_addRow l X D37 P37 24 kS24 (M 7) G A wr nx hR hT (TI_nx hR hI) (by omega) p hp j hj amount hfree) tw_627 k41 (by decide) rfl mm_X3_addRow ⟨rfl, rfl⟩ (by rw [hKR]; exact ⟨Nat.le_of_ble_eq_true rfl, Nat.le_of_ble_eq_true rfl⟩) (by rw [hKR]; exact ⟨by first | exact Nat.le_of_ble_eq_true rfl | (dsimp only; omega), by first | exact Nat.le_of_ble_eq_true rfl | (dsimp only; omega)⟩) rfl rfl rfl (Nat.le_of_ble_eq_true rfl) dX6_insert_47 rfl (fun D47 P47 hp47 => ?_) 
    obtain ⟨s1, s2, s3, rfl⟩ := hp47
    have hRI2 := SB_ri (M := M) (D2 := D47) (row := m_ins (M 7) p (nI j) amount) hRI (by
          have hgo := And.intro (TI_go hI ⟨hfl, hdl⟩ (show pOK (105, p, nI j, amount) from Or.inl ⟨Or.inl rfl, hp, fun _ => hy5, fun _ => hy9⟩)) (AM_go hAM ⟨hfl, hdl⟩ (show pOK (105, p, nI j, amount) from Or.inl ⟨Or.inl rfl, hp, fun _ => hy5, fun _ => hy9⟩))
          rw [go_i] at hgo
          obtain ⟨G', A', nx', hR'⟩ := s2
          exact ⟨G', A', _, nx', by omega, hR', s3, hgo⟩) (fun i hi => s1 i (by omega))
    refine pv_aload_n (q := 51) C dX6_insert_50 rfl rfl rfl ?_ 
    refine pg_6_0 (q := 54) C k0 tw_201 dX6_insert_51 rfl (fun k51 => ?_) 
    refine pg_3_0 (q := 57) C k51 tw_129 dX6_insert_54 rfl (fun k54 => ?_) 
    refine pv_callVi (q := 60) C hKl (c_X4_countRows l X D47 P37 (24 + 1) (by assumption)) tw_255 k54 (by decide) rfl mm_X4_countRows ⟨rfl, rfl⟩ (by rw [hKR]; exact ⟨Nat.le_of_ble_eq_true rfl, Nat.le_of_ble_eq_true rfl⟩) (by rw [hKR]; exact ⟨by first | exact Nat.le_of_ble_eq_true rfl | (dsimp only; omega), by first | exact Nat.le_of_ble_eq_true rfl | (dsimp only; omega)⟩) rfl rfl rfl (Nat.le_of_ble_eq_true rfl) dX6_insert_57 rfl (fun r57 D57 P57 hp57 => ?_) 
    obtain ⟨rfl, rfl, rfl⟩ := hp57
    exact XK.of (pv_iret C (⟨by unfold kIns; rw [if_pos ⟨hy1, hy5⟩, if_pos hy9, ix_n (by omega), if_pos hfree], by rw [ix_n (by omega)]; exact congrArg nI (TR_tk s3), by rw [ix_n (by omega)]; exact hRI2, fun i a b => by rw [s1 i (by omega), hF1 i (by omega) (by omega)]⟩) (by decide) (by decide) dX6_insert_60)
set_option maxRecDepth 100000 in
set_option maxHeartbeats 4000000 in
theorem c_X6_change (l : Launch) (X : XT) (D : DT) (P : PT) (hfl : l.stackTraces = false) (M : DT) (W : Nat) (h : RI D P M W) (hW : W + 200 < 2 ^ 29) (place amount : Int32) : XG l X yX6_change (.code yX6_change cX6_change 4 (some .int) :: AW) ({ frames := 7, cells := 4, slots := 24, locals := 252 } : Room) [.ref (X.2.2 0), .int place, .int amount] (qI X (fun r D' P' => (kChg (M 7) place amount) = 0 ∧ r = (M 7 (16 + ix place)) ∧ RI D' P' (va_up (m_save (clr M)) 7 (m_rep (M 7) (ix place) (M 7 (ix place)) amount)) (W + 130) ∧ FX D D')) (fun e D' P' => ((e = eIOE ∧ (kChg (M 7) place amount) = 1) ∨ (e = eIAE ∧ (kChg (M 7) place amount) = 2) ∨ (e = eISE ∧ (kChg (M 7) place amount) = 3)) ∧ Fs D D' ∧ P = P') D P 4 24 := by
  refine xg_of (by decide +kernel) (Nat.le_of_ble_eq_true rfl) ?_
  intro K hKl hKR C ht0 Z
  have hfl : K.2.1.stackTraces = false := by rw [hKl]; exact hfl
  refine PV_lv (lv' := [some (.ref (X.2.2 0)), some (.int place), some (.int amount), none]) rfl ?_
  obtain ⟨⟨G, A, wr, nx, hw, hR, hT, hI, hAM⟩, ⟨s, hs5, hs3, hs0, hsj⟩, hP1, hP2, ⟨hk4, hk01, hkS⟩, n, hn60, hn9, hn1, hnk⟩ := id h
  refine pv_iload_n (q := 1) C dX6_change_0 rfl rfl rfl ?_ 
  refine pv_callSvx (q := 4) C Z ht0 hKl (c_X6_requirePlace l X D P (hKl ▸ hfl) _) tw_413 mm_X6_requirePlace ⟨rfl, rfl⟩ (by rw [hKR]; exact ⟨Nat.le_of_ble_eq_true rfl, Nat.le_of_ble_eq_true rfl⟩) (by rw [hKR]; exact ⟨by first | exact Nat.le_of_ble_eq_true rfl | (dsimp only; omega), by first | exact Nat.le_of_ble_eq_true rfl | (dsimp only; omega)⟩) rfl rfl rfl (Nat.le_of_ble_eq_true rfl) dX6_change_1 rfl (fun e D1 P1 hx => ⟨Or.inl (⟨hx.1, by unfold kChg; rw [if_neg hx.2.1]⟩), hx.2.2.1 ▸ Fs_rf _, hx.2.2.2⟩) (by first | omega | exact ⟨by omega, by omega⟩) (fun D1 P1 hp1 => ?_) 
  obtain ⟨hy1, rfl, rfl⟩ := hp1
  obtain ⟨p, hp, rfl⟩ := rg16 hy1
  refine pv_iload_n (q := 5) C dX6_change_4 rfl rfl rfl ?_ 
  refine pv_callSvx (q := 8) C Z ht0 hKl (c_X6_requireAmount l X D P (hKl ▸ hfl) _) tw_607 mm_X6_requireAmount ⟨rfl, rfl⟩ (by rw [hKR]; exact ⟨Nat.le_of_ble_eq_true rfl, Nat.le_of_ble_eq_true rfl⟩) (by rw [hKR]; exact ⟨by first | exact Nat.le_of_ble_eq_true rfl | (dsimp only; omega), by first | exact Nat.le_of_ble_eq_true rfl | (dsimp only; omega)⟩) rfl rfl rfl (Nat.le_of_ble_eq_true rfl) dX6_change_5 rfl (fun e D1 P1 hx => ⟨Or.inr (Or.inl (⟨hx.1, by unfold kChg; rw [if_pos hy1, if_neg hx.2.1]⟩)), hx.2.2.1 ▸ Fs_rf _, hx.2.2.2⟩) (by first | omega | exact ⟨by omega, by omega⟩) (fun D5 P5 hp5 => ?_) 
  obtain ⟨hy5, rfl, rfl⟩ := hp5
  refine pv_aload_n (q := 9) C dX6_change_8 rfl rfl rfl ?_ 
  refine pv_iload_n (q := 10) C dX6_change_9 rfl rfl rfl ?_ 
  refine pv_callVvx (q := 13) C Z ht0 hKl (c_X6_requireRow l X D P (hKl ▸ hfl) M W h p hp) tw_443 k0 (by decide) rfl mm_X6_requireRow ⟨rfl, rfl⟩ (by rw [hKR]; exact ⟨Nat.le_of_ble_eq_true rfl, Nat.le_of_ble_eq_true rfl⟩) (by rw [hKR]; exact ⟨by first | exact Nat.le_of_ble_eq_true rfl | (dsimp only; omega), by first | exact Nat.le_of_ble_eq_true rfl | (dsimp only; omega)⟩) rfl rfl rfl (Nat.le_of_ble_eq_true rfl) dX6_change_10 rfl (fun e D1 P1 hx => ⟨Or.inr (Or.inr (⟨hx.1, by unfold kChg; rw [if_pos hy1, if_pos hy5, ix_n (by omega), if_pos hx.2.1]⟩)), hx.2.2.1 ▸ Fs_rf _, hx.2.2.2⟩) (by first | omega | exact ⟨by omega, by omega⟩) (fun D10 P10 hp10 => ?_) 
  obtain ⟨hrw, rfl, rfl⟩ := hp10
  refine pv_aload_n (q := 14) C dX6_change_13 rfl rfl rfl ?_ 
  refine pv_callVv (q := 17) C hKl (c_X6_saveState l X D P M W h) tw_344 k0 (by decide) rfl mm_X6_saveState ⟨rfl, rfl⟩ (by rw [hKR]; exact ⟨Nat.le_of_ble_eq_true rfl, Nat.le_of_ble_eq_true rfl⟩) (by rw [hKR]; exact ⟨by first | exact Nat.le_of_ble_eq_true rfl | (dsimp only; omega), by first | exact Nat.le_of_ble_eq_true rfl | (dsimp only; omega)⟩) rfl rfl rfl (Nat.le_of_ble_eq_true rfl) dX6_change_14 rfl (fun D14 P14 hp14 => ?_) 
  obtain ⟨hRI, hF1, hF2⟩ := hp14
  obtain ⟨G, A, wr, nx, hw, hR, hT, hI, hAM⟩ : SB D14 24 (M 7) W := hRI.1
  have hfl : fl (M 7) := h.1.fl
  have hdl : dl (M 7) 2 := h.1.dl (by omega)
  obtain ⟨kg, hkg, ekg⟩ := (hR.2.2.2.1 p hp).2.2
  have hk1 : 1 ≤ kg := i32_z hkg (by rw [← ekg]; exact hrw)
  have eg0 : M 7 p - 1 = nI (kg - 1) := by rw [ekg, show (1 : Int32) = nI 1 from rfl, pk_sub hk1]
  refine pv_aload_n (q := 18) C dX6_change_17 rfl rfl rfl ?_ 
  refine pg_6_0 (q := 21) C k0 tw_201 dX6_change_18 rfl (fun k18 => ?_) 
  refine pg_3_0 (q := 24) C k18 tw_129 dX6_change_21 rfl (fun k21 => ?_) 
  refine pg_4_1 (q := 27) C k21 tw_42 dX6_change_24 rfl (fun k24 => ?_) 
  refine pv_iload_n (q := 28) C dX6_change_27 rfl rfl rfl ?_ 
  refine pv_iald (q := 29) (j := p) C (iln_9 k24) rfl hp dX6_change_28 rfl ?_ 
  rw [(hT p hp).2 hrw]
  refine pv_istore_n (q := 30) C dX6_change_29 rfl rfl (Nat.le_of_ble_eq_true rfl) rfl ?_ 
  refine pv_aload_n (q := 31) C dX6_change_30 rfl rfl rfl ?_ 
  refine pg_6_0 (q := 34) C k0 tw_201 dX6_change_31 rfl (fun k31 => ?_) 
  refine pv_iload_n (q := 35) C dX6_change_34 rfl rfl rfl ?_ 
  refine pv_aload_n (q := 36) C dX6_change_35 rfl rfl rfl ?_ 
  refine pg_6_0 (q := 39) C k0 tw_201 dX6_change_36 rfl (fun k36 => ?_) 
  refine pg_3_0 (q := 42) C k36 tw_129 dX6_change_39 rfl (fun k39 => ?_) 
  refine pg_4_0 (q := 45) C k39 tw_39 dX6_change_42 rfl (fun k42 => ?_) 
  refine pv_iload_n (q := 46) C dX6_change_45 rfl rfl rfl ?_ 
  refine pv_iald (q := 47) (j := p) C (iln_9 k42) rfl hp dX6_change_46 rfl ?_ 
  rw [(hT p hp).1, eg0]
  refine pv_iload_n (q := 48) C dX6_change_47 rfl rfl rfl ?_ 
  refine pv_callVv (q := 51) C hKl (c_X3_replaceRow l X D14 P14 24 kS24 (M 7) G A wr nx hR hT (TI_nx hR hI) (by omega) p hp (kg - 1) (by omega) amount hrw) tw_663 k31 (by decide) rfl mm_X3_replaceRow ⟨rfl, rfl⟩ (by rw [hKR]; exact ⟨Nat.le_of_ble_eq_true rfl, Nat.le_of_ble_eq_true rfl⟩) (by rw [hKR]; exact ⟨by first | exact Nat.le_of_ble_eq_true rfl | (dsimp only; omega), by first | exact Nat.le_of_ble_eq_true rfl | (dsimp only; omega)⟩) rfl rfl rfl (Nat.le_of_ble_eq_true rfl) dX6_change_48 rfl (fun D48 P48 hp48 => ?_) 
  obtain ⟨s1, s2, s3, rfl⟩ := hp48
  rw [show nI (kg - 1) + 1 = M 7 p by rw [← eg0, Int32.sub_add_cancel]] at s2 s3
  have hRI2 := SB_ri (M := M) (D2 := D48) (row := m_rep (M 7) p (M 7 p) amount) hRI (by
        have hgo := And.intro (TI_go hI ⟨hfl, hdl⟩ (show pOK (117, p, 0, amount) from Or.inl ⟨Or.inr (Or.inr (Or.inl rfl)), hp, fun z => by dsimp only at z; rcases z with z | z <;> exact absurd z (by decide), fun _ => hy5⟩)) (AM_go hAM ⟨hfl, hdl⟩ (show pOK (117, p, 0, amount) from Or.inl ⟨Or.inr (Or.inr (Or.inl rfl)), hp, fun z => by dsimp only at z; rcases z with z | z <;> exact absurd z (by decide), fun _ => hy5⟩))
        rw [go_u] at hgo
        obtain ⟨G', A', nx', hR'⟩ := s2
        exact ⟨G', A', _, nx', by omega, hR', s3, hgo⟩) (fun i hi => s1 i (by omega))
  refine pv_iload_n (q := 52) C dX6_change_51 rfl rfl rfl ?_ 
  exact XK.of (pv_iret C (⟨by unfold kChg; rw [if_pos hy1, if_pos hy5, ix_n (by omega), if_neg hrw], by rw [ix_n (by omega)], by rw [ix_n (by omega)]; exact hRI2, fun i a b => by rw [s1 i (by omega), hF1 i (by omega) (by omega)]⟩) (by decide) (by decide) dX6_change_52)
set_option maxRecDepth 100000 in
set_option maxHeartbeats 4000000 in
theorem c_X6_regroup (l : Launch) (X : XT) (D : DT) (P : PT) (hfl : l.stackTraces = false) (M : DT) (W : Nat) (h : RI D P M W) (hW : W + 200 < 2 ^ 29) (place group : Int32) : XG l X yX6_regroup (.code yX6_regroup cX6_regroup 4 (some .int) :: AW) ({ frames := 7, cells := 4, slots := 24, locals := 252 } : Room) [.ref (X.2.2 0), .int place, .int group] (qI X (fun r D' P' => (kReg (M 7) place group) = 0 ∧ r = (M 7 (ix place) - 1) ∧ RI D' P' (va_up (m_save (clr M)) 7 (m_rep (M 7) (ix place) (group + 1) (M 7 (16 + ix place)))) (W + 130) ∧ FX D D')) (fun e D' P' => ((e = eIOE ∧ (kReg (M 7) place group) = 1) ∨ (e = eISE ∧ (kReg (M 7) place group) = 2)) ∧ Fs D D' ∧ P = P') D P 4 24 := by
  refine xg_of (by decide +kernel) (Nat.le_of_ble_eq_true rfl) ?_
  intro K hKl hKR C ht0 Z
  have hfl : K.2.1.stackTraces = false := by rw [hKl]; exact hfl
  refine PV_lv (lv' := [some (.ref (X.2.2 0)), some (.int place), some (.int group), none]) rfl ?_
  obtain ⟨⟨G, A, wr, nx, hw, hR, hT, hI, hAM⟩, ⟨s, hs5, hs3, hs0, hsj⟩, hP1, hP2, ⟨hk4, hk01, hkS⟩, n, hn60, hn9, hn1, hnk⟩ := id h
  refine pv_iload_n (q := 1) C dX6_regroup_0 rfl rfl rfl ?_ 
  refine pv_callSvx (q := 4) C Z ht0 hKl (c_X6_requirePlace l X D P (hKl ▸ hfl) _) tw_413 mm_X6_requirePlace ⟨rfl, rfl⟩ (by rw [hKR]; exact ⟨Nat.le_of_ble_eq_true rfl, Nat.le_of_ble_eq_true rfl⟩) (by rw [hKR]; exact ⟨by first | exact Nat.le_of_ble_eq_true rfl | (dsimp only; omega), by first | exact Nat.le_of_ble_eq_true rfl | (dsimp only; omega)⟩) rfl rfl rfl (Nat.le_of_ble_eq_true rfl) dX6_regroup_1 rfl (fun e D1 P1 hx => ⟨Or.inl (⟨hx.1, by unfold kReg; rw [if_neg (fun z => hx.2.1 z.1)]⟩), hx.2.2.1 ▸ Fs_rf _, hx.2.2.2⟩) (by first | omega | exact ⟨by omega, by omega⟩) (fun D1 P1 hp1 => ?_) 
  obtain ⟨hy1, rfl, rfl⟩ := hp1
  obtain ⟨p, hp, rfl⟩ := rg16 hy1
  refine pv_iload_n (q := 5) C dX6_regroup_4 rfl rfl rfl ?_ 
  refine pv_callSvx (q := 8) C Z ht0 hKl (c_X6_requireGroup l X D P (hKl ▸ hfl) _) tw_561 mm_X6_requireGroup ⟨rfl, rfl⟩ (by rw [hKR]; exact ⟨Nat.le_of_ble_eq_true rfl, Nat.le_of_ble_eq_true rfl⟩) (by rw [hKR]; exact ⟨by first | exact Nat.le_of_ble_eq_true rfl | (dsimp only; omega), by first | exact Nat.le_of_ble_eq_true rfl | (dsimp only; omega)⟩) rfl rfl rfl (Nat.le_of_ble_eq_true rfl) dX6_regroup_5 rfl (fun e D1 P1 hx => ⟨Or.inl (⟨hx.1, by unfold kReg; rw [if_neg (fun z => hx.2.1 z.2)]⟩), hx.2.2.1 ▸ Fs_rf _, hx.2.2.2⟩) (by first | omega | exact ⟨by omega, by omega⟩) (fun D5 P5 hp5 => ?_) 
  obtain ⟨hy5, rfl, rfl⟩ := hp5
  obtain ⟨j, hj, rfl⟩ := rg4 hy5
  refine pv_aload_n (q := 9) C dX6_regroup_8 rfl rfl rfl ?_ 
  refine pv_iload_n (q := 10) C dX6_regroup_9 rfl rfl rfl ?_ 
  refine pv_callVvx (q := 13) C Z ht0 hKl (c_X6_requireRow l X D P (hKl ▸ hfl) M W h p hp) tw_443 k0 (by decide) rfl mm_X6_requireRow ⟨rfl, rfl⟩ (by rw [hKR]; exact ⟨Nat.le_of_ble_eq_true rfl, Nat.le_of_ble_eq_true rfl⟩) (by rw [hKR]; exact ⟨by first | exact Nat.le_of_ble_eq_true rfl | (dsimp only; omega), by first | exact Nat.le_of_ble_eq_true rfl | (dsimp only; omega)⟩) rfl rfl rfl (Nat.le_of_ble_eq_true rfl) dX6_regroup_10 rfl (fun e D1 P1 hx => ⟨Or.inr (⟨hx.1, by unfold kReg; rw [if_pos ⟨hy1, hy5⟩, ix_n (by omega), if_pos hx.2.1]⟩), hx.2.2.1 ▸ Fs_rf _, hx.2.2.2⟩) (by first | omega | exact ⟨by omega, by omega⟩) (fun D10 P10 hp10 => ?_) 
  obtain ⟨hrw, rfl, rfl⟩ := hp10
  refine pv_aload_n (q := 14) C dX6_regroup_13 rfl rfl rfl ?_ 
  refine pv_callVv (q := 17) C hKl (c_X6_saveState l X D P M W h) tw_344 k0 (by decide) rfl mm_X6_saveState ⟨rfl, rfl⟩ (by rw [hKR]; exact ⟨Nat.le_of_ble_eq_true rfl, Nat.le_of_ble_eq_true rfl⟩) (by rw [hKR]; exact ⟨by first | exact Nat.le_of_ble_eq_true rfl | (dsimp only; omega), by first | exact Nat.le_of_ble_eq_true rfl | (dsimp only; omega)⟩) rfl rfl rfl (Nat.le_of_ble_eq_true rfl) dX6_regroup_14 rfl (fun D14 P14 hp14 => ?_) 
  obtain ⟨hRI, hF1, hF2⟩ := hp14
  obtain ⟨G, A, wr, nx, hw, hR, hT, hI, hAM⟩ : SB D14 24 (M 7) W := hRI.1
  have hfl : fl (M 7) := h.1.fl
  have hdl : dl (M 7) 2 := h.1.dl (by omega)
  refine pv_aload_n (q := 18) C dX6_regroup_17 rfl rfl rfl ?_ 
  refine pg_6_0 (q := 21) C k0 tw_201 dX6_regroup_18 rfl (fun k18 => ?_) 
  refine pg_3_0 (q := 24) C k18 tw_129 dX6_regroup_21 rfl (fun k21 => ?_) 
  refine pg_4_0 (q := 27) C k21 tw_39 dX6_regroup_24 rfl (fun k24 => ?_) 
  refine pv_iload_n (q := 28) C dX6_regroup_27 rfl rfl rfl ?_ 
  refine pv_iald (q := 29) (j := p) C (iln_9 k24) rfl hp dX6_regroup_28 rfl ?_ 
  rw [(hT p hp).1]
  refine pv_istore_n (q := 30) C dX6_regroup_29 rfl rfl (Nat.le_of_ble_eq_true rfl) rfl ?_ 
  refine pv_aload_n (q := 31) C dX6_regroup_30 rfl rfl rfl ?_ 
  refine pg_6_0 (q := 34) C k0 tw_201 dX6_regroup_31 rfl (fun k31 => ?_) 
  refine pv_iload_n (q := 35) C dX6_regroup_34 rfl rfl rfl ?_ 
  refine pv_iload_n (q := 36) C dX6_regroup_35 rfl rfl rfl ?_ 
  refine pv_aload_n (q := 37) C dX6_regroup_36 rfl rfl rfl ?_ 
  refine pg_6_0 (q := 40) C k0 tw_201 dX6_regroup_37 rfl (fun k37 => ?_) 
  refine pg_3_0 (q := 43) C k37 tw_129 dX6_regroup_40 rfl (fun k40 => ?_) 
  refine pg_4_1 (q := 46) C k40 tw_42 dX6_regroup_43 rfl (fun k43 => ?_) 
  refine pv_iload_n (q := 47) C dX6_regroup_46 rfl rfl rfl ?_ 
  refine pv_iald (q := 48) (j := p) C (iln_9 k43) rfl hp dX6_regroup_47 rfl ?_ 
  rw [(hT p hp).2 hrw]
  refine pv_callVv (q := 51) C hKl (c_X3_replaceRow l X D14 P14 24 kS24 (M 7) G A wr nx hR hT (TI_nx hR hI) (by omega) p hp j hj _ hrw) tw_663 k31 (by decide) rfl mm_X3_replaceRow ⟨rfl, rfl⟩ (by rw [hKR]; exact ⟨Nat.le_of_ble_eq_true rfl, Nat.le_of_ble_eq_true rfl⟩) (by rw [hKR]; exact ⟨by first | exact Nat.le_of_ble_eq_true rfl | (dsimp only; omega), by first | exact Nat.le_of_ble_eq_true rfl | (dsimp only; omega)⟩) rfl rfl rfl (Nat.le_of_ble_eq_true rfl) dX6_regroup_48 rfl (fun D48 P48 hp48 => ?_) 
  obtain ⟨s1, s2, s3, rfl⟩ := hp48
  have hRI2 := SB_ri (M := M) (D2 := D48) (row := m_rep (M 7) p (nI j + 1) (M 7 (16 + p))) hRI (by
        have hgo := And.intro (TI_go hI ⟨hfl, hdl⟩ (show pOK (103, p, nI j, 0) from Or.inl ⟨Or.inr (Or.inl rfl), hp, fun _ => hy5, fun z => by dsimp only at z; rcases z with z | z <;> exact absurd z (by decide)⟩)) (AM_go hAM ⟨hfl, hdl⟩ (show pOK (103, p, nI j, 0) from Or.inl ⟨Or.inr (Or.inl rfl), hp, fun _ => hy5, fun z => by dsimp only at z; rcases z with z | z <;> exact absurd z (by decide)⟩))
        rw [go_g] at hgo
        obtain ⟨G', A', nx', hR'⟩ := s2
        exact ⟨G', A', _, nx', by omega, hR', s3, hgo⟩) (fun i hi => s1 i (by omega))
  refine pv_iload_n (q := 52) C dX6_regroup_51 rfl rfl rfl ?_ 
  exact XK.of (pv_iret C (⟨by unfold kReg; rw [if_pos ⟨hy1, hy5⟩, ix_n (by omega), if_neg hrw], by rw [ix_n (by omega)], by rw [ix_n (by omega)]; exact hRI2, fun i a b => by rw [s1 i (by omega), hF1 i (by omega) (by omega)]⟩) (by decide) (by decide) dX6_regroup_52)
set_option maxRecDepth 100000 in
set_option maxHeartbeats 4000000 in
theorem c_X6_delete (l : Launch) (X : XT) (D : DT) (P : PT) (hfl : l.stackTraces = false) (M : DT) (W : Nat) (h : RI D P M W) (hW : W + 200 < 2 ^ 29) (place : Int32) : XG l X yX6_delete (.code yX6_delete cX6_delete 3 (some .int) :: AW) ({ frames := 7, cells := 4, slots := 24, locals := 252 } : Room) [.ref (X.2.2 0), .int place] (qI X (fun r D' P' => (kRow (M 7) place) = 0 ∧ r = (M 7 (16 + ix place)) ∧ RI D' P' (va_up (m_save (clr M)) 7 (m_del (M 7) (ix place))) (W + 130) ∧ FX D D')) (fun e D' P' => ((e = eIOE ∧ (kRow (M 7) place) = 1) ∨ (e = eISE ∧ (kRow (M 7) place) = 2)) ∧ Fs D D' ∧ P = P') D P 4 24 := by
  refine xg_of (by decide +kernel) (Nat.le_of_ble_eq_true rfl) ?_
  intro K hKl hKR C ht0 Z
  have hfl : K.2.1.stackTraces = false := by rw [hKl]; exact hfl
  refine PV_lv (lv' := [some (.ref (X.2.2 0)), some (.int place), none]) rfl ?_
  obtain ⟨⟨G, A, wr, nx, hw, hR, hT, hI, hAM⟩, ⟨s, hs5, hs3, hs0, hsj⟩, hP1, hP2, ⟨hk4, hk01, hkS⟩, n, hn60, hn9, hn1, hnk⟩ := id h
  refine pv_iload_n (q := 1) C dX6_delete_0 rfl rfl rfl ?_ 
  refine pv_callSvx (q := 4) C Z ht0 hKl (c_X6_requirePlace l X D P (hKl ▸ hfl) _) tw_413 mm_X6_requirePlace ⟨rfl, rfl⟩ (by rw [hKR]; exact ⟨Nat.le_of_ble_eq_true rfl, Nat.le_of_ble_eq_true rfl⟩) (by rw [hKR]; exact ⟨by first | exact Nat.le_of_ble_eq_true rfl | (dsimp only; omega), by first | exact Nat.le_of_ble_eq_true rfl | (dsimp only; omega)⟩) rfl rfl rfl (Nat.le_of_ble_eq_true rfl) dX6_delete_1 rfl (fun e D1 P1 hx => ⟨Or.inl (⟨hx.1, by unfold kRow; rw [if_neg hx.2.1]⟩), hx.2.2.1 ▸ Fs_rf _, hx.2.2.2⟩) (by first | omega | exact ⟨by omega, by omega⟩) (fun D1 P1 hp1 => ?_) 
  obtain ⟨hy1, rfl, rfl⟩ := hp1
  obtain ⟨p, hp, rfl⟩ := rg16 hy1
  refine pv_aload_n (q := 5) C dX6_delete_4 rfl rfl rfl ?_ 
  refine pv_iload_n (q := 6) C dX6_delete_5 rfl rfl rfl ?_ 
  refine pv_callVvx (q := 9) C Z ht0 hKl (c_X6_requireRow l X D P (hKl ▸ hfl) M W h p hp) tw_443 k0 (by decide) rfl mm_X6_requireRow ⟨rfl, rfl⟩ (by rw [hKR]; exact ⟨Nat.le_of_ble_eq_true rfl, Nat.le_of_ble_eq_true rfl⟩) (by rw [hKR]; exact ⟨by first | exact Nat.le_of_ble_eq_true rfl | (dsimp only; omega), by first | exact Nat.le_of_ble_eq_true rfl | (dsimp only; omega)⟩) rfl rfl rfl (Nat.le_of_ble_eq_true rfl) dX6_delete_6 rfl (fun e D1 P1 hx => ⟨Or.inr (⟨hx.1, by unfold kRow; rw [if_pos hy1, ix_n (by omega), if_pos hx.2.1]⟩), hx.2.2.1 ▸ Fs_rf _, hx.2.2.2⟩) (by first | omega | exact ⟨by omega, by omega⟩) (fun D6 P6 hp6 => ?_) 
  obtain ⟨hrw, rfl, rfl⟩ := hp6
  refine pv_aload_n (q := 10) C dX6_delete_9 rfl rfl rfl ?_ 
  refine pv_callVv (q := 13) C hKl (c_X6_saveState l X D P M W h) tw_344 k0 (by decide) rfl mm_X6_saveState ⟨rfl, rfl⟩ (by rw [hKR]; exact ⟨Nat.le_of_ble_eq_true rfl, Nat.le_of_ble_eq_true rfl⟩) (by rw [hKR]; exact ⟨by first | exact Nat.le_of_ble_eq_true rfl | (dsimp only; omega), by first | exact Nat.le_of_ble_eq_true rfl | (dsimp only; omega)⟩) rfl rfl rfl (Nat.le_of_ble_eq_true rfl) dX6_delete_10 rfl (fun D10 P10 hp10 => ?_) 
  obtain ⟨hRI, hF1, hF2⟩ := hp10
  obtain ⟨G, A, wr, nx, hw, hR, hT, hI, hAM⟩ : SB D10 24 (M 7) W := hRI.1
  have hfl : fl (M 7) := h.1.fl
  have hdl : dl (M 7) 2 := h.1.dl (by omega)
  refine pv_aload_n (q := 14) C dX6_delete_13 rfl rfl rfl ?_ 
  refine pg_6_0 (q := 17) C k0 tw_201 dX6_delete_14 rfl (fun k14 => ?_) 
  refine pg_3_0 (q := 20) C k14 tw_129 dX6_delete_17 rfl (fun k17 => ?_) 
  refine pg_4_1 (q := 23) C k17 tw_42 dX6_delete_20 rfl (fun k20 => ?_) 
  refine pv_iload_n (q := 24) C dX6_delete_23 rfl rfl rfl ?_ 
  refine pv_iald (q := 25) (j := p) C (iln_9 k20) rfl hp dX6_delete_24 rfl ?_ 
  rw [(hT p hp).2 hrw]
  refine pv_istore_n (q := 26) C dX6_delete_25 rfl rfl (Nat.le_of_ble_eq_true rfl) rfl ?_ 
  refine pv_aload_n (q := 27) C dX6_delete_26 rfl rfl rfl ?_ 
  refine pg_6_0 (q := 30) C k0 tw_201 dX6_delete_27 rfl (fun k27 => ?_) 
  refine pv_iload_n (q := 31) C dX6_delete_30 rfl rfl rfl ?_ 
  refine pv_callVv (q := 34) C hKl (c_X3_removeRow l X D10 P10 24 kS24 (M 7) G A wr nx hR hT (TI_nx hR hI) (by omega) p hp hrw) tw_681 k27 (by decide) rfl mm_X3_removeRow ⟨rfl, rfl⟩ (by rw [hKR]; exact ⟨Nat.le_of_ble_eq_true rfl, Nat.le_of_ble_eq_true rfl⟩) (by rw [hKR]; exact ⟨by first | exact Nat.le_of_ble_eq_true rfl | (dsimp only; omega), by first | exact Nat.le_of_ble_eq_true rfl | (dsimp only; omega)⟩) rfl rfl rfl (Nat.le_of_ble_eq_true rfl) dX6_delete_31 rfl (fun D31 P31 hp31 => ?_) 
  obtain ⟨s1, s2, s3, rfl⟩ := hp31
  have hRI2 := SB_ri (M := M) (D2 := D31) (row := m_del (M 7) p) hRI (by
        have hgo := And.intro (TI_go hI ⟨hfl, hdl⟩ (show pOK (120, p, 0, 0) from Or.inl ⟨Or.inr (Or.inr (Or.inr rfl)), hp, fun z => by dsimp only at z; rcases z with z | z <;> exact absurd z (by decide), fun z => by dsimp only at z; rcases z with z | z <;> exact absurd z (by decide)⟩)) (AM_go hAM ⟨hfl, hdl⟩ (show pOK (120, p, 0, 0) from Or.inl ⟨Or.inr (Or.inr (Or.inr rfl)), hp, fun z => by dsimp only at z; rcases z with z | z <;> exact absurd z (by decide), fun z => by dsimp only at z; rcases z with z | z <;> exact absurd z (by decide)⟩))
        rw [go_x] at hgo
        obtain ⟨G', A', nx', hR'⟩ := s2
        exact ⟨G', A', _, nx', by omega, hR', s3, hgo⟩) (fun i hi => s1 i (by omega))
  refine pv_iload_n (q := 35) C dX6_delete_34 rfl rfl rfl ?_ 
  exact XK.of (pv_iret C (⟨by unfold kRow; rw [if_pos hy1, ix_n (by omega), if_neg hrw], by rw [ix_n (by omega)], by rw [ix_n (by omega)]; exact hRI2, fun i a b => by rw [s1 i (by omega), hF1 i (by omega) (by omega)]⟩) (by decide) (by decide) dX6_delete_35)
set_option maxRecDepth 100000 in
set_option maxHeartbeats 4000000 in
theorem c_X6_nap (l : Launch) (X : XT) (D : DT) (P : PT) (hfl : l.stackTraces = false) (M : DT) (W : Nat) (h : RI D P M W) (hW : W + 200 < 2 ^ 29) (view : Int32) : XG l X yX6_nap (.code yX6_nap cX6_nap 2 (some .int) :: AW) ({ frames := 7, cells := 2, slots := 12, locals := 252 } : Room) [.ref (X.2.2 0), .int view] (qI X (fun r D' P' => (kNap (M 7) view) = 0 ∧ r = (nI (nps (m_nap (M 7) (ix view)))) ∧ RI D' P' (va_up (m_save (clr M)) 7 (m_nap (M 7) (ix view))) (W + 130) ∧ FX D D')) (fun e D' P' => ((e = eIOE ∧ (kNap (M 7) view) = 1) ∨ (e = eISE ∧ (kNap (M 7) view) = 2)) ∧ Fs D D' ∧ P = P') D P 2 12 := by
  refine xg_of (by decide +kernel) (Nat.le_of_ble_eq_true rfl) ?_
  intro K hKl hKR C ht0 Z
  have hfl : K.2.1.stackTraces = false := by rw [hKl]; exact hfl
  refine PV_lv (lv' := [some (.ref (X.2.2 0)), some (.int view)]) rfl ?_
  obtain ⟨⟨G, A, wr, nx, hw, hR, hT, hI, hAM⟩, ⟨s, hs5, hs3, hs0, hsj⟩, hP1, hP2, ⟨hk4, hk01, hkS⟩, n, hn60, hn9, hn1, hnk⟩ := id h
  refine pv_iload_n (q := 1) C dX6_nap_0 rfl rfl rfl ?_ 
  refine pv_callSvx (q := 4) C Z ht0 hKl (c_X6_requireView l X D P (hKl ▸ hfl) _) tw_460 mm_X6_requireView ⟨rfl, rfl⟩ (by rw [hKR]; exact ⟨Nat.le_of_ble_eq_true rfl, Nat.le_of_ble_eq_true rfl⟩) (by rw [hKR]; exact ⟨by first | exact Nat.le_of_ble_eq_true rfl | (dsimp only; omega), by first | exact Nat.le_of_ble_eq_true rfl | (dsimp only; omega)⟩) rfl rfl rfl (Nat.le_of_ble_eq_true rfl) dX6_nap_1 rfl (fun e D1 P1 hx => ⟨Or.inl (⟨hx.1, by unfold kNap; rw [if_neg hx.2.1]⟩), hx.2.2.1 ▸ Fs_rf _, hx.2.2.2⟩) (by first | omega | exact ⟨by omega, by omega⟩) (fun D1 P1 hp1 => ?_) 
  obtain ⟨hy1, rfl, rfl⟩ := hp1
  obtain ⟨v, hv, rfl⟩ := rg3 hy1
  obtain ⟨f1, f2, f3, f4, f5, f6, f7⟩ := Rp_fld hR hv
  have f8 := (hR.2.2.2.2.1 v hv).2.2.2.2.2.2.2.1
  refine pv_aload_n (q := 5) C dX6_nap_4 rfl rfl rfl ?_ 
  refine pg_6_0 (q := 8) C k0 tw_201 dX6_nap_5 rfl (fun k5 => ?_) 
  refine pg_3_2 (q := 11) C k5 tw_133 dX6_nap_8 rfl (fun k8 => ?_) 
  refine pv_iload_n (q := 12) C dX6_nap_11 rfl rfl rfl ?_ 
  refine pv_aald_12 (q := 13) (j := v) C k8 rfl (by omega) dX6_nap_12 rfl (fun k12 => ?_) 
  refine pg_5_4 (q := 16) C k12 tw_107 dX6_nap_13 rfl ?_ 
  rw [f4]
  refine pv_if_eq (q := 19) (tgt := 29) C dX6_nap_16 (by decide) rfl (fun c_16 => ?_) (fun c_16 => ?_) 
  · refine pv_aload_n (q := 30) C dX6_nap_29 rfl rfl rfl ?_
    refine pv_callVv (q := 33) C hKl (c_X6_saveState l X D P M W h) tw_344 k0 (by decide) rfl mm_X6_saveState ⟨rfl, rfl⟩ (by rw [hKR]; exact ⟨Nat.le_of_ble_eq_true rfl, Nat.le_of_ble_eq_true rfl⟩) (by rw [hKR]; exact ⟨by first | exact Nat.le_of_ble_eq_true rfl | (dsimp only; omega), by first | exact Nat.le_of_ble_eq_true rfl | (dsimp only; omega)⟩) rfl rfl rfl (Nat.le_of_ble_eq_true rfl) dX6_nap_30 rfl (fun D30 P30 hp30 => ?_) 
    obtain ⟨hRI, hF1, hF2⟩ := hp30
    obtain ⟨G, A, wr, nx, hw, hR, hT, hI, hAM⟩ : SB D30 24 (M 7) W := hRI.1
    have hfl : fl (M 7) := h.1.fl
    have hdl : dl (M 7) 2 := h.1.dl (by omega)
    refine pv_aload_n (q := 34) C dX6_nap_33 rfl rfl rfl ?_ 
    refine pg_6_0 (q := 37) C k0 tw_201 dX6_nap_34 rfl (fun k34 => ?_) 
    refine pg_3_2 (q := 40) C k34 tw_133 dX6_nap_37 rfl (fun k37 => ?_) 
    refine pv_iload_n (q := 41) C dX6_nap_40 rfl rfl rfl ?_ 
    refine pv_aald_12 (q := 42) (j := v) C k37 rfl (by omega) dX6_nap_41 rfl (fun k41 => ?_) 
    refine pv_callVv (q := 45) C hKl (c_X5_beginNap l X D30 P30 (24 + 8 + 1 + 10 * v) (by assumption)) tw_693 k41 (by decide) rfl mm_X5_beginNap ⟨rfl, rfl⟩ (by rw [hKR]; exact ⟨Nat.le_of_ble_eq_true rfl, Nat.le_of_ble_eq_true rfl⟩) (by rw [hKR]; exact ⟨by first | exact Nat.le_of_ble_eq_true rfl | (dsimp only; omega), by first | exact Nat.le_of_ble_eq_true rfl | (dsimp only; omega)⟩) rfl rfl rfl (Nat.le_of_ble_eq_true rfl) dX6_nap_42 rfl (fun D42 P42 hp42 => ?_) 
    obtain ⟨hN, rfl⟩ := hp42
    have hRn := Rp_nap hR hv hN
    have s1 : ∀ i, i ≠ (24 + 8 + 1 + 10 * v) → D42 i = D30 i := fun i hi => by rw [hN, up2_ne _ _ _ hi, up2_ne _ _ _ hi]
    have hRI2 := SB_ri (M := M) (D2 := D42) (row := m_nap (M 7) v) hRI ⟨G, A, wr, nx, by omega, hRn, TR_lo hT (s1 _ (by omega)) (s1 _ (by omega)) (fun k hk => by unfold m_nap; rw [va_up_ne _ _ (by omega), va_up_ne _ _ (by omega)]), TI_nap hI hv, AM_nap hAM hv⟩ (fun i hi => s1 i (by omega))
    refine pv_aload_n (q := 46) C dX6_nap_45 rfl rfl rfl ?_ 
    refine pg_6_0 (q := 49) C k0 tw_201 dX6_nap_46 rfl (fun k46 => ?_) 
    refine pv_callVi (q := 52) C hKl (c_X3_countNapping l X D42 P30 24 kS24 (m_nap (M 7) v) G A wr nx hRn) tw_697 k46 (by decide) rfl mm_X3_countNapping ⟨rfl, rfl⟩ (by rw [hKR]; exact ⟨Nat.le_of_ble_eq_true rfl, Nat.le_of_ble_eq_true rfl⟩) (by rw [hKR]; exact ⟨by first | exact Nat.le_of_ble_eq_true rfl | (dsimp only; omega), by first | exact Nat.le_of_ble_eq_true rfl | (dsimp only; omega)⟩) rfl rfl rfl (Nat.le_of_ble_eq_true rfl) dX6_nap_49 rfl (fun r49 D49 P49 hp49 => ?_) 
    obtain ⟨rfl, rfl, rfl⟩ := hp49
    exact XK.of (pv_iret C (⟨by unfold kNap; rw [if_pos hy1, ix_n (by omega), if_neg (fun z => absurd (z.symm.trans c_16) (by decide))], by rw [ix_n (by omega)]; exact congrArg nI (nps_eq (fl_nap hfl hv)), by rw [ix_n (by omega)]; exact hRI2, fun i a b => by rw [s1 i (by omega), hF1 i (by omega) (by omega)]⟩) (by decide) (by decide) dX6_nap_52)
  · exact pv_throwISE (text := "the view naps") C Z ht0 hfl (by decide +kernel) (⟨Or.inr ⟨rfl, by unfold kNap; rw [if_pos hy1, ix_n (by omega), if_pos (f8.resolve_left c_16)]⟩, Fs_rf D, rfl⟩) rfl (by rw [hKR]; exact ⟨Nat.le_of_ble_eq_true rfl, Nat.le_of_ble_eq_true rfl⟩) (by rw [hKR]; first | exact ⟨Nat.le_of_ble_eq_true rfl, Nat.le_of_ble_eq_true rfl⟩ | (constructor <;> (dsimp only; omega))) ⟨by omega, by omega⟩ dX6_nap_19 dX6_nap_22 dX6_nap_23 dX6_nap_25 dX6_nap_28
set_option maxRecDepth 100000 in
set_option maxHeartbeats 4000000 in
theorem c_X6_wake (l : Launch) (X : XT) (D : DT) (P : PT) (hfl : l.stackTraces = false) (M : DT) (W : Nat) (h : RI D P M W) (hW : W + 200 < 2 ^ 29) (view : Int32) : XG l X yX6_wake (.code yX6_wake cX6_wake 3 (some .int) :: AW) ({ frames := 7, cells := 2, slots := 12, locals := 252 } : Room) [.ref (X.2.2 0), .int view] (qI X (fun r D' P' => (kWak (M 7) view) = 0 ∧ r = (wt (M 7) (ix view)) ∧ RI D' P' (va_up (m_save (clr M)) 7 (m_wake (M 7) (ix view))) (W + 130) ∧ FX D D')) (fun e D' P' => ((e = eIOE ∧ (kWak (M 7) view) = 1) ∨ (e = eISE ∧ (kWak (M 7) view) = 2)) ∧ Fs D D' ∧ P = P') D P 2 12 := by
  refine xg_of (by decide +kernel) (Nat.le_of_ble_eq_true rfl) ?_
  intro K hKl hKR C ht0 Z
  have hfl : K.2.1.stackTraces = false := by rw [hKl]; exact hfl
  refine PV_lv (lv' := [some (.ref (X.2.2 0)), some (.int view), none]) rfl ?_
  obtain ⟨⟨G, A, wr, nx, hw, hR, hT, hI, hAM⟩, ⟨s, hs5, hs3, hs0, hsj⟩, hP1, hP2, ⟨hk4, hk01, hkS⟩, n, hn60, hn9, hn1, hnk⟩ := id h
  refine pv_iload_n (q := 1) C dX6_wake_0 rfl rfl rfl ?_ 
  refine pv_callSvx (q := 4) C Z ht0 hKl (c_X6_requireView l X D P (hKl ▸ hfl) _) tw_460 mm_X6_requireView ⟨rfl, rfl⟩ (by rw [hKR]; exact ⟨Nat.le_of_ble_eq_true rfl, Nat.le_of_ble_eq_true rfl⟩) (by rw [hKR]; exact ⟨by first | exact Nat.le_of_ble_eq_true rfl | (dsimp only; omega), by first | exact Nat.le_of_ble_eq_true rfl | (dsimp only; omega)⟩) rfl rfl rfl (Nat.le_of_ble_eq_true rfl) dX6_wake_1 rfl (fun e D1 P1 hx => ⟨Or.inl (⟨hx.1, by unfold kWak; rw [if_neg hx.2.1]⟩), hx.2.2.1 ▸ Fs_rf _, hx.2.2.2⟩) (by first | omega | exact ⟨by omega, by omega⟩) (fun D1 P1 hp1 => ?_) 
  obtain ⟨hy1, rfl, rfl⟩ := hp1
  obtain ⟨v, hv, rfl⟩ := rg3 hy1
  obtain ⟨f1, f2, f3, f4, f5, f6, f7⟩ := Rp_fld hR hv
  have f8 := (hR.2.2.2.2.1 v hv).2.2.2.2.2.2.2.1
  refine pv_aload_n (q := 5) C dX6_wake_4 rfl rfl rfl ?_ 
  refine pg_6_0 (q := 8) C k0 tw_201 dX6_wake_5 rfl (fun k5 => ?_) 
  refine pg_3_2 (q := 11) C k5 tw_133 dX6_wake_8 rfl (fun k8 => ?_) 
  refine pv_iload_n (q := 12) C dX6_wake_11 rfl rfl rfl ?_ 
  refine pv_aald_12 (q := 13) (j := v) C k8 rfl (by omega) dX6_wake_12 rfl (fun k12 => ?_) 
  refine pg_5_4 (q := 16) C k12 tw_107 dX6_wake_13 rfl ?_ 
  rw [f4]
  refine pv_if_ne (q := 19) (tgt := 29) C dX6_wake_16 (by decide) rfl (fun c_16 => ?_) (fun c_16 => ?_) 
  · refine pv_aload_n (q := 30) C dX6_wake_29 rfl rfl rfl ?_
    refine pv_callVv (q := 33) C hKl (c_X6_saveState l X D P M W h) tw_344 k0 (by decide) rfl mm_X6_saveState ⟨rfl, rfl⟩ (by rw [hKR]; exact ⟨Nat.le_of_ble_eq_true rfl, Nat.le_of_ble_eq_true rfl⟩) (by rw [hKR]; exact ⟨by first | exact Nat.le_of_ble_eq_true rfl | (dsimp only; omega), by first | exact Nat.le_of_ble_eq_true rfl | (dsimp only; omega)⟩) rfl rfl rfl (Nat.le_of_ble_eq_true rfl) dX6_wake_30 rfl (fun D30 P30 hp30 => ?_) 
    obtain ⟨hRI, hF1, hF2⟩ := hp30
    obtain ⟨G, A, wr, nx, hw, hR, hT, hI, hAM⟩ : SB D30 24 (M 7) W := hRI.1
    have hfl : fl (M 7) := h.1.fl
    have hdl : dl (M 7) 2 := h.1.dl (by omega)
    refine pv_aload_n (q := 34) C dX6_wake_33 rfl rfl rfl ?_ 
    refine pg_6_0 (q := 37) C k0 tw_201 dX6_wake_34 rfl (fun k34 => ?_) 
    refine pg_3_2 (q := 40) C k34 tw_133 dX6_wake_37 rfl (fun k37 => ?_) 
    refine pv_iload_n (q := 41) C dX6_wake_40 rfl rfl rfl ?_ 
    refine pv_aald_12 (q := 42) (j := v) C k37 rfl (by omega) dX6_wake_41 rfl (fun k41 => ?_) 
    refine pv_aload_n (q := 43) C dX6_wake_42 rfl rfl rfl ?_ 
    refine pg_6_0 (q := 46) C k0 tw_201 dX6_wake_43 rfl (fun k43 => ?_) 
    refine pg_3_1 (q := 49) C k43 tw_131 dX6_wake_46 rfl (fun k46 => ?_) 
    refine pv_callVi (q := 52) C hKl (c_X5_countWaiting l X D30 P30 (24 + 8 + 1 + 10 * v) (24 + 4) (by assumption) (by assumption)) tw_394 k41 (by decide) rfl mm_X5_countWaiting ⟨rfl, rfl⟩ (by rw [hKR]; exact ⟨Nat.le_of_ble_eq_true rfl, Nat.le_of_ble_eq_true rfl⟩) (by rw [hKR]; exact ⟨by first | exact Nat.le_of_ble_eq_true rfl | (dsimp only; omega), by first | exact Nat.le_of_ble_eq_true rfl | (dsimp only; omega)⟩) rfl rfl rfl (Nat.le_of_ble_eq_true rfl) dX6_wake_49 rfl (fun r49 D49 P49 hp49 => ?_) 
    obtain ⟨rfl, rfl, rfl⟩ := hp49
    rw [Rp_wt hR hv]
    refine pv_istore_n (q := 53) C dX6_wake_52 rfl rfl (Nat.le_of_ble_eq_true rfl) rfl ?_ 
    refine pv_aload_n (q := 54) C dX6_wake_53 rfl rfl rfl ?_ 
    refine pg_6_0 (q := 57) C k0 tw_201 dX6_wake_54 rfl (fun k54 => ?_) 
    refine pv_aload_n (q := 58) C dX6_wake_57 rfl rfl rfl ?_ 
    refine pg_6_0 (q := 61) C k0 tw_201 dX6_wake_58 rfl (fun k58 => ?_) 
    refine pg_3_2 (q := 64) C k58 tw_133 dX6_wake_61 rfl (fun k61 => ?_) 
    refine pv_iload_n (q := 65) C dX6_wake_64 rfl rfl rfl ?_ 
    refine pv_aald_12 (q := 66) (j := v) C k61 rfl (by omega) dX6_wake_65 rfl (fun k65 => ?_) 
    refine pv_callVv (q := 69) C hKl (c_X3_wakeView l X D30 P30 24 v kS24 hv (by assumption) (M 7) G A wr nx hR) tw_709 k54 (by decide) rfl mm_X3_wakeView ⟨rfl, rfl⟩ (by rw [hKR]; exact ⟨Nat.le_of_ble_eq_true rfl, Nat.le_of_ble_eq_true rfl⟩) (by rw [hKR]; exact ⟨by first | exact Nat.le_of_ble_eq_true rfl | (dsimp only; omega), by first | exact Nat.le_of_ble_eq_true rfl | (dsimp only; omega)⟩) rfl rfl rfl (Nat.le_of_ble_eq_true rfl) dX6_wake_66 rfl (fun D66 P66 hp66 => ?_) 
    obtain ⟨s1, s2, rfl⟩ := hp66
    have hRI2 := SB_ri (M := M) (D2 := D66) (row := m_wake (M 7) v) hRI ⟨G, A, wr, _, by omega, s2, TR_lo hT (s1 _ (by omega)) (s1 _ (by omega)) (fun k hk => by unfold m_wake; rw [plus_ne (by omega), rowT_out (by omega)]), TI_wake hI hv, AM_wake hAM v⟩ (fun i hi => s1 i (by omega))
    refine pv_iload_n (q := 70) C dX6_wake_69 rfl rfl rfl ?_ 
    exact XK.of (pv_iret C (⟨by unfold kWak; rw [if_pos hy1, ix_n (by omega), if_pos (f8.resolve_left c_16)], by rw [ix_n (by omega)], by rw [ix_n (by omega)]; exact hRI2, fun i a b => by rw [s1 i (by omega), hF1 i (by omega) (by omega)]⟩) (by decide) (by decide) dX6_wake_70)
  · exact pv_throwISE (text := "the view is awake") C Z ht0 hfl (by decide +kernel) (⟨Or.inr ⟨rfl, by unfold kWak; rw [if_pos hy1, ix_n (by omega), if_neg (fun z => absurd (z.symm.trans c_16) (by decide))]⟩, Fs_rf D, rfl⟩) rfl (by rw [hKR]; exact ⟨Nat.le_of_ble_eq_true rfl, Nat.le_of_ble_eq_true rfl⟩) (by rw [hKR]; first | exact ⟨Nat.le_of_ble_eq_true rfl, Nat.le_of_ble_eq_true rfl⟩ | (constructor <;> (dsimp only; omega))) ⟨by omega, by omega⟩ dX6_wake_19 dX6_wake_22 dX6_wake_23 dX6_wake_25 dX6_wake_28
set_option maxRecDepth 100000 in
set_option maxHeartbeats 4000000 in
theorem c_X6_refresh (l : Launch) (X : XT) (D : DT) (P : PT) (hfl : l.stackTraces = false) (M : DT) (W : Nat) (h : RI D P M W) (hW : W + 200 < 2 ^ 29) (view : Int32) : XG l X yX6_refresh (.code yX6_refresh cX6_refresh 3 (some .int) :: AW) ({ frames := 7, cells := 2, slots := 12, locals := 252 } : Room) [.ref (X.2.2 0), .int view] (qI X (fun r D' P' => (kView view) = 0 ∧ r = (wt (M 7) (ix view)) ∧ RI D' P' (va_up (m_save (clr M)) 7 (m_ref (M 7) (ix view))) (W + 130) ∧ FX D D')) (fun e D' P' => ((e = eIOE ∧ (kView view) = 1)) ∧ Fs D D' ∧ P = P') D P 2 12 := by
  refine xg_of (by decide +kernel) (Nat.le_of_ble_eq_true rfl) ?_
  intro K hKl hKR C ht0 Z
  have hfl : K.2.1.stackTraces = false := by rw [hKl]; exact hfl
  refine PV_lv (lv' := [some (.ref (X.2.2 0)), some (.int view), none]) rfl ?_
  obtain ⟨⟨G, A, wr, nx, hw, hR, hT, hI, hAM⟩, ⟨s, hs5, hs3, hs0, hsj⟩, hP1, hP2, ⟨hk4, hk01, hkS⟩, n, hn60, hn9, hn1, hnk⟩ := id h
  refine pv_iload_n (q := 1) C dX6_refresh_0 rfl rfl rfl ?_ 
  refine pv_callSvx (q := 4) C Z ht0 hKl (c_X6_requireView l X D P (hKl ▸ hfl) _) tw_460 mm_X6_requireView ⟨rfl, rfl⟩ (by rw [hKR]; exact ⟨Nat.le_of_ble_eq_true rfl, Nat.le_of_ble_eq_true rfl⟩) (by rw [hKR]; exact ⟨by first | exact Nat.le_of_ble_eq_true rfl | (dsimp only; omega), by first | exact Nat.le_of_ble_eq_true rfl | (dsimp only; omega)⟩) rfl rfl rfl (Nat.le_of_ble_eq_true rfl) dX6_refresh_1 rfl (fun e D1 P1 hx => ⟨⟨hx.1, by unfold kView; rw [if_neg hx.2.1]⟩, hx.2.2.1 ▸ Fs_rf _, hx.2.2.2⟩) (by first | omega | exact ⟨by omega, by omega⟩) (fun D1 P1 hp1 => ?_) 
  obtain ⟨hy1, rfl, rfl⟩ := hp1
  obtain ⟨v, hv, rfl⟩ := rg3 hy1
  obtain ⟨f1, f2, f3, f4, f5, f6, f7⟩ := Rp_fld hR hv
  have f8 := (hR.2.2.2.2.1 v hv).2.2.2.2.2.2.2.1
  refine pv_aload_n (q := 5) C dX6_refresh_4 rfl rfl rfl ?_ 
  refine pv_callVv (q := 8) C hKl (c_X6_saveState l X D P M W h) tw_344 k0 (by decide) rfl mm_X6_saveState ⟨rfl, rfl⟩ (by rw [hKR]; exact ⟨Nat.le_of_ble_eq_true rfl, Nat.le_of_ble_eq_true rfl⟩) (by rw [hKR]; exact ⟨by first | exact Nat.le_of_ble_eq_true rfl | (dsimp only; omega), by first | exact Nat.le_of_ble_eq_true rfl | (dsimp only; omega)⟩) rfl rfl rfl (Nat.le_of_ble_eq_true rfl) dX6_refresh_5 rfl (fun D5 P5 hp5 => ?_) 
  obtain ⟨hRI, hF1, hF2⟩ := hp5
  obtain ⟨G, A, wr, nx, hw, hR, hT, hI, hAM⟩ : SB D5 24 (M 7) W := hRI.1
  have hfl : fl (M 7) := h.1.fl
  have hdl : dl (M 7) 2 := h.1.dl (by omega)
  refine pv_aload_n (q := 9) C dX6_refresh_8 rfl rfl rfl ?_ 
  refine pg_6_0 (q := 12) C k0 tw_201 dX6_refresh_9 rfl (fun k9 => ?_) 
  refine pg_3_2 (q := 15) C k9 tw_133 dX6_refresh_12 rfl (fun k12 => ?_) 
  refine pv_iload_n (q := 16) C dX6_refresh_15 rfl rfl rfl ?_ 
  refine pv_aald_12 (q := 17) (j := v) C k12 rfl (by omega) dX6_refresh_16 rfl (fun k16 => ?_) 
  refine pv_aload_n (q := 18) C dX6_refresh_17 rfl rfl rfl ?_ 
  refine pg_6_0 (q := 21) C k0 tw_201 dX6_refresh_18 rfl (fun k18 => ?_) 
  refine pg_3_1 (q := 24) C k18 tw_131 dX6_refresh_21 rfl (fun k21 => ?_) 
  refine pv_callVi (q := 27) C hKl (c_X5_countWaiting l X D5 P5 (24 + 8 + 1 + 10 * v) (24 + 4) (by assumption) (by assumption)) tw_394 k16 (by decide) rfl mm_X5_countWaiting ⟨rfl, rfl⟩ (by rw [hKR]; exact ⟨Nat.le_of_ble_eq_true rfl, Nat.le_of_ble_eq_true rfl⟩) (by rw [hKR]; exact ⟨by first | exact Nat.le_of_ble_eq_true rfl | (dsimp only; omega), by first | exact Nat.le_of_ble_eq_true rfl | (dsimp only; omega)⟩) rfl rfl rfl (Nat.le_of_ble_eq_true rfl) dX6_refresh_24 rfl (fun r24 D24 P24 hp24 => ?_) 
  obtain ⟨rfl, rfl, rfl⟩ := hp24
  rw [Rp_wt hR hv]
  refine pv_istore_n (q := 28) C dX6_refresh_27 rfl rfl (Nat.le_of_ble_eq_true rfl) rfl ?_ 
  refine pv_aload_n (q := 29) C dX6_refresh_28 rfl rfl rfl ?_ 
  refine pg_6_0 (q := 32) C k0 tw_201 dX6_refresh_29 rfl (fun k29 => ?_) 
  refine pv_aload_n (q := 33) C dX6_refresh_32 rfl rfl rfl ?_ 
  refine pg_6_0 (q := 36) C k0 tw_201 dX6_refresh_33 rfl (fun k33 => ?_) 
  refine pg_3_2 (q := 39) C k33 tw_133 dX6_refresh_36 rfl (fun k36 => ?_) 
  refine pv_iload_n (q := 40) C dX6_refresh_39 rfl rfl rfl ?_ 
  refine pv_aald_12 (q := 41) (j := v) C k36 rfl (by omega) dX6_refresh_40 rfl (fun k40 => ?_) 
  refine pv_callVv (q := 44) C hKl (c_X3_refreshView l X D5 P5 24 v kS24 hv (by assumption) (M 7) G A wr nx hR hT) tw_717 k29 (by decide) rfl mm_X3_refreshView ⟨rfl, rfl⟩ (by rw [hKR]; exact ⟨Nat.le_of_ble_eq_true rfl, Nat.le_of_ble_eq_true rfl⟩) (by rw [hKR]; exact ⟨by first | exact Nat.le_of_ble_eq_true rfl | (dsimp only; omega), by first | exact Nat.le_of_ble_eq_true rfl | (dsimp only; omega)⟩) rfl rfl rfl (Nat.le_of_ble_eq_true rfl) dX6_refresh_41 rfl (fun D41 P41 hp41 => ?_) 
  obtain ⟨s1, s2, rfl⟩ := hp41
  have hRI2 := SB_ri (M := M) (D2 := D41) (row := m_ref (M 7) v) hRI ⟨G, A, wr, _, by omega, s2, TR_lo hT (s1 _ (by omega)) (s1 _ (by omega)) (fun k hk => by unfold m_ref; rw [plus_ne (by omega), rowT_out (by omega)]), TI_ref hI hv, AM_ref hAM v⟩ (fun i hi => s1 i (by omega))
  refine pv_iload_n (q := 45) C dX6_refresh_44 rfl rfl rfl ?_ 
  exact XK.of (pv_iret C (⟨by unfold kView; rw [if_pos hy1], by rw [ix_n (by omega)], by rw [ix_n (by omega)]; exact hRI2, fun i a b => by rw [s1 i (by omega), hF1 i (by omega) (by omega)]⟩) (by decide) (by decide) dX6_refresh_45)
set_option maxRecDepth 100000 in
set_option maxHeartbeats 4000000 in
theorem c_X3_refreshViewF (l : Launch) (X : XT) (D : DT) (P : PT) (B v : Nat) (hk : kd B = 3) (hv : v < 3) (hkv : kd (B + 8 + 1 + 10 * v) = 5) (row : Nat → Int32) (G A : Nat → Nat → Int32) (wr : Nat) (nx : Nat → Nat) (Dx : DT) (h : Rp Dx B row G A wr nx) (x1 : ∀ i, (i < (B + 8 + 1 + 10 * v) ∨ (B + 8 + 1 + 10 * v) + 10 ≤ i) → D i = Dx i) (x2 : ∀ k, D (B + 8 + 1 + 10 * v) k = Dx (B + 8 + 1 + 10 * v) k) (ht : TR D B row) : CG l X yX3_refreshView (.code yX3_refreshView cX3_refreshView 2 none :: AW) ({ frames := 3, cells := 0, slots := 0, locals := 108 } : Room) [.ref (X.2.2 B), .ref (X.2.2 (B + 8 + 1 + 10 * v))] (qV X (fun D' P' => (∀ i, (i < B ∨ B + 39 ≤ i ∨ i = B + 1 ∨ i = B + 1 + 1 ∨ i = B + 1 + 2) → D' i = D i) ∧ Rp D' B (m_ref row v) G A wr (fun u => if u = v then wr else nx u) ∧ P = P')) D P 0 0 := by
  refine cg_of (by decide +kernel) (Nat.le_of_ble_eq_true rfl) ?_
  intro K hKl hKR C
  refine PV_lv (lv' := [some (.ref (X.2.2 B)), some (.ref (X.2.2 (B + 8 + 1 + 10 * v)))]) rfl ?_
  refine pv_aload_n (q := 1) C dX3_refreshView_0 rfl rfl rfl ?_ 
  refine pv_aload_n (q := 2) C dX3_refreshView_1 rfl rfl rfl ?_ 
  refine pg_3_0 (q := 5) C hk tw_128 dX3_refreshView_2 rfl (fun k2 => ?_) 
  refine pv_aload_n (q := 6) C dX3_refreshView_5 rfl rfl rfl ?_ 
  refine pg_3_1 (q := 9) C hk tw_130 dX3_refreshView_6 rfl (fun k6 => ?_) 
  refine pv_callVv (q := 12) C hKl (c_X5_holdWhatTableTells l X D P (B + 8 + 1 + 10 * v) (B + 1) (B + 4) hkv k2 k6) tw_721 hkv (by decide) rfl mm_X5_holdWhatTableTells ⟨rfl, rfl⟩ (by rw [hKR]; exact ⟨Nat.le_of_ble_eq_true rfl, Nat.le_of_ble_eq_true rfl⟩) (by rw [hKR]; exact ⟨Nat.le_of_ble_eq_true rfl, Nat.le_of_ble_eq_true rfl⟩) rfl rfl rfl (Nat.le_of_ble_eq_true rfl) dX3_refreshView_9 rfl (fun D9 P9 hp9 => ?_) 
  obtain ⟨s1, s2, s3, s4, rfl⟩ := hp9
  refine pv_aload_n (q := 13) C dX3_refreshView_12 rfl rfl rfl ?_ 
  refine pv_dup (q := 14) C dX3_refreshView_13 rfl rfl ?_ 
  refine pg_3_6 (q := 17) C hk tw_140 dX3_refreshView_14 rfl ?_ 
  refine pv_iconst (q := 18) (v := 1) C dX3_refreshView_17 rfl (by decide) ?_ 
  refine pv_iadd (q := 19) C dX3_refreshView_18 rfl ?_ 
  refine pp_3_6 (q := 22) C hk tw_140 dX3_refreshView_19 rfl (fun D19 hD19 => ?_) 
  exact pv_vret C (by
      have f1 : ∀ i, i ≠ B → D19 i = D9 i := fun i a => by rw [hD19, up2_ne _ _ _ a]
      have f3 : D9 B = D B := s1 _ (by omega)
      refine ⟨fun i hi => ?_, Rp_see (D := Dx) (m := 1) h hv (Or.inl rfl) (fun i a b => ?_) (fun k a b => ?_) ?_ ?_ (fun _ => ⟨?_, ?_⟩) (fun z => absurd z (by decide)) (fun k hk => by unfold m_ref; rw [plus_ne (by omega)]) ?_, rfl⟩
      · by_cases e : i = B
        · omega
        · rw [f1 i e]; exact s1 i (by omega)
      · rw [f1 i a, s1 i b]; exact x1 i b
      · rw [f1 _ (by omega), s2 k (by omega)]; exact x2 k
      · rw [f1 _ (by omega), s3, x1 _ (by omega)]; exact h.1
      · refine SV_cong s4 (fun i a b k _ => by rw [f1 i (by omega)]) (by rw [f1 _ (by omega)]) (fun p hp => ?_) (fun p hp hne => ?_)
        · rw [(h.2.2.2.1 p hp).1, (ht p hp).1]
        · have hne2 : row p ≠ 0 := fun z => hne (by rw [(ht p hp).1, z]; rfl)
          rw [(h.2.2.2.1 p hp).2.1 hne2, (ht p hp).2 hne2]
      · rw [f1 _ (by omega), s2 4 (by omega)]; exact x2 4
      · rw [f1 _ (by omega), s2 5 (by omega)]; exact x2 5
      · exact ctr_up (j0 := 6) (D := Dx) h.2.2.2.2.2 (fun j a b => rowT_out (by omega)) (by rw [hD19, up2_self, f3, x1 B (by omega)]) (fun j hj => by rw [hD19, up2_nk _ _ _ hj, f3, x1 B (by omega)]) (by omega)) (by decide) (by decide) dX3_refreshView_22
set_option maxRecDepth 100000 in
set_option maxHeartbeats 4000000 in
theorem c_X6_setBehind (l : Launch) (X : XT) (D : DT) (P : PT) (hfl : l.stackTraces = false) (M : DT) (W : Nat) (h : RI D P M W) (hW : W + 200 < 2 ^ 29) (view deltas : Int32) : XG l X yX6_setBehind (.code yX6_setBehind cX6_setBehind 4 (some .int) :: AW) ({ frames := 7, cells := 2, slots := 12, locals := 252 } : Room) [.ref (X.2.2 0), .int view, .int deltas] (qI X (fun r D' P' => (kSet view deltas 1 30) = 0 ∧ r = (M 7 (32 + 38 * ix view + 35)) ∧ RI D' P' (va_up (m_save (clr M)) 7 (m_settle (setV (M 7) (ix view) 35 deltas))) (W + 130) ∧ FX D D')) (fun e D' P' => ((e = eIOE ∧ (kSet view deltas 1 30) = 1) ∨ (e = eIAE ∧ (kSet view deltas 1 30) = 2)) ∧ Fs D D' ∧ P = P') D P 2 12 := by
  refine xg_of (by decide +kernel) (Nat.le_of_ble_eq_true rfl) ?_
  intro K hKl hKR C ht0 Z
  have hfl : K.2.1.stackTraces = false := by rw [hKl]; exact hfl
  refine PV_lv (lv' := [some (.ref (X.2.2 0)), some (.int view), some (.int deltas), none]) rfl ?_
  obtain ⟨⟨G, A, wr, nx, hw, hR, hT, hI, hAM⟩, ⟨s, hs5, hs3, hs0, hsj⟩, hP1, hP2, ⟨hk4, hk01, hkS⟩, n, hn60, hn9, hn1, hnk⟩ := id h
  refine pv_iload_n (q := 1) C dX6_setBehind_0 rfl rfl rfl ?_ 
  refine pv_callSvx (q := 4) C Z ht0 hKl (c_X6_requireView l X D P (hKl ▸ hfl) _) tw_460 mm_X6_requireView ⟨rfl, rfl⟩ (by rw [hKR]; exact ⟨Nat.le_of_ble_eq_true rfl, Nat.le_of_ble_eq_true rfl⟩) (by rw [hKR]; exact ⟨by first | exact Nat.le_of_ble_eq_true rfl | (dsimp only; omega), by first | exact Nat.le_of_ble_eq_true rfl | (dsimp only; omega)⟩) rfl rfl rfl (Nat.le_of_ble_eq_true rfl) dX6_setBehind_1 rfl (fun e D1 P1 hx => ⟨Or.inl (⟨hx.1, by unfold kSet; rw [if_neg hx.2.1]⟩), hx.2.2.1 ▸ Fs_rf _, hx.2.2.2⟩) (by first | omega | exact ⟨by omega, by omega⟩) (fun D1 P1 hp1 => ?_) 
  obtain ⟨hy1, rfl, rfl⟩ := hp1
  obtain ⟨v, hv, rfl⟩ := rg3 hy1
  obtain ⟨f1, f2, f3, f4, f5, f6, f7⟩ := Rp_fld hR hv
  have f8 := (hR.2.2.2.2.1 v hv).2.2.2.2.2.2.2.1
  refine pv_iload_n (q := 5) C dX6_setBehind_4 rfl rfl rfl ?_ 
  refine pv_callSvx (q := 8) C Z ht0 hKl (c_X6_requireBound l X D P (hKl ▸ hfl) _) tw_740 mm_X6_requireBound ⟨rfl, rfl⟩ (by rw [hKR]; exact ⟨Nat.le_of_ble_eq_true rfl, Nat.le_of_ble_eq_true rfl⟩) (by rw [hKR]; exact ⟨by first | exact Nat.le_of_ble_eq_true rfl | (dsimp only; omega), by first | exact Nat.le_of_ble_eq_true rfl | (dsimp only; omega)⟩) rfl rfl rfl (Nat.le_of_ble_eq_true rfl) dX6_setBehind_5 rfl (fun e D1 P1 hx => ⟨Or.inr (⟨hx.1, by unfold kSet; rw [if_pos hy1, if_neg hx.2.1]⟩), hx.2.2.1 ▸ Fs_rf _, hx.2.2.2⟩) (by first | omega | exact ⟨by omega, by omega⟩) (fun D5 P5 hp5 => ?_) 
  obtain ⟨hy5, rfl, rfl⟩ := hp5
  refine pv_aload_n (q := 9) C dX6_setBehind_8 rfl rfl rfl ?_ 
  refine pv_callVv (q := 12) C hKl (c_X6_saveState l X D P M W h) tw_344 k0 (by decide) rfl mm_X6_saveState ⟨rfl, rfl⟩ (by rw [hKR]; exact ⟨Nat.le_of_ble_eq_true rfl, Nat.le_of_ble_eq_true rfl⟩) (by rw [hKR]; exact ⟨by first | exact Nat.le_of_ble_eq_true rfl | (dsimp only; omega), by first | exact Nat.le_of_ble_eq_true rfl | (dsimp only; omega)⟩) rfl rfl rfl (Nat.le_of_ble_eq_true rfl) dX6_setBehind_9 rfl (fun D9 P9 hp9 => ?_) 
  obtain ⟨hRI, hF1, hF2⟩ := hp9
  obtain ⟨G, A, wr, nx, hw, hR, hT, hI, hAM⟩ : SB D9 24 (M 7) W := hRI.1
  have hfl : fl (M 7) := h.1.fl
  have hdl : dl (M 7) 2 := h.1.dl (by omega)
  obtain ⟨f1, f2, f3, f4, f5, f6, f7⟩ := Rp_fld hR hv
  have f8 := (hR.2.2.2.2.1 v hv).2.2.2.2.2.2.2.1
  refine pv_aload_n (q := 13) C dX6_setBehind_12 rfl rfl rfl ?_ 
  refine pg_6_0 (q := 16) C k0 tw_201 dX6_setBehind_13 rfl (fun k13 => ?_) 
  refine pg_3_2 (q := 19) C k13 tw_133 dX6_setBehind_16 rfl (fun k16 => ?_) 
  refine pv_iload_n (q := 20) C dX6_setBehind_19 rfl rfl rfl ?_ 
  refine pv_aald_12 (q := 21) (j := v) C k16 rfl (by omega) dX6_setBehind_20 rfl (fun k20 => ?_) 
  refine pg_5_2 (q := 24) C k20 tw_102 dX6_setBehind_21 rfl ?_ 
  rw [f2]
  refine pv_istore_n (q := 25) C dX6_setBehind_24 rfl rfl (Nat.le_of_ble_eq_true rfl) rfl ?_ 
  refine pv_aload_n (q := 26) C dX6_setBehind_25 rfl rfl rfl ?_ 
  refine pg_6_0 (q := 29) C k0 tw_201 dX6_setBehind_26 rfl (fun k26 => ?_) 
  refine pg_3_2 (q := 32) C k26 tw_133 dX6_setBehind_29 rfl (fun k29 => ?_) 
  refine pv_iload_n (q := 33) C dX6_setBehind_32 rfl rfl rfl ?_ 
  refine pv_aald_12 (q := 34) (j := v) C k29 rfl (by omega) dX6_setBehind_33 rfl (fun k33 => ?_) 
  refine pv_iload_n (q := 35) C dX6_setBehind_34 rfl rfl rfl ?_ 
  refine pp_5_2 (q := 38) C k33 tw_102 dX6_setBehind_35 rfl (fun D35 hD35 => ?_) 
  have eO : ∀ i, i ≠ (24 + 8 + 1 + 10 * v) → D35 i = D9 i := fun i hi => by rw [hD35, up2_ne _ _ _ hi]
  have hR2 : Rp D35 24 (setV (M 7) v 35 deltas) G A wr nx := Rp_setk hR hv (Or.inl rfl) hD35
  have hR3 := Rp_awk hR2 (fun u hu z => by unfold setV at z ⊢; rw [va_up_ne _ _ (by omega)] at z; rw [va_up_ne _ _ (by omega), va_up_ne _ _ (by omega)]; exact (hI u hu).2.2 z)
  have hf2 : fl (setV (M 7) v 35 deltas) := fl_upg hfl (fun u hu => by omega)
  obtain ⟨be, be1, be2, ebe⟩ := rg30 hy5
  have hti : TI (m_settle (setV (M 7) v 35 deltas)) := TI_settle hf2 (B35_setV hI.b hv (Or.inr ⟨be, be1, be2, ebe⟩) (by omega))
  have hlo : ∀ k, k < 32 → m_settle (setV (M 7) v 35 deltas) k = M 7 k := fun k hk => by
    unfold m_settle
    rw [m_far_lo hk, rowT_out (Or.inl hk)]
    exact va_up_ne _ _ (by omega)
  refine pv_aload_n (q := 39) C dX6_setBehind_38 rfl rfl rfl ?_ 
  refine pg_6_0 (q := 42) C k0 tw_201 dX6_setBehind_39 rfl (fun k39 => ?_) 
  refine pv_callVv (q := 45) C hKl (c_X3_wakeViewsTooFarBehind l X D35 P9 24 kS24 _ G A wr nx hR3) tw_744 k39 (by decide) rfl mm_X3_wakeViewsTooFarBehind ⟨rfl, rfl⟩ (by rw [hKR]; exact ⟨Nat.le_of_ble_eq_true rfl, Nat.le_of_ble_eq_true rfl⟩) (by rw [hKR]; exact ⟨by first | exact Nat.le_of_ble_eq_true rfl | (dsimp only; omega), by first | exact Nat.le_of_ble_eq_true rfl | (dsimp only; omega)⟩) rfl rfl rfl (Nat.le_of_ble_eq_true rfl) dX6_setBehind_42 rfl (fun D42 P42 hp42 => ?_) 
  obtain ⟨s1, ⟨nx2, s2⟩, rfl⟩ := hp42
  have hRI2 := SB_ri (M := M) (D2 := D42) (row := m_settle (setV (M 7) v 35 deltas)) hRI ⟨G, A, wr, nx2, by omega, s2, TR_lo hT (by rw [s1 _ (by omega), eO _ (by omega)]) (by rw [s1 _ (by omega), eO _ (by omega)]) hlo, hti, AM_settle hf2 (AM_upo hAM (by omega))⟩ (fun i hi => by rw [s1 i (by omega), eO i (by omega)])
  refine pv_iload_n (q := 46) C dX6_setBehind_45 rfl rfl rfl ?_ 
  exact XK.of (pv_iret C (⟨by unfold kSet; rw [if_pos hy1, if_pos hy5], by rw [ix_n (by omega)], by rw [ix_n (by omega)]; exact hRI2, fun i a b => by rw [s1 i (by omega), eO i (by omega), hF1 i (by omega) (by omega)]⟩) (by decide) (by decide) dX6_setBehind_46)
set_option maxRecDepth 100000 in
set_option maxHeartbeats 4000000 in
theorem c_X6_setLongest (l : Launch) (X : XT) (D : DT) (P : PT) (hfl : l.stackTraces = false) (M : DT) (W : Nat) (h : RI D P M W) (hW : W + 200 < 2 ^ 29) (view ticks : Int32) : XG l X yX6_setLongest (.code yX6_setLongest cX6_setLongest 4 (some .int) :: AW) ({ frames := 7, cells := 2, slots := 12, locals := 252 } : Room) [.ref (X.2.2 0), .int view, .int ticks] (qI X (fun r D' P' => (kSet view ticks 1 30) = 0 ∧ r = (M 7 (32 + 38 * ix view + 36)) ∧ RI D' P' (va_up (m_save (clr M)) 7 (setV (M 7) (ix view) 36 ticks)) (W + 130) ∧ FX D D')) (fun e D' P' => ((e = eIOE ∧ (kSet view ticks 1 30) = 1) ∨ (e = eIAE ∧ (kSet view ticks 1 30) = 2)) ∧ Fs D D' ∧ P = P') D P 2 12 := by
  refine xg_of (by decide +kernel) (Nat.le_of_ble_eq_true rfl) ?_
  intro K hKl hKR C ht0 Z
  have hfl : K.2.1.stackTraces = false := by rw [hKl]; exact hfl
  refine PV_lv (lv' := [some (.ref (X.2.2 0)), some (.int view), some (.int ticks), none]) rfl ?_
  obtain ⟨⟨G, A, wr, nx, hw, hR, hT, hI, hAM⟩, ⟨s, hs5, hs3, hs0, hsj⟩, hP1, hP2, ⟨hk4, hk01, hkS⟩, n, hn60, hn9, hn1, hnk⟩ := id h
  refine pv_iload_n (q := 1) C dX6_setLongest_0 rfl rfl rfl ?_ 
  refine pv_callSvx (q := 4) C Z ht0 hKl (c_X6_requireView l X D P (hKl ▸ hfl) _) tw_460 mm_X6_requireView ⟨rfl, rfl⟩ (by rw [hKR]; exact ⟨Nat.le_of_ble_eq_true rfl, Nat.le_of_ble_eq_true rfl⟩) (by rw [hKR]; exact ⟨by first | exact Nat.le_of_ble_eq_true rfl | (dsimp only; omega), by first | exact Nat.le_of_ble_eq_true rfl | (dsimp only; omega)⟩) rfl rfl rfl (Nat.le_of_ble_eq_true rfl) dX6_setLongest_1 rfl (fun e D1 P1 hx => ⟨Or.inl (⟨hx.1, by unfold kSet; rw [if_neg hx.2.1]⟩), hx.2.2.1 ▸ Fs_rf _, hx.2.2.2⟩) (by first | omega | exact ⟨by omega, by omega⟩) (fun D1 P1 hp1 => ?_) 
  obtain ⟨hy1, rfl, rfl⟩ := hp1
  obtain ⟨v, hv, rfl⟩ := rg3 hy1
  obtain ⟨f1, f2, f3, f4, f5, f6, f7⟩ := Rp_fld hR hv
  have f8 := (hR.2.2.2.2.1 v hv).2.2.2.2.2.2.2.1
  refine pv_iload_n (q := 5) C dX6_setLongest_4 rfl rfl rfl ?_ 
  refine pv_callSvx (q := 8) C Z ht0 hKl (c_X6_requireBound l X D P (hKl ▸ hfl) _) tw_740 mm_X6_requireBound ⟨rfl, rfl⟩ (by rw [hKR]; exact ⟨Nat.le_of_ble_eq_true rfl, Nat.le_of_ble_eq_true rfl⟩) (by rw [hKR]; exact ⟨by first | exact Nat.le_of_ble_eq_true rfl | (dsimp only; omega), by first | exact Nat.le_of_ble_eq_true rfl | (dsimp only; omega)⟩) rfl rfl rfl (Nat.le_of_ble_eq_true rfl) dX6_setLongest_5 rfl (fun e D1 P1 hx => ⟨Or.inr (⟨hx.1, by unfold kSet; rw [if_pos hy1, if_neg hx.2.1]⟩), hx.2.2.1 ▸ Fs_rf _, hx.2.2.2⟩) (by first | omega | exact ⟨by omega, by omega⟩) (fun D5 P5 hp5 => ?_) 
  obtain ⟨hy5, rfl, rfl⟩ := hp5
  refine pv_aload_n (q := 9) C dX6_setLongest_8 rfl rfl rfl ?_ 
  refine pv_callVv (q := 12) C hKl (c_X6_saveState l X D P M W h) tw_344 k0 (by decide) rfl mm_X6_saveState ⟨rfl, rfl⟩ (by rw [hKR]; exact ⟨Nat.le_of_ble_eq_true rfl, Nat.le_of_ble_eq_true rfl⟩) (by rw [hKR]; exact ⟨by first | exact Nat.le_of_ble_eq_true rfl | (dsimp only; omega), by first | exact Nat.le_of_ble_eq_true rfl | (dsimp only; omega)⟩) rfl rfl rfl (Nat.le_of_ble_eq_true rfl) dX6_setLongest_9 rfl (fun D9 P9 hp9 => ?_) 
  obtain ⟨hRI, hF1, hF2⟩ := hp9
  obtain ⟨G, A, wr, nx, hw, hR, hT, hI, hAM⟩ : SB D9 24 (M 7) W := hRI.1
  have hfl : fl (M 7) := h.1.fl
  have hdl : dl (M 7) 2 := h.1.dl (by omega)
  obtain ⟨f1, f2, f3, f4, f5, f6, f7⟩ := Rp_fld hR hv
  have f8 := (hR.2.2.2.2.1 v hv).2.2.2.2.2.2.2.1
  refine pv_aload_n (q := 13) C dX6_setLongest_12 rfl rfl rfl ?_ 
  refine pg_6_0 (q := 16) C k0 tw_201 dX6_setLongest_13 rfl (fun k13 => ?_) 
  refine pg_3_2 (q := 19) C k13 tw_133 dX6_setLongest_16 rfl (fun k16 => ?_) 
  refine pv_iload_n (q := 20) C dX6_setLongest_19 rfl rfl rfl ?_ 
  refine pv_aald_12 (q := 21) (j := v) C k16 rfl (by omega) dX6_setLongest_20 rfl (fun k20 => ?_) 
  refine pg_5_3 (q := 24) C k20 tw_104 dX6_setLongest_21 rfl ?_ 
  rw [f3]
  refine pv_istore_n (q := 25) C dX6_setLongest_24 rfl rfl (Nat.le_of_ble_eq_true rfl) rfl ?_ 
  refine pv_aload_n (q := 26) C dX6_setLongest_25 rfl rfl rfl ?_ 
  refine pg_6_0 (q := 29) C k0 tw_201 dX6_setLongest_26 rfl (fun k26 => ?_) 
  refine pg_3_2 (q := 32) C k26 tw_133 dX6_setLongest_29 rfl (fun k29 => ?_) 
  refine pv_iload_n (q := 33) C dX6_setLongest_32 rfl rfl rfl ?_ 
  refine pv_aald_12 (q := 34) (j := v) C k29 rfl (by omega) dX6_setLongest_33 rfl (fun k33 => ?_) 
  refine pv_iload_n (q := 35) C dX6_setLongest_34 rfl rfl rfl ?_ 
  refine pp_5_3 (q := 38) C k33 tw_104 dX6_setLongest_35 rfl (fun D35 hD35 => ?_) 
  have eO : ∀ i, i ≠ (24 + 8 + 1 + 10 * v) → D35 i = D9 i := fun i hi => by rw [hD35, up2_ne _ _ _ hi]
  have hR2 := Rp_setk hR hv (Or.inr rfl) hD35
  have hRI2 := SB_ri (M := M) (D2 := D35) (row := setV (M 7) v 36 ticks) hRI ⟨G, A, wr, nx, by omega, hR2, TR_lo hT (eO _ (by omega)) (eO _ (by omega)) (fun k hk => va_up_ne _ _ (by omega)), (TI_same hI (fun u hu => va_up_ne _ _ (by omega)) (fun u hu => Or.inl (va_up_ne _ _ (by omega))) (va_up_ne _ _ (by omega)) (fun u hu z => Or.inl (by unfold setV at z; rw [va_up_ne _ _ (by omega)] at z; exact z))), (AM_upo hAM (by omega))⟩ (fun i hi => eO i (by omega))
  refine pv_iload_n (q := 39) C dX6_setLongest_38 rfl rfl rfl ?_ 
  exact XK.of (pv_iret C (⟨by unfold kSet; rw [if_pos hy1, if_pos hy5], by rw [ix_n (by omega)], by rw [ix_n (by omega)]; exact hRI2, fun i a b => by rw [eO i (by omega), hF1 i (by omega) (by omega)]⟩) (by decide) (by decide) dX6_setLongest_39)
set_option maxRecDepth 100000 in
set_option maxHeartbeats 4000000 in
theorem c_X6_setFilter (l : Launch) (X : XT) (D : DT) (P : PT) (hfl : l.stackTraces = false) (M : DT) (W : Nat) (h : RI D P M W) (hW : W + 200 < 2 ^ 29) (view least : Int32) : XG l X yX6_setFilter (.code yX6_setFilter cX6_setFilter 4 (some .int) :: AW) ({ frames := 7, cells := 2, slots := 12, locals := 252 } : Room) [.ref (X.2.2 0), .int view, .int least] (qI X (fun r D' P' => (kSet view least (-99) 99) = 0 ∧ r = (M 7 (32 + 38 * ix view + 34)) ∧ RI D' P' (va_up (m_save (clr M)) 7 (m_ref (setV (M 7) (ix view) 34 least) (ix view))) (W + 130) ∧ FX D D')) (fun e D' P' => ((e = eIOE ∧ (kSet view least (-99) 99) = 1) ∨ (e = eIAE ∧ (kSet view least (-99) 99) = 2)) ∧ Fs D D' ∧ P = P') D P 2 12 := by
  refine xg_of (by decide +kernel) (Nat.le_of_ble_eq_true rfl) ?_
  intro K hKl hKR C ht0 Z
  have hfl : K.2.1.stackTraces = false := by rw [hKl]; exact hfl
  refine PV_lv (lv' := [some (.ref (X.2.2 0)), some (.int view), some (.int least), none]) rfl ?_
  obtain ⟨⟨G, A, wr, nx, hw, hR, hT, hI, hAM⟩, ⟨s, hs5, hs3, hs0, hsj⟩, hP1, hP2, ⟨hk4, hk01, hkS⟩, n, hn60, hn9, hn1, hnk⟩ := id h
  refine pv_iload_n (q := 1) C dX6_setFilter_0 rfl rfl rfl ?_ 
  refine pv_callSvx (q := 4) C Z ht0 hKl (c_X6_requireView l X D P (hKl ▸ hfl) _) tw_460 mm_X6_requireView ⟨rfl, rfl⟩ (by rw [hKR]; exact ⟨Nat.le_of_ble_eq_true rfl, Nat.le_of_ble_eq_true rfl⟩) (by rw [hKR]; exact ⟨by first | exact Nat.le_of_ble_eq_true rfl | (dsimp only; omega), by first | exact Nat.le_of_ble_eq_true rfl | (dsimp only; omega)⟩) rfl rfl rfl (Nat.le_of_ble_eq_true rfl) dX6_setFilter_1 rfl (fun e D1 P1 hx => ⟨Or.inl (⟨hx.1, by unfold kSet; rw [if_neg hx.2.1]⟩), hx.2.2.1 ▸ Fs_rf _, hx.2.2.2⟩) (by first | omega | exact ⟨by omega, by omega⟩) (fun D1 P1 hp1 => ?_) 
  obtain ⟨hy1, rfl, rfl⟩ := hp1
  obtain ⟨v, hv, rfl⟩ := rg3 hy1
  obtain ⟨f1, f2, f3, f4, f5, f6, f7⟩ := Rp_fld hR hv
  have f8 := (hR.2.2.2.2.1 v hv).2.2.2.2.2.2.2.1
  refine pv_iload_n (q := 5) C dX6_setFilter_4 rfl rfl rfl ?_ 
  refine pv_callSvx (q := 8) C Z ht0 hKl (c_X6_requireAmount l X D P (hKl ▸ hfl) _) tw_607 mm_X6_requireAmount ⟨rfl, rfl⟩ (by rw [hKR]; exact ⟨Nat.le_of_ble_eq_true rfl, Nat.le_of_ble_eq_true rfl⟩) (by rw [hKR]; exact ⟨by first | exact Nat.le_of_ble_eq_true rfl | (dsimp only; omega), by first | exact Nat.le_of_ble_eq_true rfl | (dsimp only; omega)⟩) rfl rfl rfl (Nat.le_of_ble_eq_true rfl) dX6_setFilter_5 rfl (fun e D1 P1 hx => ⟨Or.inr (⟨hx.1, by unfold kSet; rw [if_pos hy1, if_neg hx.2.1]⟩), hx.2.2.1 ▸ Fs_rf _, hx.2.2.2⟩) (by first | omega | exact ⟨by omega, by omega⟩) (fun D5 P5 hp5 => ?_) 
  obtain ⟨hy5, rfl, rfl⟩ := hp5
  refine pv_aload_n (q := 9) C dX6_setFilter_8 rfl rfl rfl ?_ 
  refine pv_callVv (q := 12) C hKl (c_X6_saveState l X D P M W h) tw_344 k0 (by decide) rfl mm_X6_saveState ⟨rfl, rfl⟩ (by rw [hKR]; exact ⟨Nat.le_of_ble_eq_true rfl, Nat.le_of_ble_eq_true rfl⟩) (by rw [hKR]; exact ⟨by first | exact Nat.le_of_ble_eq_true rfl | (dsimp only; omega), by first | exact Nat.le_of_ble_eq_true rfl | (dsimp only; omega)⟩) rfl rfl rfl (Nat.le_of_ble_eq_true rfl) dX6_setFilter_9 rfl (fun D9 P9 hp9 => ?_) 
  obtain ⟨hRI, hF1, hF2⟩ := hp9
  obtain ⟨G, A, wr, nx, hw, hR, hT, hI, hAM⟩ : SB D9 24 (M 7) W := hRI.1
  have hfl : fl (M 7) := h.1.fl
  have hdl : dl (M 7) 2 := h.1.dl (by omega)
  obtain ⟨f1, f2, f3, f4, f5, f6, f7⟩ := Rp_fld hR hv
  have f8 := (hR.2.2.2.2.1 v hv).2.2.2.2.2.2.2.1
  refine pv_aload_n (q := 13) C dX6_setFilter_12 rfl rfl rfl ?_ 
  refine pg_6_0 (q := 16) C k0 tw_201 dX6_setFilter_13 rfl (fun k13 => ?_) 
  refine pg_3_2 (q := 19) C k13 tw_133 dX6_setFilter_16 rfl (fun k16 => ?_) 
  refine pv_iload_n (q := 20) C dX6_setFilter_19 rfl rfl rfl ?_ 
  refine pv_aald_12 (q := 21) (j := v) C k16 rfl (by omega) dX6_setFilter_20 rfl (fun k20 => ?_) 
  refine pg_5_1 (q := 24) C k20 tw_99 dX6_setFilter_21 rfl ?_ 
  rw [f1]
  refine pv_istore_n (q := 25) C dX6_setFilter_24 rfl rfl (Nat.le_of_ble_eq_true rfl) rfl ?_ 
  refine pv_aload_n (q := 26) C dX6_setFilter_25 rfl rfl rfl ?_ 
  refine pg_6_0 (q := 29) C k0 tw_201 dX6_setFilter_26 rfl (fun k26 => ?_) 
  refine pg_3_2 (q := 32) C k26 tw_133 dX6_setFilter_29 rfl (fun k29 => ?_) 
  refine pv_iload_n (q := 33) C dX6_setFilter_32 rfl rfl rfl ?_ 
  refine pv_aald_12 (q := 34) (j := v) C k29 rfl (by omega) dX6_setFilter_33 rfl (fun k33 => ?_) 
  refine pv_iload_n (q := 35) C dX6_setFilter_34 rfl rfl rfl ?_ 
  refine pp_5_1 (q := 38) C k33 tw_99 dX6_setFilter_35 rfl (fun D35 hD35 => ?_) 
  have eO : ∀ i, i ≠ (24 + 8 + 1 + 10 * v) → D35 i = D9 i := fun i hi => by rw [hD35, up2_ne _ _ _ hi]
  obtain ⟨Dx, hRx, x1, x2, x3⟩ := Rp_setf least hR hv
  have hTx : TR D35 24 (setV (M 7) v 34 least) := TR_lo hT (eO _ (by omega)) (eO _ (by omega)) (fun k hk => va_up_ne _ _ (by omega))
  refine pv_aload_n (q := 39) C dX6_setFilter_38 rfl rfl rfl ?_ 
  refine pg_6_0 (q := 42) C k0 tw_201 dX6_setFilter_39 rfl (fun k39 => ?_) 
  refine pv_aload_n (q := 43) C dX6_setFilter_42 rfl rfl rfl ?_ 
  refine pg_6_0 (q := 46) C k0 tw_201 dX6_setFilter_43 rfl (fun k43 => ?_) 
  refine pg_3_2 (q := 49) C k43 tw_133 dX6_setFilter_46 rfl (fun k46 => ?_) 
  refine pv_iload_n (q := 50) C dX6_setFilter_49 rfl rfl rfl ?_ 
  refine pv_aald_12 (q := 51) (j := v) C k46 rfl (by omega) dX6_setFilter_50 rfl (fun k50 => ?_) 
  refine pv_callVv (q := 54) C hKl (c_X3_refreshViewF l X D35 P9 24 v kS24 hv (by assumption) (setV (M 7) v 34 least) G A wr nx Dx hRx (fun i hi => (eO i (by omega)).trans (x1 i hi).symm) (fun k => by by_cases e : k = 1; (subst e; rw [x2, hD35, up2_self]); (rw [x3 k e, hD35, up2_nk _ _ _ e])) hTx) tw_717 k39 (by decide) rfl mm_X3_refreshView ⟨rfl, rfl⟩ (by rw [hKR]; exact ⟨Nat.le_of_ble_eq_true rfl, Nat.le_of_ble_eq_true rfl⟩) (by rw [hKR]; exact ⟨by first | exact Nat.le_of_ble_eq_true rfl | (dsimp only; omega), by first | exact Nat.le_of_ble_eq_true rfl | (dsimp only; omega)⟩) rfl rfl rfl (Nat.le_of_ble_eq_true rfl) dX6_setFilter_51 rfl (fun D51 P51 hp51 => ?_) 
  obtain ⟨s1, s2, rfl⟩ := hp51
  have hRI2 := SB_ri (M := M) (D2 := D51) (row := m_ref (setV (M 7) v 34 least) v) hRI ⟨G, A, wr, _, by omega, s2, TR_lo hTx (s1 _ (by omega)) (s1 _ (by omega)) (fun k hk => by unfold m_ref; rw [plus_ne (by omega), rowT_out (by omega)]), TI_ref (TI_same hI (fun u hu => va_up_ne _ _ (by omega)) (fun u hu => Or.inl (va_up_ne _ _ (by omega))) (va_up_ne _ _ (by omega)) (fun u hu z => Or.inl (by unfold setV at z; rw [va_up_ne _ _ (by omega)] at z; exact z))) hv, AM_ref (AM_upo hAM (by omega)) v⟩ (fun i hi => by rw [s1 i (by omega), eO i (by omega)])
  refine pv_iload_n (q := 55) C dX6_setFilter_54 rfl rfl rfl ?_ 
  exact XK.of (pv_iret C (⟨by unfold kSet; rw [if_pos hy1, if_pos hy5], by rw [ix_n (by omega)], by rw [ix_n (by omega)]; exact hRI2, fun i a b => by rw [s1 i (by omega), eO i (by omega), hF1 i (by omega) (by omega)]⟩) (by decide) (by decide) dX6_setFilter_55)
set_option maxRecDepth 100000 in
set_option maxHeartbeats 4000000 in
theorem c_X6_pass (l : Launch) (X : XT) (D : DT) (P : PT) (hfl : l.stackTraces = false) (M : DT) (W : Nat) (h : RI D P M W) (hW : W + 200 < 2 ^ 29) (ticks : Int32) : XG l X yX6_pass (.code yX6_pass cX6_pass 2 (some .int) :: AW) ({ frames := 6, cells := 1, slots := 6, locals := 216 } : Room) [.ref (X.2.2 0), .int ticks] (qI X (fun r D' P' => (kRg ticks 1 30) = 0 ∧ r = (m_ticks (M 7) (ix ticks) 181 - M 7 181) ∧ RI D' P' (va_up (m_save (clr M)) 7 (m_ticks (M 7) (ix ticks))) (W + 130) ∧ FX D D')) (fun e D' P' => ((e = eIAE ∧ (kRg ticks 1 30) = 1)) ∧ Fs D D' ∧ P = P') D P 1 6 := by
  refine xg_of (by decide +kernel) (Nat.le_of_ble_eq_true rfl) ?_
  intro K hKl hKR C ht0 Z
  have hfl : K.2.1.stackTraces = false := by rw [hKl]; exact hfl
  refine PV_lv (lv' := [some (.ref (X.2.2 0)), some (.int ticks)]) rfl ?_
  obtain ⟨⟨G, A, wr, nx, hw, hR, hT, hI, hAM⟩, ⟨s, hs5, hs3, hs0, hsj⟩, hP1, hP2, ⟨hk4, hk01, hkS⟩, n, hn60, hn9, hn1, hnk⟩ := id h
  refine pv_iload_n (q := 1) C dX6_pass_0 rfl rfl rfl ?_ 
  refine pv_iconst (q := 2) (v := 1) C dX6_pass_1 rfl (by decide) ?_ 
  refine pv_icmp_lt (q := 5) (tgt := 11) C dX6_pass_2 (by decide) rfl (fun c_2 => ?_) (fun c_2 => ?_) 
  · exact pv_throwIAE (text := "the ticks are not 1 to 30") C Z ht0 hfl (by decide +kernel) ((by first | exact ⟨⟨rfl, by unfold kRg; rw [if_neg (fun z => absurd c_2 (Int32.not_lt.mpr z.1))]⟩, Fs_rf D, rfl⟩ | exact ⟨⟨rfl, by unfold kRg; rw [if_neg (fun z => c_8 z.2)]⟩, Fs_rf D, rfl⟩)) rfl (by rw [hKR]; exact ⟨Nat.le_of_ble_eq_true rfl, Nat.le_of_ble_eq_true rfl⟩) (by rw [hKR]; first | exact ⟨Nat.le_of_ble_eq_true rfl, Nat.le_of_ble_eq_true rfl⟩ | (constructor <;> (dsimp only; omega))) ⟨by omega, by omega⟩ dX6_pass_11 dX6_pass_14 dX6_pass_15 dX6_pass_17 dX6_pass_20
  · refine pv_iload_n (q := 6) C dX6_pass_5 rfl rfl rfl ?_
    refine pv_bipush (q := 8) (v := 30) C dX6_pass_6 rfl (by decide) ?_ 
    refine pv_icmp_le (q := 11) (tgt := 21) C dX6_pass_8 (by decide) rfl (fun c_8 => ?_) (fun c_8 => ?_) 
    · have hyt : rg ticks 1 30 := ⟨Int32.not_lt.mp c_2, c_8⟩
      obtain ⟨t, ht1, ht2, rfl⟩ := rg30 hyt
      refine pv_aload_n (q := 22) C dX6_pass_21 rfl rfl rfl ?_ 
      refine pv_callVv (q := 25) C hKl (c_X6_saveState l X D P M W h) tw_344 k0 (by decide) rfl mm_X6_saveState ⟨rfl, rfl⟩ (by rw [hKR]; exact ⟨Nat.le_of_ble_eq_true rfl, Nat.le_of_ble_eq_true rfl⟩) (by rw [hKR]; exact ⟨Nat.le_of_ble_eq_true rfl, Nat.le_of_ble_eq_true rfl⟩) rfl rfl rfl (Nat.le_of_ble_eq_true rfl) dX6_pass_22 rfl (fun D22 P22 hp22 => ?_) 
      obtain ⟨hRI, hF1, hF2⟩ := hp22
      obtain ⟨G, A, wr, nx, hw, hR, hT, hI, hAM⟩ : SB D22 24 (M 7) W := hRI.1
      have hfl : fl (M 7) := h.1.fl
      have hdl : dl (M 7) 2 := h.1.dl (by omega)
      refine pv_aload_n (q := 26) C dX6_pass_25 rfl rfl rfl ?_ 
      refine pg_6_0 (q := 29) C k0 tw_201 dX6_pass_26 rfl (fun k26 => ?_) 
      refine pv_iload_n (q := 30) C dX6_pass_29 rfl rfl rfl ?_ 
      refine pv_callVi (q := 33) C hKl (c_X3_passTicks l X D22 P22 24 kS24 (M 7) G A wr nx hR t (by omega)) tw_760 k26 (by decide) rfl mm_X3_passTicks ⟨rfl, rfl⟩ (by rw [hKR]; exact ⟨Nat.le_of_ble_eq_true rfl, Nat.le_of_ble_eq_true rfl⟩) (by rw [hKR]; exact ⟨Nat.le_of_ble_eq_true rfl, Nat.le_of_ble_eq_true rfl⟩) rfl rfl rfl (Nat.le_of_ble_eq_true rfl) dX6_pass_30 rfl (fun r30 D30 P30 hp30 => ?_) 
      obtain ⟨hr, s1, ⟨nx2, s2⟩, rfl⟩ := hp30
      have hRI2 := SB_ri (M := M) (D2 := D30) (row := m_ticks (M 7) t) hRI ⟨G, A, wr, nx2, by omega, s2, TR_lo hT (s1 _ (by omega)) (s1 _ (by omega)) (fun k hk => lo_ticks _ (Or.inl hk) t), TI_ticks hI t, AM_ticks hAM t⟩ (fun i hi => s1 i (by omega))
      exact XK.of (pv_iret C (⟨by unfold kRg; rw [if_pos hyt], by rw [ix_n (by omega)]; exact hr, by rw [ix_n (by omega)]; exact hRI2, fun i a b => by rw [s1 i (by omega), hF1 i (by omega) (by omega)]⟩) (by decide) (by decide) dX6_pass_33)
    · exact pv_throwIAE (text := "the ticks are not 1 to 30") C Z ht0 hfl (by decide +kernel) ((by first | exact ⟨⟨rfl, by unfold kRg; rw [if_neg (fun z => absurd c_2 (Int32.not_lt.mpr z.1))]⟩, Fs_rf D, rfl⟩ | exact ⟨⟨rfl, by unfold kRg; rw [if_neg (fun z => c_8 z.2)]⟩, Fs_rf D, rfl⟩)) rfl (by rw [hKR]; exact ⟨Nat.le_of_ble_eq_true rfl, Nat.le_of_ble_eq_true rfl⟩) (by rw [hKR]; first | exact ⟨Nat.le_of_ble_eq_true rfl, Nat.le_of_ble_eq_true rfl⟩ | (constructor <;> (dsimp only; omega))) ⟨by omega, by omega⟩ dX6_pass_11 dX6_pass_14 dX6_pass_15 dX6_pass_17 dX6_pass_20
