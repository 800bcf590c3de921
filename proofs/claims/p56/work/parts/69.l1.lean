set_option maxRecDepth 100000 in
set_option maxHeartbeats 4000000 in
theorem c_L_insert (l : Launch) (X : XT) (D : DT) (P : PT) (hfl : l.stackTraces = false) (M : DT) (W : Nat) (h : RI D P M W) (hW : W + 200 < 2 ^ 29) (place group amount : Int32) : LM l X yL_insert (.codeWith yL_insert cL_insert 5 (some .long) [(0, 8, 9, 15), (0, 8, 15, 19), (0, 8, 21, 23)]) ({ frames := 8, cells := 4, slots := 24, locals := 288 } : Room) [.ref (X.2.2 0), .int place, .int group, .int amount] (qL X (fun r D' P' => QE (kIns (M 7) place group amount) ((nI (tk (m_ins (M 7) (ix place) group amount)) : Int32).toInt64) cIXS (va_up (m_save (clr M)) 7 (m_ins (M 7) (ix place) group amount)) M W r D' P')) D P 4 24 := by
  refine lm_ofH (by decide +kernel) (Nat.le_of_ble_eq_true rfl) ?_
  intro K hKl hKR C hT Z hNC
  have hfl2 : K.2.1.stackTraces = false := by rw [hKl]; exact hfl
  refine PV_lv (lv' := [some (.ref (X.2.2 0)), some (.int place), some (.int group), some (.int amount), none]) rfl ?_
  refine pv_aload_n (q := 1) C dL_insert_0 rfl rfl rfl ?_
  refine pv_iload_n (q := 2) C dL_insert_1 rfl rfl rfl ?_
  refine pv_iload_n (q := 3) C dL_insert_2 rfl rfl rfl ?_
  refine pv_iload_n (q := 4) C dL_insert_3 rfl rfl rfl ?_
  refine pv_callVixH (q := 7) (rest := []) C Z hKl (c_X6_insert l X D P (hKl ▸ hfl2) M W h hW place group amount) tw_603 (show kd 0 = 6 from rfl) (by decide) rfl mm_X6_insert ⟨rfl, rfl⟩ (by rw [hKR]; exact ⟨Nat.le_of_ble_eq_true rfl, Nat.le_of_ble_eq_true rfl⟩) (by rw [hKR]; exact ⟨Nat.le_of_ble_eq_true rfl, Nat.le_of_ble_eq_true rfl⟩) rfl rfl rfl (Nat.le_of_ble_eq_true rfl) dL_insert_4 rfl (fun e9 D2 P2 hx => ?_) (fun r D2 P2 hp => ?_)
  ·
    obtain ⟨hx, hF, hPP⟩ := hx
    rcases hx with ⟨rfl, hK⟩ | ⟨rfl, hK⟩ | ⟨rfl, hK⟩
    ·
      refine ⟨[], ⟨0, 8, 9, 15⟩, [⟨0, 8, 15, 19⟩, ⟨0, 8, 21, 23⟩], hT, (fun z hz => nomatch hz), by decide, by decide, tw_601, NG_c Z (List.mem_of_getElem? (i := 2) rfl), fun q9 => ?_⟩
      refine pv_astore (q := 11) C dL_insert_9 rfl (Nat.le_of_ble_eq_true rfl) rfl ?_
      refine pv_ldc2 (q := 14) C dL_insert_11 rfl tw_654 ?_
      exact XK.of (pv_lret C (QE_no h hK (by decide) hF hPP rfl) (by omega) (by omega) dL_insert_14)
    ·
      refine ⟨[⟨0, 8, 9, 15⟩], ⟨0, 8, 15, 19⟩, [⟨0, 8, 21, 23⟩], hT, (fun z hz => by
              simp only [List.mem_cons, List.not_mem_nil, or_false] at hz
              rcases hz with rfl
              · exact Or.inr ⟨by decide, eIOE, tw_601, hNC.1⟩), by decide, by decide, tw_602, NG_c Z (List.mem_of_getElem? (i := 3) rfl), fun q9 => ?_⟩
      refine pv_astore (q := 17) C dL_insert_15 rfl (Nat.le_of_ble_eq_true rfl) rfl ?_
      refine pv_ldc2 (q := 20) C dL_insert_17 rfl tw_655 ?_
      exact XK.of (pv_lret C (QE_no h hK (by decide) hF hPP rfl) (by omega) (by omega) dL_insert_20)
    ·
      refine ⟨[⟨0, 8, 9, 15⟩, ⟨0, 8, 15, 19⟩], ⟨0, 8, 21, 23⟩, [], hT, (fun z hz => by
              simp only [List.mem_cons, List.not_mem_nil, or_false] at hz
              rcases hz with rfl | rfl
              · exact Or.inr ⟨by decide, eIOE, tw_601, hNC.2.1⟩
              · exact Or.inr ⟨by decide, eIAE, tw_602, hNC.2.2⟩), by decide, by decide, tw_271, NG_c Z (List.mem_of_getElem? (i := 1) rfl), fun q9 => ?_⟩
      refine pv_astore (q := 23) C dL_insert_21 rfl (Nat.le_of_ble_eq_true rfl) rfl ?_
      refine pv_ldc2 (q := 26) C dL_insert_23 rfl tw_352 ?_
      exact XK.of (pv_lret C (QE_no h hK (by decide) hF hPP rfl) (by omega) (by omega) dL_insert_26)
  ·
    obtain ⟨hK, rfl, hRI2, hF⟩ := hp
    refine pv_i2l (q := 8) C dL_insert_7 rfl ?_
    exact XK.of (pv_lret C (QE_ok hRI2 hK rfl) (by omega) (by omega) dL_insert_8)
theorem mw_L_insert : MSW yL_insert cL_insert 5 (some .long) [(0, 8, 9, 15), (0, 8, 15, 19), (0, 8, 21, 23)] 4 := ⟨tw_599, tw_0, tw_600, ⟨by decide +kernel, by decide +kernel⟩, by decide +kernel⟩
set_option maxRecDepth 100000 in
set_option maxHeartbeats 4000000 in
theorem c_L_change (l : Launch) (X : XT) (D : DT) (P : PT) (hfl : l.stackTraces = false) (M : DT) (W : Nat) (h : RI D P M W) (hW : W + 200 < 2 ^ 29) (place amount : Int32) : LM l X yL_change (.codeWith yL_change cL_change 4 (some .long) [(0, 7, 8, 15), (0, 7, 13, 19), (0, 7, 18, 23)]) ({ frames := 8, cells := 4, slots := 24, locals := 288 } : Room) [.ref (X.2.2 0), .int place, .int amount] (qL X (fun r D' P' => QE (kChg (M 7) place amount) ((M 7 (16 + ix place) : Int32).toInt64) cIXS (va_up (m_save (clr M)) 7 (m_rep (M 7) (ix place) (M 7 (ix place)) amount)) M W r D' P')) D P 4 24 := by
  refine lm_ofH (by decide +kernel) (Nat.le_of_ble_eq_true rfl) ?_
  intro K hKl hKR C hT Z hNC
  have hfl2 : K.2.1.stackTraces = false := by rw [hKl]; exact hfl
  refine PV_lv (lv' := [some (.ref (X.2.2 0)), some (.int place), some (.int amount), none]) rfl ?_
  refine pv_aload_n (q := 1) C dL_change_0 rfl rfl rfl ?_
  refine pv_iload_n (q := 2) C dL_change_1 rfl rfl rfl ?_
  refine pv_iload_n (q := 3) C dL_change_2 rfl rfl rfl ?_
  refine pv_callVixH (q := 6) (rest := []) C Z hKl (c_X6_change l X D P (hKl ▸ hfl2) M W h hW place amount) tw_659 (show kd 0 = 6 from rfl) (by decide) rfl mm_X6_change ⟨rfl, rfl⟩ (by rw [hKR]; exact ⟨Nat.le_of_ble_eq_true rfl, Nat.le_of_ble_eq_true rfl⟩) (by rw [hKR]; exact ⟨Nat.le_of_ble_eq_true rfl, Nat.le_of_ble_eq_true rfl⟩) rfl rfl rfl (Nat.le_of_ble_eq_true rfl) dL_change_3 rfl (fun e9 D2 P2 hx => ?_) (fun r D2 P2 hp => ?_)
  ·
    obtain ⟨hx, hF, hPP⟩ := hx
    rcases hx with ⟨rfl, hK⟩ | ⟨rfl, hK⟩ | ⟨rfl, hK⟩
    ·
      refine ⟨[], ⟨0, 7, 8, 15⟩, [⟨0, 7, 13, 19⟩, ⟨0, 7, 18, 23⟩], hT, (fun z hz => nomatch hz), by decide, by decide, tw_601, NG_c Z (List.mem_of_getElem? (i := 2) rfl), fun q9 => ?_⟩
      refine pv_astore_n (q := 9) C dL_change_8 rfl rfl (Nat.le_of_ble_eq_true rfl) rfl ?_
      refine pv_ldc2 (q := 12) C dL_change_9 rfl tw_654 ?_
      exact XK.of (pv_lret C (QE_no h hK (by decide) hF hPP rfl) (by omega) (by omega) dL_change_12)
    ·
      refine ⟨[⟨0, 7, 8, 15⟩], ⟨0, 7, 13, 19⟩, [⟨0, 7, 18, 23⟩], hT, (fun z hz => by
              simp only [List.mem_cons, List.not_mem_nil, or_false] at hz
              rcases hz with rfl
              · exact Or.inr ⟨by decide, eIOE, tw_601, hNC.1⟩), by decide, by decide, tw_602, NG_c Z (List.mem_of_getElem? (i := 3) rfl), fun q9 => ?_⟩
      refine pv_astore_n (q := 14) C dL_change_13 rfl rfl (Nat.le_of_ble_eq_true rfl) rfl ?_
      refine pv_ldc2 (q := 17) C dL_change_14 rfl tw_655 ?_
      exact XK.of (pv_lret C (QE_no h hK (by decide) hF hPP rfl) (by omega) (by omega) dL_change_17)
    ·
      refine ⟨[⟨0, 7, 8, 15⟩, ⟨0, 7, 13, 19⟩], ⟨0, 7, 18, 23⟩, [], hT, (fun z hz => by
              simp only [List.mem_cons, List.not_mem_nil, or_false] at hz
              rcases hz with rfl | rfl
              · exact Or.inr ⟨by decide, eIOE, tw_601, hNC.2.1⟩
              · exact Or.inr ⟨by decide, eIAE, tw_602, hNC.2.2⟩), by decide, by decide, tw_271, NG_c Z (List.mem_of_getElem? (i := 1) rfl), fun q9 => ?_⟩
      refine pv_astore_n (q := 19) C dL_change_18 rfl rfl (Nat.le_of_ble_eq_true rfl) rfl ?_
      refine pv_ldc2 (q := 22) C dL_change_19 rfl tw_352 ?_
      exact XK.of (pv_lret C (QE_no h hK (by decide) hF hPP rfl) (by omega) (by omega) dL_change_22)
  ·
    obtain ⟨hK, rfl, hRI2, hF⟩ := hp
    refine pv_i2l (q := 7) C dL_change_6 rfl ?_
    exact XK.of (pv_lret C (QE_ok hRI2 hK rfl) (by omega) (by omega) dL_change_7)
theorem mw_L_change : MSW yL_change cL_change 4 (some .long) [(0, 7, 8, 15), (0, 7, 13, 19), (0, 7, 18, 23)] 3 := ⟨tw_657, tw_0, tw_658, ⟨by decide +kernel, by decide +kernel⟩, by decide +kernel⟩
set_option maxRecDepth 100000 in
set_option maxHeartbeats 4000000 in
theorem c_L_regroup (l : Launch) (X : XT) (D : DT) (P : PT) (hfl : l.stackTraces = false) (M : DT) (W : Nat) (h : RI D P M W) (hW : W + 200 < 2 ^ 29) (place group : Int32) : LM l X yL_regroup (.codeWith yL_regroup cL_regroup 4 (some .long) [(0, 7, 8, 15), (0, 7, 13, 23)]) ({ frames := 8, cells := 4, slots := 24, locals := 288 } : Room) [.ref (X.2.2 0), .int place, .int group] (qL X (fun r D' P' => QE (kReg (M 7) place group) ((M 7 (ix place) - 1 : Int32).toInt64) cIS (va_up (m_save (clr M)) 7 (m_rep (M 7) (ix place) (group + 1) (M 7 (16 + ix place)))) M W r D' P')) D P 4 24 := by
  refine lm_ofH (by decide +kernel) (Nat.le_of_ble_eq_true rfl) ?_
  intro K hKl hKR C hT Z hNC
  have hfl2 : K.2.1.stackTraces = false := by rw [hKl]; exact hfl
  refine PV_lv (lv' := [some (.ref (X.2.2 0)), some (.int place), some (.int group), none]) rfl ?_
  refine pv_aload_n (q := 1) C dL_regroup_0 rfl rfl rfl ?_
  refine pv_iload_n (q := 2) C dL_regroup_1 rfl rfl rfl ?_
  refine pv_iload_n (q := 3) C dL_regroup_2 rfl rfl rfl ?_
  refine pv_callVixH (q := 6) (rest := []) C Z hKl (c_X6_regroup l X D P (hKl ▸ hfl2) M W h hW place group) tw_670 (show kd 0 = 6 from rfl) (by decide) rfl mm_X6_regroup ⟨rfl, rfl⟩ (by rw [hKR]; exact ⟨Nat.le_of_ble_eq_true rfl, Nat.le_of_ble_eq_true rfl⟩) (by rw [hKR]; exact ⟨Nat.le_of_ble_eq_true rfl, Nat.le_of_ble_eq_true rfl⟩) rfl rfl rfl (Nat.le_of_ble_eq_true rfl) dL_regroup_3 rfl (fun e9 D2 P2 hx => ?_) (fun r D2 P2 hp => ?_)
  ·
    obtain ⟨hx, hF, hPP⟩ := hx
    rcases hx with ⟨rfl, hK⟩ | ⟨rfl, hK⟩
    ·
      refine ⟨[], ⟨0, 7, 8, 15⟩, [⟨0, 7, 13, 23⟩], hT, (fun z hz => nomatch hz), by decide, by decide, tw_601, NG_c Z (List.mem_of_getElem? (i := 2) rfl), fun q9 => ?_⟩
      refine pv_astore_n (q := 9) C dL_regroup_8 rfl rfl (Nat.le_of_ble_eq_true rfl) rfl ?_
      refine pv_ldc2 (q := 12) C dL_regroup_9 rfl tw_654 ?_
      exact XK.of (pv_lret C (QE_no h hK (by decide) hF hPP rfl) (by omega) (by omega) dL_regroup_12)
    ·
      refine ⟨[⟨0, 7, 8, 15⟩], ⟨0, 7, 13, 23⟩, [], hT, (fun z hz => by
              simp only [List.mem_cons, List.not_mem_nil, or_false] at hz
              rcases hz with rfl
              · exact Or.inr ⟨by decide, eIOE, tw_601, hNC.2.1⟩), by decide, by decide, tw_271, NG_c Z (List.mem_of_getElem? (i := 1) rfl), fun q9 => ?_⟩
      refine pv_astore_n (q := 14) C dL_regroup_13 rfl rfl (Nat.le_of_ble_eq_true rfl) rfl ?_
      refine pv_ldc2 (q := 17) C dL_regroup_14 rfl tw_352 ?_
      exact XK.of (pv_lret C (QE_no h hK (by decide) hF hPP rfl) (by omega) (by omega) dL_regroup_17)
  ·
    obtain ⟨hK, rfl, hRI2, hF⟩ := hp
    refine pv_i2l (q := 7) C dL_regroup_6 rfl ?_
    exact XK.of (pv_lret C (QE_ok hRI2 hK rfl) (by omega) (by omega) dL_regroup_7)
theorem mw_L_regroup : MSW yL_regroup cL_regroup 4 (some .long) [(0, 7, 8, 15), (0, 7, 13, 23)] 3 := ⟨tw_668, tw_0, tw_669, ⟨by decide +kernel, by decide +kernel⟩, by decide +kernel⟩
set_option maxRecDepth 100000 in
set_option maxHeartbeats 4000000 in
theorem c_L_delete (l : Launch) (X : XT) (D : DT) (P : PT) (hfl : l.stackTraces = false) (M : DT) (W : Nat) (h : RI D P M W) (hW : W + 200 < 2 ^ 29) (place : Int32) : LM l X yL_delete (.codeWith yL_delete cL_delete 3 (some .long) [(0, 6, 7, 15), (0, 6, 12, 23)]) ({ frames := 8, cells := 4, slots := 24, locals := 288 } : Room) [.ref (X.2.2 0), .int place] (qL X (fun r D' P' => QE (kRow (M 7) place) ((M 7 (16 + ix place) : Int32).toInt64) cIS (va_up (m_save (clr M)) 7 (m_del (M 7) (ix place))) M W r D' P')) D P 4 24 := by
  refine lm_ofH (by decide +kernel) (Nat.le_of_ble_eq_true rfl) ?_
  intro K hKl hKR C hT Z hNC
  have hfl2 : K.2.1.stackTraces = false := by rw [hKl]; exact hfl
  refine PV_lv (lv' := [some (.ref (X.2.2 0)), some (.int place), none]) rfl ?_
  refine pv_aload_n (q := 1) C dL_delete_0 rfl rfl rfl ?_
  refine pv_iload_n (q := 2) C dL_delete_1 rfl rfl rfl ?_
  refine pv_callVixH (q := 5) (rest := []) C Z hKl (c_X6_delete l X D P (hKl ▸ hfl2) M W h hW place) tw_677 (show kd 0 = 6 from rfl) (by decide) rfl mm_X6_delete ⟨rfl, rfl⟩ (by rw [hKR]; exact ⟨Nat.le_of_ble_eq_true rfl, Nat.le_of_ble_eq_true rfl⟩) (by rw [hKR]; exact ⟨Nat.le_of_ble_eq_true rfl, Nat.le_of_ble_eq_true rfl⟩) rfl rfl rfl (Nat.le_of_ble_eq_true rfl) dL_delete_2 rfl (fun e9 D2 P2 hx => ?_) (fun r D2 P2 hp => ?_)
  ·
    obtain ⟨hx, hF, hPP⟩ := hx
    rcases hx with ⟨rfl, hK⟩ | ⟨rfl, hK⟩
    ·
      refine ⟨[], ⟨0, 6, 7, 15⟩, [⟨0, 6, 12, 23⟩], hT, (fun z hz => nomatch hz), by decide, by decide, tw_601, NG_c Z (List.mem_of_getElem? (i := 2) rfl), fun q9 => ?_⟩
      refine pv_astore_n (q := 8) C dL_delete_7 rfl rfl (Nat.le_of_ble_eq_true rfl) rfl ?_
      refine pv_ldc2 (q := 11) C dL_delete_8 rfl tw_654 ?_
      exact XK.of (pv_lret C (QE_no h hK (by decide) hF hPP rfl) (by omega) (by omega) dL_delete_11)
    ·
      refine ⟨[⟨0, 6, 7, 15⟩], ⟨0, 6, 12, 23⟩, [], hT, (fun z hz => by
              simp only [List.mem_cons, List.not_mem_nil, or_false] at hz
              rcases hz with rfl
              · exact Or.inr ⟨by decide, eIOE, tw_601, hNC.2.1⟩), by decide, by decide, tw_271, NG_c Z (List.mem_of_getElem? (i := 1) rfl), fun q9 => ?_⟩
      refine pv_astore_n (q := 13) C dL_delete_12 rfl rfl (Nat.le_of_ble_eq_true rfl) rfl ?_
      refine pv_ldc2 (q := 16) C dL_delete_13 rfl tw_352 ?_
      exact XK.of (pv_lret C (QE_no h hK (by decide) hF hPP rfl) (by omega) (by omega) dL_delete_16)
  ·
    obtain ⟨hK, rfl, hRI2, hF⟩ := hp
    refine pv_i2l (q := 6) C dL_delete_5 rfl ?_
    exact XK.of (pv_lret C (QE_ok hRI2 hK rfl) (by omega) (by omega) dL_delete_6)
theorem mw_L_delete : MSW yL_delete cL_delete 3 (some .long) [(0, 6, 7, 15), (0, 6, 12, 23)] 2 := ⟨tw_675, tw_0, tw_676, ⟨by decide +kernel, by decide +kernel⟩, by decide +kernel⟩
set_option maxRecDepth 100000 in
set_option maxHeartbeats 4000000 in
theorem c_L_nap (l : Launch) (X : XT) (D : DT) (P : PT) (hfl : l.stackTraces = false) (M : DT) (W : Nat) (h : RI D P M W) (hW : W + 200 < 2 ^ 29) (view : Int32) : LM l X yL_nap (.codeWith yL_nap cL_nap 3 (some .long) [(0, 6, 7, 15), (0, 6, 12, 23)]) ({ frames := 8, cells := 2, slots := 12, locals := 288 } : Room) [.ref (X.2.2 0), .int view] (qL X (fun r D' P' => QE (kNap (M 7) view) ((nI (nps (m_nap (M 7) (ix view))) : Int32).toInt64) cIS (va_up (m_save (clr M)) 7 (m_nap (M 7) (ix view))) M W r D' P')) D P 2 12 := by
  refine lm_ofH (by decide +kernel) (Nat.le_of_ble_eq_true rfl) ?_
  intro K hKl hKR C hT Z hNC
  have hfl2 : K.2.1.stackTraces = false := by rw [hKl]; exact hfl
  refine PV_lv (lv' := [some (.ref (X.2.2 0)), some (.int view), none]) rfl ?_
  refine pv_aload_n (q := 1) C dL_nap_0 rfl rfl rfl ?_
  refine pv_iload_n (q := 2) C dL_nap_1 rfl rfl rfl ?_
  refine pv_callVixH (q := 5) (rest := []) C Z hKl (c_X6_nap l X D P (hKl ▸ hfl2) M W h hW view) tw_688 (show kd 0 = 6 from rfl) (by decide) rfl mm_X6_nap ⟨rfl, rfl⟩ (by rw [hKR]; exact ⟨Nat.le_of_ble_eq_true rfl, Nat.le_of_ble_eq_true rfl⟩) (by rw [hKR]; exact ⟨Nat.le_of_ble_eq_true rfl, Nat.le_of_ble_eq_true rfl⟩) rfl rfl rfl (Nat.le_of_ble_eq_true rfl) dL_nap_2 rfl (fun e9 D2 P2 hx => ?_) (fun r D2 P2 hp => ?_)
  ·
    obtain ⟨hx, hF, hPP⟩ := hx
    rcases hx with ⟨rfl, hK⟩ | ⟨rfl, hK⟩
    ·
      refine ⟨[], ⟨0, 6, 7, 15⟩, [⟨0, 6, 12, 23⟩], hT, (fun z hz => nomatch hz), by decide, by decide, tw_601, NG_c Z (List.mem_of_getElem? (i := 2) rfl), fun q9 => ?_⟩
      refine pv_astore_n (q := 8) C dL_nap_7 rfl rfl (Nat.le_of_ble_eq_true rfl) rfl ?_
      refine pv_ldc2 (q := 11) C dL_nap_8 rfl tw_654 ?_
      exact XK.of (pv_lret C (QE_no h hK (by decide) hF hPP rfl) (by omega) (by omega) dL_nap_11)
    ·
      refine ⟨[⟨0, 6, 7, 15⟩], ⟨0, 6, 12, 23⟩, [], hT, (fun z hz => by
              simp only [List.mem_cons, List.not_mem_nil, or_false] at hz
              rcases hz with rfl
              · exact Or.inr ⟨by decide, eIOE, tw_601, hNC.2.1⟩), by decide, by decide, tw_271, NG_c Z (List.mem_of_getElem? (i := 1) rfl), fun q9 => ?_⟩
      refine pv_astore_n (q := 13) C dL_nap_12 rfl rfl (Nat.le_of_ble_eq_true rfl) rfl ?_
      refine pv_ldc2 (q := 16) C dL_nap_13 rfl tw_352 ?_
      exact XK.of (pv_lret C (QE_no h hK (by decide) hF hPP rfl) (by omega) (by omega) dL_nap_16)
  ·
    obtain ⟨hK, rfl, hRI2, hF⟩ := hp
    refine pv_i2l (q := 6) C dL_nap_5 rfl ?_
    exact XK.of (pv_lret C (QE_ok hRI2 hK rfl) (by omega) (by omega) dL_nap_6)
theorem mw_L_nap : MSW yL_nap cL_nap 3 (some .long) [(0, 6, 7, 15), (0, 6, 12, 23)] 2 := ⟨tw_686, tw_0, tw_687, ⟨by decide +kernel, by decide +kernel⟩, by decide +kernel⟩
set_option maxRecDepth 100000 in
set_option maxHeartbeats 4000000 in
theorem c_L_wake (l : Launch) (X : XT) (D : DT) (P : PT) (hfl : l.stackTraces = false) (M : DT) (W : Nat) (h : RI D P M W) (hW : W + 200 < 2 ^ 29) (view : Int32) : LM l X yL_wake (.codeWith yL_wake cL_wake 3 (some .long) [(0, 6, 7, 15), (0, 6, 12, 23)]) ({ frames := 8, cells := 2, slots := 12, locals := 288 } : Room) [.ref (X.2.2 0), .int view] (qL X (fun r D' P' => QE (kWak (M 7) view) ((wt (M 7) (ix view) : Int32).toInt64) cIS (va_up (m_save (clr M)) 7 (m_wake (M 7) (ix view))) M W r D' P')) D P 2 12 := by
  refine lm_ofH (by decide +kernel) (Nat.le_of_ble_eq_true rfl) ?_
  intro K hKl hKR C hT Z hNC
  have hfl2 : K.2.1.stackTraces = false := by rw [hKl]; exact hfl
  refine PV_lv (lv' := [some (.ref (X.2.2 0)), some (.int view), none]) rfl ?_
  refine pv_aload_n (q := 1) C dL_wake_0 rfl rfl rfl ?_
  refine pv_iload_n (q := 2) C dL_wake_1 rfl rfl rfl ?_
  refine pv_callVixH (q := 5) (rest := []) C Z hKl (c_X6_wake l X D P (hKl ▸ hfl2) M W h hW view) tw_704 (show kd 0 = 6 from rfl) (by decide) rfl mm_X6_wake ⟨rfl, rfl⟩ (by rw [hKR]; exact ⟨Nat.le_of_ble_eq_true rfl, Nat.le_of_ble_eq_true rfl⟩) (by rw [hKR]; exact ⟨Nat.le_of_ble_eq_true rfl, Nat.le_of_ble_eq_true rfl⟩) rfl rfl rfl (Nat.le_of_ble_eq_true rfl) dL_wake_2 rfl (fun e9 D2 P2 hx => ?_) (fun r D2 P2 hp => ?_)
  ·
    obtain ⟨hx, hF, hPP⟩ := hx
    rcases hx with ⟨rfl, hK⟩ | ⟨rfl, hK⟩
    ·
      refine ⟨[], ⟨0, 6, 7, 15⟩, [⟨0, 6, 12, 23⟩], hT, (fun z hz => nomatch hz), by decide, by decide, tw_601, NG_c Z (List.mem_of_getElem? (i := 2) rfl), fun q9 => ?_⟩
      refine pv_astore_n (q := 8) C dL_wake_7 rfl rfl (Nat.le_of_ble_eq_true rfl) rfl ?_
      refine pv_ldc2 (q := 11) C dL_wake_8 rfl tw_654 ?_
      exact XK.of (pv_lret C (QE_no h hK (by decide) hF hPP rfl) (by omega) (by omega) dL_wake_11)
    ·
      refine ⟨[⟨0, 6, 7, 15⟩], ⟨0, 6, 12, 23⟩, [], hT, (fun z hz => by
              simp only [List.mem_cons, List.not_mem_nil, or_false] at hz
              rcases hz with rfl
              · exact Or.inr ⟨by decide, eIOE, tw_601, hNC.2.1⟩), by decide, by decide, tw_271, NG_c Z (List.mem_of_getElem? (i := 1) rfl), fun q9 => ?_⟩
      refine pv_astore_n (q := 13) C dL_wake_12 rfl rfl (Nat.le_of_ble_eq_true rfl) rfl ?_
      refine pv_ldc2 (q := 16) C dL_wake_13 rfl tw_352 ?_
      exact XK.of (pv_lret C (QE_no h hK (by decide) hF hPP rfl) (by omega) (by omega) dL_wake_16)
  ·
    obtain ⟨hK, rfl, hRI2, hF⟩ := hp
    refine pv_i2l (q := 6) C dL_wake_5 rfl ?_
    exact XK.of (pv_lret C (QE_ok hRI2 hK rfl) (by omega) (by omega) dL_wake_6)
theorem mw_L_wake : MSW yL_wake cL_wake 3 (some .long) [(0, 6, 7, 15), (0, 6, 12, 23)] 2 := ⟨tw_702, tw_0, tw_703, ⟨by decide +kernel, by decide +kernel⟩, by decide +kernel⟩
set_option maxRecDepth 100000 in
set_option maxHeartbeats 4000000 in
theorem c_L_refresh (l : Launch) (X : XT) (D : DT) (P : PT) (hfl : l.stackTraces = false) (M : DT) (W : Nat) (h : RI D P M W) (hW : W + 200 < 2 ^ 29) (view : Int32) : LM l X yL_refresh (.codeWith yL_refresh cL_refresh 3 (some .long) [(0, 6, 7, 15)]) ({ frames := 8, cells := 2, slots := 12, locals := 288 } : Room) [.ref (X.2.2 0), .int view] (qL X (fun r D' P' => QE (kView view) ((wt (M 7) (ix view) : Int32).toInt64) cI (va_up (m_save (clr M)) 7 (m_ref (M 7) (ix view))) M W r D' P')) D P 2 12 := by
  refine lm_ofH (by decide +kernel) (Nat.le_of_ble_eq_true rfl) ?_
  intro K hKl hKR C hT Z hNC
  have hfl2 : K.2.1.stackTraces = false := by rw [hKl]; exact hfl
  refine PV_lv (lv' := [some (.ref (X.2.2 0)), some (.int view), none]) rfl ?_
  refine pv_aload_n (q := 1) C dL_refresh_0 rfl rfl rfl ?_
  refine pv_iload_n (q := 2) C dL_refresh_1 rfl rfl rfl ?_
  refine pv_callVixH (q := 5) (rest := []) C Z hKl (c_X6_refresh l X D P (hKl ▸ hfl2) M W h hW view) tw_713 (show kd 0 = 6 from rfl) (by decide) rfl mm_X6_refresh ⟨rfl, rfl⟩ (by rw [hKR]; exact ⟨Nat.le_of_ble_eq_true rfl, Nat.le_of_ble_eq_true rfl⟩) (by rw [hKR]; exact ⟨Nat.le_of_ble_eq_true rfl, Nat.le_of_ble_eq_true rfl⟩) rfl rfl rfl (Nat.le_of_ble_eq_true rfl) dL_refresh_2 rfl (fun e9 D2 P2 hx => ?_) (fun r D2 P2 hp => ?_)
  ·
    obtain ⟨⟨rfl, hK⟩, hF, hPP⟩ := hx
    refine ⟨[], ⟨0, 6, 7, 15⟩, [], hT, (fun z hz => nomatch hz), by decide, by decide, tw_601, NG_c Z (List.mem_of_getElem? (i := 2) rfl), fun q9 => ?_⟩
    refine pv_astore_n (q := 8) C dL_refresh_7 rfl rfl (Nat.le_of_ble_eq_true rfl) rfl ?_
    refine pv_ldc2 (q := 11) C dL_refresh_8 rfl tw_654 ?_
    exact XK.of (pv_lret C (QE_no h hK (by decide) hF hPP rfl) (by omega) (by omega) dL_refresh_11)
  ·
    obtain ⟨hK, rfl, hRI2, hF⟩ := hp
    refine pv_i2l (q := 6) C dL_refresh_5 rfl ?_
    exact XK.of (pv_lret C (QE_ok hRI2 hK rfl) (by omega) (by omega) dL_refresh_6)
theorem mw_L_refresh : MSW yL_refresh cL_refresh 3 (some .long) [(0, 6, 7, 15)] 2 := ⟨tw_711, tw_0, tw_712, ⟨by decide +kernel, by decide +kernel⟩, by decide +kernel⟩
set_option maxRecDepth 100000 in
set_option maxHeartbeats 4000000 in
theorem c_L_setFilter (l : Launch) (X : XT) (D : DT) (P : PT) (hfl : l.stackTraces = false) (M : DT) (W : Nat) (h : RI D P M W) (hW : W + 200 < 2 ^ 29) (view least : Int32) : LM l X yL_setFilter (.codeWith yL_setFilter cL_setFilter 4 (some .long) [(0, 7, 8, 15), (0, 7, 13, 19)]) ({ frames := 8, cells := 2, slots := 12, locals := 288 } : Room) [.ref (X.2.2 0), .int view, .int least] (qL X (fun r D' P' => QE (kSet view least (-99) 99) ((M 7 (32 + 38 * ix view + 34) : Int32).toInt64) cIX (va_up (m_save (clr M)) 7 (m_ref (setV (M 7) (ix view) 34 least) (ix view))) M W r D' P')) D P 2 12 := by
  refine lm_ofH (by decide +kernel) (Nat.le_of_ble_eq_true rfl) ?_
  intro K hKl hKR C hT Z hNC
  have hfl2 : K.2.1.stackTraces = false := by rw [hKl]; exact hfl
  refine PV_lv (lv' := [some (.ref (X.2.2 0)), some (.int view), some (.int least), none]) rfl ?_
  refine pv_aload_n (q := 1) C dL_setFilter_0 rfl rfl rfl ?_
  refine pv_iload_n (q := 2) C dL_setFilter_1 rfl rfl rfl ?_
  refine pv_iload_n (q := 3) C dL_setFilter_2 rfl rfl rfl ?_
  refine pv_callVixH (q := 6) (rest := []) C Z hKl (c_X6_setFilter l X D P (hKl ▸ hfl2) M W h hW view least) tw_729 (show kd 0 = 6 from rfl) (by decide) rfl mm_X6_setFilter ⟨rfl, rfl⟩ (by rw [hKR]; exact ⟨Nat.le_of_ble_eq_true rfl, Nat.le_of_ble_eq_true rfl⟩) (by rw [hKR]; exact ⟨Nat.le_of_ble_eq_true rfl, Nat.le_of_ble_eq_true rfl⟩) rfl rfl rfl (Nat.le_of_ble_eq_true rfl) dL_setFilter_3 rfl (fun e9 D2 P2 hx => ?_) (fun r D2 P2 hp => ?_)
  ·
    obtain ⟨hx, hF, hPP⟩ := hx
    rcases hx with ⟨rfl, hK⟩ | ⟨rfl, hK⟩
    ·
      refine ⟨[], ⟨0, 7, 8, 15⟩, [⟨0, 7, 13, 19⟩], hT, (fun z hz => nomatch hz), by decide, by decide, tw_601, NG_c Z (List.mem_of_getElem? (i := 2) rfl), fun q9 => ?_⟩
      refine pv_astore_n (q := 9) C dL_setFilter_8 rfl rfl (Nat.le_of_ble_eq_true rfl) rfl ?_
      refine pv_ldc2 (q := 12) C dL_setFilter_9 rfl tw_654 ?_
      exact XK.of (pv_lret C (QE_no h hK (by decide) hF hPP rfl) (by omega) (by omega) dL_setFilter_12)
    ·
      refine ⟨[⟨0, 7, 8, 15⟩], ⟨0, 7, 13, 19⟩, [], hT, (fun z hz => by
              simp only [List.mem_cons, List.not_mem_nil, or_false] at hz
              rcases hz with rfl
              · exact Or.inr ⟨by decide, eIOE, tw_601, hNC.1⟩), by decide, by decide, tw_602, NG_c Z (List.mem_of_getElem? (i := 3) rfl), fun q9 => ?_⟩
      refine pv_astore_n (q := 14) C dL_setFilter_13 rfl rfl (Nat.le_of_ble_eq_true rfl) rfl ?_
      refine pv_ldc2 (q := 17) C dL_setFilter_14 rfl tw_655 ?_
      exact XK.of (pv_lret C (QE_no h hK (by decide) hF hPP rfl) (by omega) (by omega) dL_setFilter_17)
  ·
    obtain ⟨hK, rfl, hRI2, hF⟩ := hp
    refine pv_i2l (q := 7) C dL_setFilter_6 rfl ?_
    exact XK.of (pv_lret C (QE_ok hRI2 hK rfl) (by omega) (by omega) dL_setFilter_7)
theorem mw_L_setFilter : MSW yL_setFilter cL_setFilter 4 (some .long) [(0, 7, 8, 15), (0, 7, 13, 19)] 3 := ⟨tw_727, tw_0, tw_728, ⟨by decide +kernel, by decide +kernel⟩, by decide +kernel⟩
set_option maxRecDepth 100000 in
set_option maxHeartbeats 4000000 in
theorem c_L_setBehind (l : Launch) (X : XT) (D : DT) (P : PT) (hfl : l.stackTraces = false) (M : DT) (W : Nat) (h : RI D P M W) (hW : W + 200 < 2 ^ 29) (view deltas : Int32) : LM l X yL_setBehind (.codeWith yL_setBehind cL_setBehind 4 (some .long) [(0, 7, 8, 15), (0, 7, 13, 19)]) ({ frames := 8, cells := 2, slots := 12, locals := 288 } : Room) [.ref (X.2.2 0), .int view, .int deltas] (qL X (fun r D' P' => QE (kSet view deltas 1 30) ((M 7 (32 + 38 * ix view + 35) : Int32).toInt64) cIX (va_up (m_save (clr M)) 7 (m_settle (setV (M 7) (ix view) 35 deltas))) M W r D' P')) D P 2 12 := by
  refine lm_ofH (by decide +kernel) (Nat.le_of_ble_eq_true rfl) ?_
  intro K hKl hKR C hT Z hNC
  have hfl2 : K.2.1.stackTraces = false := by rw [hKl]; exact hfl
  refine PV_lv (lv' := [some (.ref (X.2.2 0)), some (.int view), some (.int deltas), none]) rfl ?_
  refine pv_aload_n (q := 1) C dL_setBehind_0 rfl rfl rfl ?_
  refine pv_iload_n (q := 2) C dL_setBehind_1 rfl rfl rfl ?_
  refine pv_iload_n (q := 3) C dL_setBehind_2 rfl rfl rfl ?_
  refine pv_callVixH (q := 6) (rest := []) C Z hKl (c_X6_setBehind l X D P (hKl ▸ hfl2) M W h hW view deltas) tw_736 (show kd 0 = 6 from rfl) (by decide) rfl mm_X6_setBehind ⟨rfl, rfl⟩ (by rw [hKR]; exact ⟨Nat.le_of_ble_eq_true rfl, Nat.le_of_ble_eq_true rfl⟩) (by rw [hKR]; exact ⟨Nat.le_of_ble_eq_true rfl, Nat.le_of_ble_eq_true rfl⟩) rfl rfl rfl (Nat.le_of_ble_eq_true rfl) dL_setBehind_3 rfl (fun e9 D2 P2 hx => ?_) (fun r D2 P2 hp => ?_)
  ·
    obtain ⟨hx, hF, hPP⟩ := hx
    rcases hx with ⟨rfl, hK⟩ | ⟨rfl, hK⟩
    ·
      refine ⟨[], ⟨0, 7, 8, 15⟩, [⟨0, 7, 13, 19⟩], hT, (fun z hz => nomatch hz), by decide, by decide, tw_601, NG_c Z (List.mem_of_getElem? (i := 2) rfl), fun q9 => ?_⟩
      refine pv_astore_n (q := 9) C dL_setBehind_8 rfl rfl (Nat.le_of_ble_eq_true rfl) rfl ?_
      refine pv_ldc2 (q := 12) C dL_setBehind_9 rfl tw_654 ?_
      exact XK.of (pv_lret C (QE_no h hK (by decide) hF hPP rfl) (by omega) (by omega) dL_setBehind_12)
    ·
      refine ⟨[⟨0, 7, 8, 15⟩], ⟨0, 7, 13, 19⟩, [], hT, (fun z hz => by
              simp only [List.mem_cons, List.not_mem_nil, or_false] at hz
              rcases hz with rfl
              · exact Or.inr ⟨by decide, eIOE, tw_601, hNC.1⟩), by decide, by decide, tw_602, NG_c Z (List.mem_of_getElem? (i := 3) rfl), fun q9 => ?_⟩
      refine pv_astore_n (q := 14) C dL_setBehind_13 rfl rfl (Nat.le_of_ble_eq_true rfl) rfl ?_
      refine pv_ldc2 (q := 17) C dL_setBehind_14 rfl tw_655 ?_
      exact XK.of (pv_lret C (QE_no h hK (by decide) hF hPP rfl) (by omega) (by omega) dL_setBehind_17)
  ·
    obtain ⟨hK, rfl, hRI2, hF⟩ := hp
    refine pv_i2l (q := 7) C dL_setBehind_6 rfl ?_
    exact XK.of (pv_lret C (QE_ok hRI2 hK rfl) (by omega) (by omega) dL_setBehind_7)
theorem mw_L_setBehind : MSW yL_setBehind cL_setBehind 4 (some .long) [(0, 7, 8, 15), (0, 7, 13, 19)] 3 := ⟨tw_734, tw_0, tw_735, ⟨by decide +kernel, by decide +kernel⟩, by decide +kernel⟩
set_option maxRecDepth 100000 in
set_option maxHeartbeats 4000000 in
theorem c_L_setLongest (l : Launch) (X : XT) (D : DT) (P : PT) (hfl : l.stackTraces = false) (M : DT) (W : Nat) (h : RI D P M W) (hW : W + 200 < 2 ^ 29) (view ticks : Int32) : LM l X yL_setLongest (.codeWith yL_setLongest cL_setLongest 4 (some .long) [(0, 7, 8, 15), (0, 7, 13, 19)]) ({ frames := 8, cells := 2, slots := 12, locals := 288 } : Room) [.ref (X.2.2 0), .int view, .int ticks] (qL X (fun r D' P' => QE (kSet view ticks 1 30) ((M 7 (32 + 38 * ix view + 36) : Int32).toInt64) cIX (va_up (m_save (clr M)) 7 (setV (M 7) (ix view) 36 ticks)) M W r D' P')) D P 2 12 := by
  refine lm_ofH (by decide +kernel) (Nat.le_of_ble_eq_true rfl) ?_
  intro K hKl hKR C hT Z hNC
  have hfl2 : K.2.1.stackTraces = false := by rw [hKl]; exact hfl
  refine PV_lv (lv' := [some (.ref (X.2.2 0)), some (.int view), some (.int ticks), none]) rfl ?_
  refine pv_aload_n (q := 1) C dL_setLongest_0 rfl rfl rfl ?_
  refine pv_iload_n (q := 2) C dL_setLongest_1 rfl rfl rfl ?_
  refine pv_iload_n (q := 3) C dL_setLongest_2 rfl rfl rfl ?_
  refine pv_callVixH (q := 6) (rest := []) C Z hKl (c_X6_setLongest l X D P (hKl ▸ hfl2) M W h hW view ticks) tw_748 (show kd 0 = 6 from rfl) (by decide) rfl mm_X6_setLongest ⟨rfl, rfl⟩ (by rw [hKR]; exact ⟨Nat.le_of_ble_eq_true rfl, Nat.le_of_ble_eq_true rfl⟩) (by rw [hKR]; exact ⟨Nat.le_of_ble_eq_true rfl, Nat.le_of_ble_eq_true rfl⟩) rfl rfl rfl (Nat.le_of_ble_eq_true rfl) dL_setLongest_3 rfl (fun e9 D2 P2 hx => ?_) (fun r D2 P2 hp => ?_)
  ·
    obtain ⟨hx, hF, hPP⟩ := hx
    rcases hx with ⟨rfl, hK⟩ | ⟨rfl, hK⟩
    ·
      refine ⟨[], ⟨0, 7, 8, 15⟩, [⟨0, 7, 13, 19⟩], hT, (fun z hz => nomatch hz), by decide, by decide, tw_601, NG_c Z (List.mem_of_getElem? (i := 2) rfl), fun q9 => ?_⟩
      refine pv_astore_n (q := 9) C dL_setLongest_8 rfl rfl (Nat.le_of_ble_eq_true rfl) rfl ?_
      refine pv_ldc2 (q := 12) C dL_setLongest_9 rfl tw_654 ?_
      exact XK.of (pv_lret C (QE_no h hK (by decide) hF hPP rfl) (by omega) (by omega) dL_setLongest_12)
    ·
      refine ⟨[⟨0, 7, 8, 15⟩], ⟨0, 7, 13, 19⟩, [], hT, (fun z hz => by
              simp only [List.mem_cons, List.not_mem_nil, or_false] at hz
              rcases hz with rfl
              · exact Or.inr ⟨by decide, eIOE, tw_601, hNC.1⟩), by decide, by decide, tw_602, NG_c Z (List.mem_of_getElem? (i := 3) rfl), fun q9 => ?_⟩
      refine pv_astore_n (q := 14) C dL_setLongest_13 rfl rfl (Nat.le_of_ble_eq_true rfl) rfl ?_
      refine pv_ldc2 (q := 17) C dL_setLongest_14 rfl tw_655 ?_
      exact XK.of (pv_lret C (QE_no h hK (by decide) hF hPP rfl) (by omega) (by omega) dL_setLongest_17)
  ·
    obtain ⟨hK, rfl, hRI2, hF⟩ := hp
    refine pv_i2l (q := 7) C dL_setLongest_6 rfl ?_
    exact XK.of (pv_lret C (QE_ok hRI2 hK rfl) (by omega) (by omega) dL_setLongest_7)
theorem mw_L_setLongest : MSW yL_setLongest cL_setLongest 4 (some .long) [(0, 7, 8, 15), (0, 7, 13, 19)] 3 := ⟨tw_746, tw_0, tw_747, ⟨by decide +kernel, by decide +kernel⟩, by decide +kernel⟩
set_option maxRecDepth 100000 in
set_option maxHeartbeats 4000000 in
theorem c_L_pass (l : Launch) (X : XT) (D : DT) (P : PT) (hfl : l.stackTraces = false) (M : DT) (W : Nat) (h : RI D P M W) (hW : W + 200 < 2 ^ 29) (ticks : Int32) : LM l X yL_pass (.codeWith yL_pass cL_pass 3 (some .long) [(0, 6, 7, 19)]) ({ frames := 7, cells := 1, slots := 6, locals := 252 } : Room) [.ref (X.2.2 0), .int ticks] (qL X (fun r D' P' => QE (kRg ticks 1 30) ((m_ticks (M 7) (ix ticks) 181 - M 7 181 : Int32).toInt64) cX (va_up (m_save (clr M)) 7 (m_ticks (M 7) (ix ticks))) M W r D' P')) D P 1 6 := by
  refine lm_ofH (by decide +kernel) (Nat.le_of_ble_eq_true rfl) ?_
  intro K hKl hKR C hT Z hNC
  have hfl2 : K.2.1.stackTraces = false := by rw [hKl]; exact hfl
  refine PV_lv (lv' := [some (.ref (X.2.2 0)), some (.int ticks), none]) rfl ?_
  refine pv_aload_n (q := 1) C dL_pass_0 rfl rfl rfl ?_
  refine pv_iload_n (q := 2) C dL_pass_1 rfl rfl rfl ?_
  refine pv_callVixH (q := 5) (rest := []) C Z hKl (c_X6_pass l X D P (hKl ▸ hfl2) M W h hW ticks) tw_755 (show kd 0 = 6 from rfl) (by decide) rfl mm_X6_pass ⟨rfl, rfl⟩ (by rw [hKR]; exact ⟨Nat.le_of_ble_eq_true rfl, Nat.le_of_ble_eq_true rfl⟩) (by rw [hKR]; exact ⟨Nat.le_of_ble_eq_true rfl, Nat.le_of_ble_eq_true rfl⟩) rfl rfl rfl (Nat.le_of_ble_eq_true rfl) dL_pass_2 rfl (fun e9 D2 P2 hx => ?_) (fun r D2 P2 hp => ?_)
  ·
    obtain ⟨⟨rfl, hK⟩, hF, hPP⟩ := hx
    refine ⟨[], ⟨0, 6, 7, 19⟩, [], hT, (fun z hz => nomatch hz), by decide, by decide, tw_602, NG_c Z (List.mem_of_getElem? (i := 3) rfl), fun q9 => ?_⟩
    refine pv_astore_n (q := 8) C dL_pass_7 rfl rfl (Nat.le_of_ble_eq_true rfl) rfl ?_
    refine pv_ldc2 (q := 11) C dL_pass_8 rfl tw_655 ?_
    exact XK.of (pv_lret C (QE_no h hK (by decide) hF hPP rfl) (by omega) (by omega) dL_pass_11)
  ·
    obtain ⟨hK, rfl, hRI2, hF⟩ := hp
    refine pv_i2l (q := 6) C dL_pass_5 rfl ?_
    exact XK.of (pv_lret C (QE_ok hRI2 hK rfl) (by omega) (by omega) dL_pass_6)
theorem mw_L_pass : MSW yL_pass cL_pass 3 (some .long) [(0, 6, 7, 19)] 2 := ⟨tw_753, tw_0, tw_754, ⟨by decide +kernel, by decide +kernel⟩, by decide +kernel⟩
set_option maxRecDepth 100000 in
set_option maxHeartbeats 4000000 in
theorem c_L_append (l : Launch) (X : XT) (D : DT) (P : PT) (hfl : l.stackTraces = false) (M : DT) (W : Nat) (h : RI D P M W) (hW : W + 200 < 2 ^ 29) (n : Nat) (hn60 : n ≤ 60) (hn9 : M 6 9 = nI n) (code : Int32) : LM l X yL_append (.codeWith yL_append cL_append 3 (some .long) [(0, 6, 7, 19), (0, 6, 12, 23)]) ({ frames := 7, cells := 2, slots := 12, locals := 252 } : Room) [.ref (X.2.2 0), .int code] (qL X (fun r D' P' => QE (kApp n code) ((nI n + 1 : Int32).toInt64) cXS (up2 (up2 (clr M) 12 n code) 6 9 (nI n + 1)) M W r D' P')) D P 2 12 := by
  refine lm_ofH (by decide +kernel) (Nat.le_of_ble_eq_true rfl) ?_
  intro K hKl hKR C hT Z hNC
  have hfl2 : K.2.1.stackTraces = false := by rw [hKl]; exact hfl
  refine PV_lv (lv' := [some (.ref (X.2.2 0)), some (.int code), none]) rfl ?_
  refine pv_aload_n (q := 1) C dL_append_0 rfl rfl rfl ?_
  refine pv_iload_n (q := 2) C dL_append_1 rfl rfl rfl ?_
  refine pv_callVixH (q := 5) (rest := []) C Z hKl (c_X6_append l X D P (hKl ▸ hfl2) M W h hW n hn60 hn9 code) tw_771 (show kd 0 = 6 from rfl) (by decide) rfl mm_X6_append ⟨rfl, rfl⟩ (by rw [hKR]; exact ⟨Nat.le_of_ble_eq_true rfl, Nat.le_of_ble_eq_true rfl⟩) (by rw [hKR]; exact ⟨Nat.le_of_ble_eq_true rfl, Nat.le_of_ble_eq_true rfl⟩) rfl rfl rfl (Nat.le_of_ble_eq_true rfl) dL_append_2 rfl (fun e9 D2 P2 hx => ?_) (fun r D2 P2 hp => ?_)
  ·
    obtain ⟨hx, hF, hPP⟩ := hx
    rcases hx with ⟨rfl, hK⟩ | ⟨rfl, hK⟩
    ·
      refine ⟨[], ⟨0, 6, 7, 19⟩, [⟨0, 6, 12, 23⟩], hT, (fun z hz => nomatch hz), by decide, by decide, tw_602, NG_c Z (List.mem_of_getElem? (i := 3) rfl), fun q9 => ?_⟩
      refine pv_astore_n (q := 8) C dL_append_7 rfl rfl (Nat.le_of_ble_eq_true rfl) rfl ?_
      refine pv_ldc2 (q := 11) C dL_append_8 rfl tw_655 ?_
      exact XK.of (pv_lret C (QE_no h hK (by decide) hF hPP rfl) (by omega) (by omega) dL_append_11)
    ·
      refine ⟨[⟨0, 6, 7, 19⟩], ⟨0, 6, 12, 23⟩, [], hT, (fun z hz => by
              simp only [List.mem_cons, List.not_mem_nil, or_false] at hz
              rcases hz with rfl
              · exact Or.inr ⟨by decide, eIAE, tw_602, hNC.2.2⟩), by decide, by decide, tw_271, NG_c Z (List.mem_of_getElem? (i := 1) rfl), fun q9 => ?_⟩
      refine pv_astore_n (q := 13) C dL_append_12 rfl rfl (Nat.le_of_ble_eq_true rfl) rfl ?_
      refine pv_ldc2 (q := 16) C dL_append_13 rfl tw_352 ?_
      exact XK.of (pv_lret C (QE_no h hK (by decide) hF hPP rfl) (by omega) (by omega) dL_append_16)
  ·
    obtain ⟨hK, rfl, hRI2, hF⟩ := hp
    refine pv_i2l (q := 6) C dL_append_5 rfl ?_
    exact XK.of (pv_lret C (QE_ok hRI2 hK rfl) (by omega) (by omega) dL_append_6)
theorem mw_L_append : MSW yL_append cL_append 3 (some .long) [(0, 6, 7, 19), (0, 6, 12, 23)] 2 := ⟨tw_769, tw_0, tw_770, ⟨by decide +kernel, by decide +kernel⟩, by decide +kernel⟩
set_option maxRecDepth 100000 in
set_option maxHeartbeats 4000000 in
theorem c_L_replay (l : Launch) (X : XT) (D : DT) (P : PT) (hfl : l.stackTraces = false) (M : DT) (W : Nat) (h : RI D P M W) (hW : W + 200 < 2 ^ 29) (n : Nat) (hn60 : n ≤ 60) (hn9 : M 6 9 = nI n)  : LM l X yL_replay (.codeWith yL_replay cL_replay 2 (some .long) [(0, 5, 6, 19)]) ({ frames := 7, cells := 1, slots := 6, locals := 252 } : Room) [.ref (X.2.2 0)] (qL X (fun r D' P' => QE (kRpl M n) (((rFin (M 12) n (M 7)).2.2 : Int32).toInt64) cX (m_rpl M n) M W r D' P')) D P 1 6 := by
  refine lm_ofH (by decide +kernel) (Nat.le_of_ble_eq_true rfl) ?_
  intro K hKl hKR C hT Z hNC
  have hfl2 : K.2.1.stackTraces = false := by rw [hKl]; exact hfl
  refine PV_lv (lv' := [some (.ref (X.2.2 0)), none]) rfl ?_
  refine pv_aload_n (q := 1) C dL_replay_0 rfl rfl rfl ?_
  refine pv_callVixH (q := 4) (rest := []) C Z hKl (c_X6_replay l X D P (hKl ▸ hfl2) M W h hW n hn60 hn9) tw_999 (show kd 0 = 6 from rfl) (by decide) rfl mm_X6_replay ⟨rfl, rfl⟩ (by rw [hKR]; exact ⟨Nat.le_of_ble_eq_true rfl, Nat.le_of_ble_eq_true rfl⟩) (by rw [hKR]; exact ⟨Nat.le_of_ble_eq_true rfl, Nat.le_of_ble_eq_true rfl⟩) rfl rfl rfl (Nat.le_of_ble_eq_true rfl) dL_replay_1 rfl (fun e9 D2 P2 hx => ?_) (fun r D2 P2 hp => ?_)
  ·
    obtain ⟨⟨rfl, hK⟩, hRI2, hF⟩ := hx
    refine ⟨[], ⟨0, 5, 6, 19⟩, [], hT, (fun z hz => nomatch hz), by decide, by decide, tw_602, NG_c Z (List.mem_of_getElem? (i := 3) rfl), fun q9 => ?_⟩
    refine pv_astore_n (q := 7) C dL_replay_6 rfl rfl (Nat.le_of_ble_eq_true rfl) rfl ?_
    refine pv_ldc2 (q := 10) C dL_replay_7 rfl tw_655 ?_
    exact XK.of (pv_lret C (QE_no2 hRI2 hK (by decide) rfl) (by omega) (by omega) dL_replay_10)
  ·
    obtain ⟨hK, rfl, hRI2, hF⟩ := hp
    refine pv_i2l (q := 5) C dL_replay_4 rfl ?_
    exact XK.of (pv_lret C (QE_ok hRI2 hK rfl) (by omega) (by omega) dL_replay_5)
theorem mw_L_replay : MSW yL_replay cL_replay 2 (some .long) [(0, 5, 6, 19)] 1 := ⟨tw_997, tw_0, tw_998, ⟨by decide +kernel, by decide +kernel⟩, by decide +kernel⟩
set_option maxRecDepth 100000 in
set_option maxHeartbeats 4000000 in
theorem c_L_stopped (l : Launch) (X : XT) (D : DT) (P : PT) (hfl : l.stackTraces = false) (M : DT) (W : Nat) (h : RI D P M W)  : LM l X yL_stopped (.codeWith yL_stopped cL_stopped 2 (some .long) [(0, 5, 6, 23)]) ({ frames := 7, cells := 1, slots := 6, locals := 252 } : Room) [.ref (X.2.2 0)] (qL X (fun r D' P' => QK (wv (if M 7 183 = -1 then 1 else 0) ((M 7 183 : Int32).toInt64) cS) M W r D' P')) D P 1 6 := by
  refine lm_ofH (by decide +kernel) (Nat.le_of_ble_eq_true rfl) ?_
  intro K hKl hKR C hT Z hNC
  have hfl2 : K.2.1.stackTraces = false := by rw [hKl]; exact hfl
  refine PV_lv (lv' := [some (.ref (X.2.2 0)), none]) rfl ?_
  refine pv_aload_n (q := 1) C dL_stopped_0 rfl rfl rfl ?_
  refine pv_callVixH (q := 4) (rest := []) C Z hKl (c_X6_stoppedPart l X D P (hKl ▸ hfl2) M W h) tw_846 (show kd 0 = 6 from rfl) (by decide) rfl mm_X6_stoppedPart ⟨rfl, rfl⟩ (by rw [hKR]; exact ⟨Nat.le_of_ble_eq_true rfl, Nat.le_of_ble_eq_true rfl⟩) (by rw [hKR]; exact ⟨Nat.le_of_ble_eq_true rfl, Nat.le_of_ble_eq_true rfl⟩) rfl rfl rfl (Nat.le_of_ble_eq_true rfl) dL_stopped_1 rfl (fun e9 D2 P2 hx => ?_) (fun r D2 P2 hp => ?_)
  ·
    obtain ⟨⟨rfl, hK⟩, hF, hPP⟩ := hx
    refine ⟨[], ⟨0, 5, 6, 23⟩, [], hT, (fun z hz => nomatch hz), by decide, by decide, tw_271, NG_c Z (List.mem_of_getElem? (i := 1) rfl), fun q9 => ?_⟩
    refine pv_astore_n (q := 7) C dL_stopped_6 rfl rfl (Nat.le_of_ble_eq_true rfl) rfl ?_
    refine pv_ldc2 (q := 10) C dL_stopped_7 rfl tw_352 ?_
    exact XK.of (pv_lret C (QK_no h (kNi1 hK) (by decide) hF hPP rfl) (by omega) (by omega) dL_stopped_10)
  ·
    obtain ⟨hK, hr, hF, hPP⟩ := hp
    refine pv_i2l (q := 5) C dL_stopped_4 rfl ?_
    exact XK.of (pv_lret C (QK_ok h (kNi0 hK) hF hPP (by rw [← hr])) (by omega) (by omega) dL_stopped_5)
theorem mw_L_stopped : MSW yL_stopped cL_stopped 2 (some .long) [(0, 5, 6, 23)] 1 := ⟨tw_844, tw_0, tw_845, ⟨by decide +kernel, by decide +kernel⟩, by decide +kernel⟩
set_option maxRecDepth 100000 in
set_option maxHeartbeats 4000000 in
theorem c_L_undo (l : Launch) (X : XT) (D : DT) (P : PT) (hfl : l.stackTraces = false) (M : DT) (W : Nat) (h : RI D P M W) (hW : W + 200 < 2 ^ 29) (s : Nat) (hs5 : s ≤ 5) (hs3 : M 6 3 = nI s)  : LM l X yL_undo (.codeWith yL_undo cL_undo 2 (some .long) [(0, 5, 6, 23)]) ({ frames := 7, cells := 1, slots := 6, locals := 252 } : Room) [.ref (X.2.2 0)] (qL X (fun r D' P' => QE (if s = 0 then 1 else 0) ((nI (s - 1) : Int32).toInt64) cS (m_und (clr M) s) M W r D' P')) D P 1 6 := by
  refine lm_ofH (by decide +kernel) (Nat.le_of_ble_eq_true rfl) ?_
  intro K hKl hKR C hT Z hNC
  have hfl2 : K.2.1.stackTraces = false := by rw [hKl]; exact hfl
  refine PV_lv (lv' := [some (.ref (X.2.2 0)), none]) rfl ?_
  refine pv_aload_n (q := 1) C dL_undo_0 rfl rfl rfl ?_
  refine pv_callVixH (q := 4) (rest := []) C Z hKl (c_X6_undo l X D P (hKl ▸ hfl2) M W h hW s hs5 hs3) tw_941 (show kd 0 = 6 from rfl) (by decide) rfl mm_X6_undo ⟨rfl, rfl⟩ (by rw [hKR]; exact ⟨Nat.le_of_ble_eq_true rfl, Nat.le_of_ble_eq_true rfl⟩) (by rw [hKR]; exact ⟨Nat.le_of_ble_eq_true rfl, Nat.le_of_ble_eq_true rfl⟩) rfl rfl rfl (Nat.le_of_ble_eq_true rfl) dL_undo_1 rfl (fun e9 D2 P2 hx => ?_) (fun r D2 P2 hp => ?_)
  ·
    obtain ⟨⟨rfl, hK⟩, hF, hPP⟩ := hx
    refine ⟨[], ⟨0, 5, 6, 23⟩, [], hT, (fun z hz => nomatch hz), by decide, by decide, tw_271, NG_c Z (List.mem_of_getElem? (i := 1) rfl), fun q9 => ?_⟩
    refine pv_astore_n (q := 7) C dL_undo_6 rfl rfl (Nat.le_of_ble_eq_true rfl) rfl ?_
    refine pv_ldc2 (q := 10) C dL_undo_7 rfl tw_352 ?_
    exact XK.of (pv_lret C (QE_no h (kNi1 hK) (by decide) hF hPP rfl) (by omega) (by omega) dL_undo_10)
  ·
    obtain ⟨hK, rfl, hRI2, hF⟩ := hp
    refine pv_i2l (q := 5) C dL_undo_4 rfl ?_
    exact XK.of (pv_lret C (QE_ok hRI2 (kNi0 hK) rfl) (by omega) (by omega) dL_undo_5)
theorem mw_L_undo : MSW yL_undo cL_undo 2 (some .long) [(0, 5, 6, 23)] 1 := ⟨tw_939, tw_0, tw_940, ⟨by decide +kernel, by decide +kernel⟩, by decide +kernel⟩
set_option maxRecDepth 100000 in
set_option maxHeartbeats 4000000 in
theorem c_L_restore (l : Launch) (X : XT) (D : DT) (P : PT) (hfl : l.stackTraces = false) (M : DT) (W : Nat) (h : RI D P M W) (hW : W + 200 < 2 ^ 29)  : LM l X yL_restore (.codeWith yL_restore cL_restore 2 (some .long) [(0, 5, 6, 23)]) ({ frames := 7, cells := 1, slots := 6, locals := 252 } : Room) [.ref (X.2.2 0)] (qL X (fun r D' P' => QE (if M 6 5 = 0 then 1 else 0) ((nI (tk (M 9)) : Int32).toInt64) cS (m_rest (m_save (clr M))) M W r D' P')) D P 1 6 := by
  refine lm_ofH (by decide +kernel) (Nat.le_of_ble_eq_true rfl) ?_
  intro K hKl hKR C hT Z hNC
  have hfl2 : K.2.1.stackTraces = false := by rw [hKl]; exact hfl
  refine PV_lv (lv' := [some (.ref (X.2.2 0)), none]) rfl ?_
  refine pv_aload_n (q := 1) C dL_restore_0 rfl rfl rfl ?_
  refine pv_callVixH (q := 4) (rest := []) C Z hKl (c_X6_restore l X D P (hKl ▸ hfl2) M W h hW) tw_272 (show kd 0 = 6 from rfl) (by decide) rfl mm_X6_restore ⟨rfl, rfl⟩ (by rw [hKR]; exact ⟨Nat.le_of_ble_eq_true rfl, Nat.le_of_ble_eq_true rfl⟩) (by rw [hKR]; exact ⟨Nat.le_of_ble_eq_true rfl, Nat.le_of_ble_eq_true rfl⟩) rfl rfl rfl (Nat.le_of_ble_eq_true rfl) dL_restore_1 rfl (fun e9 D2 P2 hx => ?_) (fun r D2 P2 hp => ?_)
  ·
    obtain ⟨⟨rfl, hK⟩, hF, hPP⟩ := hx
    refine ⟨[], ⟨0, 5, 6, 23⟩, [], hT, (fun z hz => nomatch hz), by decide, by decide, tw_271, NG_c Z (List.mem_of_getElem? (i := 1) rfl), fun q9 => ?_⟩
    refine pv_astore_n (q := 7) C dL_restore_6 rfl rfl (Nat.le_of_ble_eq_true rfl) rfl ?_
    refine pv_ldc2 (q := 10) C dL_restore_7 rfl tw_352 ?_
    exact XK.of (pv_lret C (QE_no h (kNi1 hK) (by decide) hF hPP rfl) (by omega) (by omega) dL_restore_10)
  ·
    obtain ⟨hK, rfl, hRI2, hF⟩ := hp
    refine pv_i2l (q := 5) C dL_restore_4 rfl ?_
    exact XK.of (pv_lret C (QE_ok hRI2 (kNi0 hK) rfl) (by omega) (by omega) dL_restore_5)
theorem mw_L_restore : MSW yL_restore cL_restore 2 (some .long) [(0, 5, 6, 23)] 1 := ⟨tw_269, tw_0, tw_270, ⟨by decide +kernel, by decide +kernel⟩, by decide +kernel⟩
set_option maxRecDepth 100000 in
set_option maxHeartbeats 4000000 in
theorem c_L_isFree (l : Launch) (X : XT) (D : DT) (P : PT) (hfl : l.stackTraces = false) (M : DT) (W : Nat) (h : RI D P M W) (place : Int32) : LM l X yL_isFree (.codeWith yL_isFree cL_isFree 3 (some .long) [(0, 13, 14, 15)]) ({ frames := 8, cells := 1, slots := 6, locals := 288 } : Room) [.ref (X.2.2 0), .int place] (qL X (fun r D' P' => QK (wv (kRg place 0 15) ((if M 7 (ix place) = 0 then 1 else 0 : Int32).toInt64) cI) M W r D' P')) D P 1 6 := by
  refine lm_ofH (by decide +kernel) (Nat.le_of_ble_eq_true rfl) ?_
  intro K hKl hKR C hT Z hNC
  have hfl2 : K.2.1.stackTraces = false := by rw [hKl]; exact hfl
  refine PV_lv (lv' := [some (.ref (X.2.2 0)), some (.int place), none]) rfl ?_
  refine pv_aload_n (q := 1) C dL_isFree_0 rfl rfl rfl ?_
  refine pv_iload_n (q := 2) C dL_isFree_1 rfl rfl rfl ?_
  refine pv_callVixH (q := 5) (rest := []) C Z hKl (c_X6_isFree l X D P (hKl ▸ hfl2) M W h place) tw_784 (show kd 0 = 6 from rfl) (by decide) rfl mm_X6_isFree ⟨rfl, rfl⟩ (by rw [hKR]; exact ⟨Nat.le_of_ble_eq_true rfl, Nat.le_of_ble_eq_true rfl⟩) (by rw [hKR]; exact ⟨Nat.le_of_ble_eq_true rfl, Nat.le_of_ble_eq_true rfl⟩) rfl rfl rfl (Nat.le_of_ble_eq_true rfl) dL_isFree_2 rfl (fun e9 D2 P2 hx => ?_) (fun r D2 P2 hp => ?_)
  ·
    obtain ⟨⟨rfl, hK⟩, hF, hPP⟩ := hx
    refine ⟨[], ⟨0, 13, 14, 15⟩, [], hT, (fun z hz => nomatch hz), by decide, by decide, tw_601, NG_c Z (List.mem_of_getElem? (i := 2) rfl), fun q9 => ?_⟩
    refine pv_astore_n (q := 15) C dL_isFree_14 rfl rfl (Nat.le_of_ble_eq_true rfl) rfl ?_
    refine pv_ldc2 (q := 18) C dL_isFree_15 rfl tw_654 ?_
    exact XK.of (pv_lret C (QK_no h hK (by decide) hF hPP rfl) (by omega) (by omega) dL_isFree_18)
  ·
    obtain ⟨hK, hr, hF, hPP⟩ := hp
    refine pv_if_eq (q := 8) (tgt := 12) C dL_isFree_5 (by decide) rfl (fun c0 => ?_) (fun c0 => ?_)
    ·
      refine pv_lconst (q := 13) (v := 0) C dL_isFree_12 rfl (by decide) ?_
      exact XK.of (pv_lret C (QK_ok h hK hF hPP (by rw [← hr, c0]; rfl)) (by omega) (by omega) dL_isFree_13)
    ·
      refine pv_lconst (q := 9) (v := 1) C dL_isFree_8 rfl (by decide) ?_
      refine pv_goto (tgt := 13) C dL_isFree_9 (by decide) ?_
      exact XK.of (pv_lret C (QK_ok h hK hF hPP (by rw [← hr, (show r = 1 by rw [hr] at c0 ⊢; split at c0 <;> first | exact absurd rfl c0 | (split <;> first | rfl | contradiction))]; rfl)) (by omega) (by omega) dL_isFree_13)
theorem mw_L_isFree : MSW yL_isFree cL_isFree 3 (some .long) [(0, 13, 14, 15)] 2 := ⟨tw_782, tw_0, tw_783, ⟨by decide +kernel, by decide +kernel⟩, by decide +kernel⟩
set_option maxRecDepth 100000 in
set_option maxHeartbeats 4000000 in
theorem c_L_groupAt (l : Launch) (X : XT) (D : DT) (P : PT) (hfl : l.stackTraces = false) (M : DT) (W : Nat) (h : RI D P M W) (place : Int32) : LM l X yL_groupAt (.codeWith yL_groupAt cL_groupAt 3 (some .long) [(0, 6, 7, 15), (0, 6, 12, 23)]) ({ frames := 8, cells := 2, slots := 12, locals := 288 } : Room) [.ref (X.2.2 0), .int place] (qL X (fun r D' P' => QK (wv (kRow (M 7) place) ((M 7 (ix place) - 1 : Int32).toInt64) cIS) M W r D' P')) D P 2 12 := by
  refine lm_ofH (by decide +kernel) (Nat.le_of_ble_eq_true rfl) ?_
  intro K hKl hKR C hT Z hNC
  have hfl2 : K.2.1.stackTraces = false := by rw [hKl]; exact hfl
  refine PV_lv (lv' := [some (.ref (X.2.2 0)), some (.int place), none]) rfl ?_
  refine pv_aload_n (q := 1) C dL_groupAt_0 rfl rfl rfl ?_
  refine pv_iload_n (q := 2) C dL_groupAt_1 rfl rfl rfl ?_
  refine pv_callVixH (q := 5) (rest := []) C Z hKl (c_X6_groupAt l X D P (hKl ▸ hfl2) M W h place) tw_788 (show kd 0 = 6 from rfl) (by decide) rfl mm_X6_groupAt ⟨rfl, rfl⟩ (by rw [hKR]; exact ⟨Nat.le_of_ble_eq_true rfl, Nat.le_of_ble_eq_true rfl⟩) (by rw [hKR]; exact ⟨Nat.le_of_ble_eq_true rfl, Nat.le_of_ble_eq_true rfl⟩) rfl rfl rfl (Nat.le_of_ble_eq_true rfl) dL_groupAt_2 rfl (fun e9 D2 P2 hx => ?_) (fun r D2 P2 hp => ?_)
  ·
    obtain ⟨hx, hF, hPP⟩ := hx
    rcases hx with ⟨rfl, hK⟩ | ⟨rfl, hK⟩
    ·
      refine ⟨[], ⟨0, 6, 7, 15⟩, [⟨0, 6, 12, 23⟩], hT, (fun z hz => nomatch hz), by decide, by decide, tw_601, NG_c Z (List.mem_of_getElem? (i := 2) rfl), fun q9 => ?_⟩
      refine pv_astore_n (q := 8) C dL_groupAt_7 rfl rfl (Nat.le_of_ble_eq_true rfl) rfl ?_
      refine pv_ldc2 (q := 11) C dL_groupAt_8 rfl tw_654 ?_
      exact XK.of (pv_lret C (QK_no h hK (by decide) hF hPP rfl) (by omega) (by omega) dL_groupAt_11)
    ·
      refine ⟨[⟨0, 6, 7, 15⟩], ⟨0, 6, 12, 23⟩, [], hT, (fun z hz => by
              simp only [List.mem_cons, List.not_mem_nil, or_false] at hz
              rcases hz with rfl
              · exact Or.inr ⟨by decide, eIOE, tw_601, hNC.2.1⟩), by decide, by decide, tw_271, NG_c Z (List.mem_of_getElem? (i := 1) rfl), fun q9 => ?_⟩
      refine pv_astore_n (q := 13) C dL_groupAt_12 rfl rfl (Nat.le_of_ble_eq_true rfl) rfl ?_
      refine pv_ldc2 (q := 16) C dL_groupAt_13 rfl tw_352 ?_
      exact XK.of (pv_lret C (QK_no h hK (by decide) hF hPP rfl) (by omega) (by omega) dL_groupAt_16)
  ·
    obtain ⟨hK, hr, hF, hPP⟩ := hp
    refine pv_i2l (q := 6) C dL_groupAt_5 rfl ?_
    exact XK.of (pv_lret C (QK_ok h hK hF hPP (by rw [← hr])) (by omega) (by omega) dL_groupAt_6)
theorem mw_L_groupAt : MSW yL_groupAt cL_groupAt 3 (some .long) [(0, 6, 7, 15), (0, 6, 12, 23)] 2 := ⟨tw_786, tw_0, tw_787, ⟨by decide +kernel, by decide +kernel⟩, by decide +kernel⟩
set_option maxRecDepth 100000 in
set_option maxHeartbeats 4000000 in
theorem c_L_amountAt (l : Launch) (X : XT) (D : DT) (P : PT) (hfl : l.stackTraces = false) (M : DT) (W : Nat) (h : RI D P M W) (place : Int32) : LM l X yL_amountAt (.codeWith yL_amountAt cL_amountAt 3 (some .long) [(0, 6, 7, 15), (0, 6, 12, 23)]) ({ frames := 8, cells := 2, slots := 12, locals := 288 } : Room) [.ref (X.2.2 0), .int place] (qL X (fun r D' P' => QK (wv (kRow (M 7) place) ((M 7 (16 + ix place) : Int32).toInt64) cIS) M W r D' P')) D P 2 12 := by
  refine lm_ofH (by decide +kernel) (Nat.le_of_ble_eq_true rfl) ?_
  intro K hKl hKR C hT Z hNC
  have hfl2 : K.2.1.stackTraces = false := by rw [hKl]; exact hfl
  refine PV_lv (lv' := [some (.ref (X.2.2 0)), some (.int place), none]) rfl ?_
  refine pv_aload_n (q := 1) C dL_amountAt_0 rfl rfl rfl ?_
  refine pv_iload_n (q := 2) C dL_amountAt_1 rfl rfl rfl ?_
  refine pv_callVixH (q := 5) (rest := []) C Z hKl (c_X6_amountAt l X D P (hKl ▸ hfl2) M W h place) tw_792 (show kd 0 = 6 from rfl) (by decide) rfl mm_X6_amountAt ⟨rfl, rfl⟩ (by rw [hKR]; exact ⟨Nat.le_of_ble_eq_true rfl, Nat.le_of_ble_eq_true rfl⟩) (by rw [hKR]; exact ⟨Nat.le_of_ble_eq_true rfl, Nat.le_of_ble_eq_true rfl⟩) rfl rfl rfl (Nat.le_of_ble_eq_true rfl) dL_amountAt_2 rfl (fun e9 D2 P2 hx => ?_) (fun r D2 P2 hp => ?_)
  ·
    obtain ⟨hx, hF, hPP⟩ := hx
    rcases hx with ⟨rfl, hK⟩ | ⟨rfl, hK⟩
    ·
      refine ⟨[], ⟨0, 6, 7, 15⟩, [⟨0, 6, 12, 23⟩], hT, (fun z hz => nomatch hz), by decide, by decide, tw_601, NG_c Z (List.mem_of_getElem? (i := 2) rfl), fun q9 => ?_⟩
      refine pv_astore_n (q := 8) C dL_amountAt_7 rfl rfl (Nat.le_of_ble_eq_true rfl) rfl ?_
      refine pv_ldc2 (q := 11) C dL_amountAt_8 rfl tw_654 ?_
      exact XK.of (pv_lret C (QK_no h hK (by decide) hF hPP rfl) (by omega) (by omega) dL_amountAt_11)
    ·
      refine ⟨[⟨0, 6, 7, 15⟩], ⟨0, 6, 12, 23⟩, [], hT, (fun z hz => by
              simp only [List.mem_cons, List.not_mem_nil, or_false] at hz
              rcases hz with rfl
              · exact Or.inr ⟨by decide, eIOE, tw_601, hNC.2.1⟩), by decide, by decide, tw_271, NG_c Z (List.mem_of_getElem? (i := 1) rfl), fun q9 => ?_⟩
      refine pv_astore_n (q := 13) C dL_amountAt_12 rfl rfl (Nat.le_of_ble_eq_true rfl) rfl ?_
      refine pv_ldc2 (q := 16) C dL_amountAt_13 rfl tw_352 ?_
      exact XK.of (pv_lret C (QK_no h hK (by decide) hF hPP rfl) (by omega) (by omega) dL_amountAt_16)
  ·
    obtain ⟨hK, hr, hF, hPP⟩ := hp
    refine pv_i2l (q := 6) C dL_amountAt_5 rfl ?_
    exact XK.of (pv_lret C (QK_ok h hK hF hPP (by rw [← hr])) (by omega) (by omega) dL_amountAt_6)
theorem mw_L_amountAt : MSW yL_amountAt cL_amountAt 3 (some .long) [(0, 6, 7, 15), (0, 6, 12, 23)] 2 := ⟨tw_790, tw_0, tw_791, ⟨by decide +kernel, by decide +kernel⟩, by decide +kernel⟩
