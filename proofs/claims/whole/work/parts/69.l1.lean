set_option maxRecDepth 100000 in
set_option maxHeartbeats 4000000 in
theorem c_L_insert (l : Launch) (X : XT) (D : DT) (P : PT) (hfl : l.stackTraces = false) (M : DT) (W : Nat) (h : RI D P M W) (hW : W + 200 < 2 ^ 29) (place group amount : Int32) : LG l X yL_insert cL_insert 6 [(0, 12, 15, 13), (0, 12, 19, 15), (0, 12, 23, 17)] ({ frames := 8, cells := 4, slots := 24, locals := 288 } : Room) [.ref (X.2.2 0), .int place, .int group, .int amount, .ref (X.2.2 13)] (fun r D' P' => WQ (kIns (M 7) place group amount) ((nI (tk (m_ins (M 7) (ix place) group amount)) : Int32).toInt64) M (va_up (m_save (clr M)) 7 (m_ins (M 7) (ix place) group amount)) D W r D' P') D P 4 24 := by
  refine lg_of (by decide +kernel) (Nat.le_of_ble_eq_true rfl) ?_
  intro K hKl hKR C hT Z hNC
  have hfl2 : K.2.1.stackTraces = false := by rw [hKl]; exact hfl
  refine PV_lv (lv' := [some (.ref (X.2.2 0)), some (.int place), some (.int group), some (.int amount), some (.ref (X.2.2 13)), none]) rfl ?_
  refine pv_aload (q := 2) C dL_insert_0 rfl rfl ?_
  refine pv_iconst (q := 3) (v := 0) C dL_insert_2 rfl (by decide) ?_
  refine pv_aload_n (q := 4) C dL_insert_3 rfl rfl rfl ?_
  refine pv_iload_n (q := 5) C dL_insert_4 rfl rfl rfl ?_
  refine pv_iload_n (q := 6) C dL_insert_5 rfl rfl rfl ?_
  refine pv_iload_n (q := 7) C dL_insert_6 rfl rfl rfl ?_
  refine pv_callVixH (q := 10) (rest := [.int 0, .ref (X.2.2 13)]) C Z hKl (c_X6_insert l X D P (hKl ▸ hfl2) M W h hW place group amount) tw_625 (show kd 0 = 6 from rfl) (by decide) rfl mm_X6_insert ⟨rfl, rfl⟩ (by rw [hKR]; exact ⟨Nat.le_of_ble_eq_true rfl, Nat.le_of_ble_eq_true rfl⟩) (by rw [hKR]; exact ⟨Nat.le_of_ble_eq_true rfl, Nat.le_of_ble_eq_true rfl⟩) rfl rfl rfl (Nat.le_of_ble_eq_true rfl) dL_insert_7 rfl (fun e9 D2 P2 hx => ?_) (fun r D2 P2 hp => ?_)
  ·
    obtain ⟨hx, hF, hPP⟩ := hx
    rcases hx with ⟨rfl, hK⟩ | ⟨rfl, hK⟩ | ⟨rfl, hK⟩
    ·
      refine ⟨[], ⟨0, 12, 15, 13⟩, [⟨0, 12, 19, 15⟩, ⟨0, 12, 23, 17⟩], hT, (fun z hz => nomatch hz), by decide, by decide, tw_622, NG_c Z (List.mem_of_getElem? (i := 2) rfl), fun q9 => ?_⟩
      refine pv_astore (q := 17) C dL_insert_15 rfl (Nat.le_of_ble_eq_true rfl) rfl ?_
      refine pv_iconst (q := 18) (v := 1) C dL_insert_17 rfl (by decide) ?_
      exact XK.of (pv_iret C (WQ_no h hK (by decide) hF hPP) (by omega) (by omega) dL_insert_18)
    ·
      refine ⟨[⟨0, 12, 15, 13⟩], ⟨0, 12, 19, 15⟩, [⟨0, 12, 23, 17⟩], hT, (fun z hz => by
              simp only [List.mem_cons, List.not_mem_nil, or_false] at hz
              rcases hz with rfl
              · exact Or.inr ⟨by decide, eIOE, tw_622, hNC.1⟩), by decide, by decide, tw_623, NG_c Z (List.mem_of_getElem? (i := 3) rfl), fun q9 => ?_⟩
      refine pv_astore (q := 21) C dL_insert_19 rfl (Nat.le_of_ble_eq_true rfl) rfl ?_
      refine pv_iconst (q := 22) (v := 2) C dL_insert_21 rfl (by decide) ?_
      exact XK.of (pv_iret C (WQ_no h hK (by decide) hF hPP) (by omega) (by omega) dL_insert_22)
    ·
      refine ⟨[⟨0, 12, 15, 13⟩, ⟨0, 12, 19, 15⟩], ⟨0, 12, 23, 17⟩, [], hT, (fun z hz => by
              simp only [List.mem_cons, List.not_mem_nil, or_false] at hz
              rcases hz with rfl | rfl
              · exact Or.inr ⟨by decide, eIOE, tw_622, hNC.2.1⟩
              · exact Or.inr ⟨by decide, eIAE, tw_623, hNC.2.2⟩), by decide, by decide, tw_624, NG_c Z (List.mem_of_getElem? (i := 1) rfl), fun q9 => ?_⟩
      refine pv_astore (q := 25) C dL_insert_23 rfl (Nat.le_of_ble_eq_true rfl) rfl ?_
      refine pv_iconst (q := 26) (v := 3) C dL_insert_25 rfl (by decide) ?_
      exact XK.of (pv_iret C (WQ_no h hK (by decide) hF hPP) (by omega) (by omega) dL_insert_26)
  ·
    obtain ⟨hK, rfl, hRI2, hF⟩ := hp
    refine pv_i2l (q := 11) C dL_insert_10 rfl ?_
    refine pv_last (q := 12) C rfl dL_insert_11 rfl ?_
    refine pv_goto (tgt := 27) C dL_insert_12 (by decide) ?_
    refine pv_iconst (q := 28) (v := 0) C dL_insert_27 rfl (by decide) ?_
    exact XK.of (pv_iret C (WQ_chg hK hRI2 hF rfl rfl) (by omega) (by omega) dL_insert_28)
theorem mw_L_insert : MSW yL_insert cL_insert 6 (some .int) [(0, 12, 15, 13), (0, 12, 19, 15), (0, 12, 23, 17)] 5 := ⟨tw_620, tw_0, tw_621, ⟨by decide +kernel, by decide +kernel⟩, by decide +kernel⟩
set_option maxRecDepth 100000 in
set_option maxHeartbeats 4000000 in
theorem c_L_change (l : Launch) (X : XT) (D : DT) (P : PT) (hfl : l.stackTraces = false) (M : DT) (W : Nat) (h : RI D P M W) (hW : W + 200 < 2 ^ 29) (place amount : Int32) : LG l X yL_change cL_change 5 [(0, 10, 13, 13), (0, 10, 17, 15), (0, 10, 21, 17)] ({ frames := 8, cells := 4, slots := 24, locals := 288 } : Room) [.ref (X.2.2 0), .int place, .int amount, .ref (X.2.2 13)] (fun r D' P' => WQ (kChg (M 7) place amount) ((M 7 (16 + ix place) : Int32).toInt64) M (va_up (m_save (clr M)) 7 (m_rep (M 7) (ix place) (M 7 (ix place)) amount)) D W r D' P') D P 4 24 := by
  refine lg_of (by decide +kernel) (Nat.le_of_ble_eq_true rfl) ?_
  intro K hKl hKR C hT Z hNC
  have hfl2 : K.2.1.stackTraces = false := by rw [hKl]; exact hfl
  refine PV_lv (lv' := [some (.ref (X.2.2 0)), some (.int place), some (.int amount), some (.ref (X.2.2 13)), none]) rfl ?_
  refine pv_aload_n (q := 1) C dL_change_0 rfl rfl rfl ?_
  refine pv_iconst (q := 2) (v := 0) C dL_change_1 rfl (by decide) ?_
  refine pv_aload_n (q := 3) C dL_change_2 rfl rfl rfl ?_
  refine pv_iload_n (q := 4) C dL_change_3 rfl rfl rfl ?_
  refine pv_iload_n (q := 5) C dL_change_4 rfl rfl rfl ?_
  refine pv_callVixH (q := 8) (rest := [.int 0, .ref (X.2.2 13)]) C Z hKl (c_X6_change l X D P (hKl ▸ hfl2) M W h hW place amount) tw_687 (show kd 0 = 6 from rfl) (by decide) rfl mm_X6_change ⟨rfl, rfl⟩ (by rw [hKR]; exact ⟨Nat.le_of_ble_eq_true rfl, Nat.le_of_ble_eq_true rfl⟩) (by rw [hKR]; exact ⟨Nat.le_of_ble_eq_true rfl, Nat.le_of_ble_eq_true rfl⟩) rfl rfl rfl (Nat.le_of_ble_eq_true rfl) dL_change_5 rfl (fun e9 D2 P2 hx => ?_) (fun r D2 P2 hp => ?_)
  ·
    obtain ⟨hx, hF, hPP⟩ := hx
    rcases hx with ⟨rfl, hK⟩ | ⟨rfl, hK⟩ | ⟨rfl, hK⟩
    ·
      refine ⟨[], ⟨0, 10, 13, 13⟩, [⟨0, 10, 17, 15⟩, ⟨0, 10, 21, 17⟩], hT, (fun z hz => nomatch hz), by decide, by decide, tw_622, NG_c Z (List.mem_of_getElem? (i := 2) rfl), fun q9 => ?_⟩
      refine pv_astore (q := 15) C dL_change_13 rfl (Nat.le_of_ble_eq_true rfl) rfl ?_
      refine pv_iconst (q := 16) (v := 1) C dL_change_15 rfl (by decide) ?_
      exact XK.of (pv_iret C (WQ_no h hK (by decide) hF hPP) (by omega) (by omega) dL_change_16)
    ·
      refine ⟨[⟨0, 10, 13, 13⟩], ⟨0, 10, 17, 15⟩, [⟨0, 10, 21, 17⟩], hT, (fun z hz => by
              simp only [List.mem_cons, List.not_mem_nil, or_false] at hz
              rcases hz with rfl
              · exact Or.inr ⟨by decide, eIOE, tw_622, hNC.1⟩), by decide, by decide, tw_623, NG_c Z (List.mem_of_getElem? (i := 3) rfl), fun q9 => ?_⟩
      refine pv_astore (q := 19) C dL_change_17 rfl (Nat.le_of_ble_eq_true rfl) rfl ?_
      refine pv_iconst (q := 20) (v := 2) C dL_change_19 rfl (by decide) ?_
      exact XK.of (pv_iret C (WQ_no h hK (by decide) hF hPP) (by omega) (by omega) dL_change_20)
    ·
      refine ⟨[⟨0, 10, 13, 13⟩, ⟨0, 10, 17, 15⟩], ⟨0, 10, 21, 17⟩, [], hT, (fun z hz => by
              simp only [List.mem_cons, List.not_mem_nil, or_false] at hz
              rcases hz with rfl | rfl
              · exact Or.inr ⟨by decide, eIOE, tw_622, hNC.2.1⟩
              · exact Or.inr ⟨by decide, eIAE, tw_623, hNC.2.2⟩), by decide, by decide, tw_624, NG_c Z (List.mem_of_getElem? (i := 1) rfl), fun q9 => ?_⟩
      refine pv_astore (q := 23) C dL_change_21 rfl (Nat.le_of_ble_eq_true rfl) rfl ?_
      refine pv_iconst (q := 24) (v := 3) C dL_change_23 rfl (by decide) ?_
      exact XK.of (pv_iret C (WQ_no h hK (by decide) hF hPP) (by omega) (by omega) dL_change_24)
  ·
    obtain ⟨hK, rfl, hRI2, hF⟩ := hp
    refine pv_i2l (q := 9) C dL_change_8 rfl ?_
    refine pv_last (q := 10) C rfl dL_change_9 rfl ?_
    refine pv_goto (tgt := 25) C dL_change_10 (by decide) ?_
    refine pv_iconst (q := 26) (v := 0) C dL_change_25 rfl (by decide) ?_
    exact XK.of (pv_iret C (WQ_chg hK hRI2 hF rfl rfl) (by omega) (by omega) dL_change_26)
theorem mw_L_change : MSW yL_change cL_change 5 (some .int) [(0, 10, 13, 13), (0, 10, 17, 15), (0, 10, 21, 17)] 4 := ⟨tw_685, tw_0, tw_686, ⟨by decide +kernel, by decide +kernel⟩, by decide +kernel⟩
set_option maxRecDepth 100000 in
set_option maxHeartbeats 4000000 in
theorem c_L_regroup (l : Launch) (X : XT) (D : DT) (P : PT) (hfl : l.stackTraces = false) (M : DT) (W : Nat) (h : RI D P M W) (hW : W + 200 < 2 ^ 29) (place group : Int32) : LG l X yL_regroup cL_regroup 5 [(0, 10, 13, 13), (0, 10, 17, 17)] ({ frames := 8, cells := 4, slots := 24, locals := 288 } : Room) [.ref (X.2.2 0), .int place, .int group, .ref (X.2.2 13)] (fun r D' P' => WQ (kReg (M 7) place group) ((M 7 (ix place) - 1 : Int32).toInt64) M (va_up (m_save (clr M)) 7 (m_rep (M 7) (ix place) (group + 1) (M 7 (16 + ix place)))) D W r D' P') D P 4 24 := by
  refine lg_of (by decide +kernel) (Nat.le_of_ble_eq_true rfl) ?_
  intro K hKl hKR C hT Z hNC
  have hfl2 : K.2.1.stackTraces = false := by rw [hKl]; exact hfl
  refine PV_lv (lv' := [some (.ref (X.2.2 0)), some (.int place), some (.int group), some (.ref (X.2.2 13)), none]) rfl ?_
  refine pv_aload_n (q := 1) C dL_regroup_0 rfl rfl rfl ?_
  refine pv_iconst (q := 2) (v := 0) C dL_regroup_1 rfl (by decide) ?_
  refine pv_aload_n (q := 3) C dL_regroup_2 rfl rfl rfl ?_
  refine pv_iload_n (q := 4) C dL_regroup_3 rfl rfl rfl ?_
  refine pv_iload_n (q := 5) C dL_regroup_4 rfl rfl rfl ?_
  refine pv_callVixH (q := 8) (rest := [.int 0, .ref (X.2.2 13)]) C Z hKl (c_X6_regroup l X D P (hKl ▸ hfl2) M W h hW place group) tw_698 (show kd 0 = 6 from rfl) (by decide) rfl mm_X6_regroup ⟨rfl, rfl⟩ (by rw [hKR]; exact ⟨Nat.le_of_ble_eq_true rfl, Nat.le_of_ble_eq_true rfl⟩) (by rw [hKR]; exact ⟨Nat.le_of_ble_eq_true rfl, Nat.le_of_ble_eq_true rfl⟩) rfl rfl rfl (Nat.le_of_ble_eq_true rfl) dL_regroup_5 rfl (fun e9 D2 P2 hx => ?_) (fun r D2 P2 hp => ?_)
  ·
    obtain ⟨hx, hF, hPP⟩ := hx
    rcases hx with ⟨rfl, hK⟩ | ⟨rfl, hK⟩
    ·
      refine ⟨[], ⟨0, 10, 13, 13⟩, [⟨0, 10, 17, 17⟩], hT, (fun z hz => nomatch hz), by decide, by decide, tw_622, NG_c Z (List.mem_of_getElem? (i := 2) rfl), fun q9 => ?_⟩
      refine pv_astore (q := 15) C dL_regroup_13 rfl (Nat.le_of_ble_eq_true rfl) rfl ?_
      refine pv_iconst (q := 16) (v := 1) C dL_regroup_15 rfl (by decide) ?_
      exact XK.of (pv_iret C (WQ_no h hK (by decide) hF hPP) (by omega) (by omega) dL_regroup_16)
    ·
      refine ⟨[⟨0, 10, 13, 13⟩], ⟨0, 10, 17, 17⟩, [], hT, (fun z hz => by
              simp only [List.mem_cons, List.not_mem_nil, or_false] at hz
              rcases hz with rfl
              · exact Or.inr ⟨by decide, eIOE, tw_622, hNC.2.1⟩), by decide, by decide, tw_624, NG_c Z (List.mem_of_getElem? (i := 1) rfl), fun q9 => ?_⟩
      refine pv_astore (q := 19) C dL_regroup_17 rfl (Nat.le_of_ble_eq_true rfl) rfl ?_
      refine pv_iconst (q := 20) (v := 2) C dL_regroup_19 rfl (by decide) ?_
      exact XK.of (pv_iret C (WQ_no h hK (by decide) hF hPP) (by omega) (by omega) dL_regroup_20)
  ·
    obtain ⟨hK, rfl, hRI2, hF⟩ := hp
    refine pv_i2l (q := 9) C dL_regroup_8 rfl ?_
    refine pv_last (q := 10) C rfl dL_regroup_9 rfl ?_
    refine pv_goto (tgt := 21) C dL_regroup_10 (by decide) ?_
    refine pv_iconst (q := 22) (v := 0) C dL_regroup_21 rfl (by decide) ?_
    exact XK.of (pv_iret C (WQ_chg hK hRI2 hF rfl rfl) (by omega) (by omega) dL_regroup_22)
theorem mw_L_regroup : MSW yL_regroup cL_regroup 5 (some .int) [(0, 10, 13, 13), (0, 10, 17, 17)] 4 := ⟨tw_696, tw_0, tw_697, ⟨by decide +kernel, by decide +kernel⟩, by decide +kernel⟩
set_option maxRecDepth 100000 in
set_option maxHeartbeats 4000000 in
theorem c_L_delete (l : Launch) (X : XT) (D : DT) (P : PT) (hfl : l.stackTraces = false) (M : DT) (W : Nat) (h : RI D P M W) (hW : W + 200 < 2 ^ 29) (place : Int32) : LG l X yL_delete cL_delete 4 [(0, 9, 12, 13), (0, 9, 15, 17)] ({ frames := 8, cells := 4, slots := 24, locals := 288 } : Room) [.ref (X.2.2 0), .int place, .ref (X.2.2 13)] (fun r D' P' => WQ (kRow (M 7) place) ((M 7 (16 + ix place) : Int32).toInt64) M (va_up (m_save (clr M)) 7 (m_del (M 7) (ix place))) D W r D' P') D P 4 24 := by
  refine lg_of (by decide +kernel) (Nat.le_of_ble_eq_true rfl) ?_
  intro K hKl hKR C hT Z hNC
  have hfl2 : K.2.1.stackTraces = false := by rw [hKl]; exact hfl
  refine PV_lv (lv' := [some (.ref (X.2.2 0)), some (.int place), some (.ref (X.2.2 13)), none]) rfl ?_
  refine pv_aload_n (q := 1) C dL_delete_0 rfl rfl rfl ?_
  refine pv_iconst (q := 2) (v := 0) C dL_delete_1 rfl (by decide) ?_
  refine pv_aload_n (q := 3) C dL_delete_2 rfl rfl rfl ?_
  refine pv_iload_n (q := 4) C dL_delete_3 rfl rfl rfl ?_
  refine pv_callVixH (q := 7) (rest := [.int 0, .ref (X.2.2 13)]) C Z hKl (c_X6_delete l X D P (hKl ▸ hfl2) M W h hW place) tw_705 (show kd 0 = 6 from rfl) (by decide) rfl mm_X6_delete ⟨rfl, rfl⟩ (by rw [hKR]; exact ⟨Nat.le_of_ble_eq_true rfl, Nat.le_of_ble_eq_true rfl⟩) (by rw [hKR]; exact ⟨Nat.le_of_ble_eq_true rfl, Nat.le_of_ble_eq_true rfl⟩) rfl rfl rfl (Nat.le_of_ble_eq_true rfl) dL_delete_4 rfl (fun e9 D2 P2 hx => ?_) (fun r D2 P2 hp => ?_)
  ·
    obtain ⟨hx, hF, hPP⟩ := hx
    rcases hx with ⟨rfl, hK⟩ | ⟨rfl, hK⟩
    ·
      refine ⟨[], ⟨0, 9, 12, 13⟩, [⟨0, 9, 15, 17⟩], hT, (fun z hz => nomatch hz), by decide, by decide, tw_622, NG_c Z (List.mem_of_getElem? (i := 2) rfl), fun q9 => ?_⟩
      refine pv_astore_n (q := 13) C dL_delete_12 rfl rfl (Nat.le_of_ble_eq_true rfl) rfl ?_
      refine pv_iconst (q := 14) (v := 1) C dL_delete_13 rfl (by decide) ?_
      exact XK.of (pv_iret C (WQ_no h hK (by decide) hF hPP) (by omega) (by omega) dL_delete_14)
    ·
      refine ⟨[⟨0, 9, 12, 13⟩], ⟨0, 9, 15, 17⟩, [], hT, (fun z hz => by
              simp only [List.mem_cons, List.not_mem_nil, or_false] at hz
              rcases hz with rfl
              · exact Or.inr ⟨by decide, eIOE, tw_622, hNC.2.1⟩), by decide, by decide, tw_624, NG_c Z (List.mem_of_getElem? (i := 1) rfl), fun q9 => ?_⟩
      refine pv_astore_n (q := 16) C dL_delete_15 rfl rfl (Nat.le_of_ble_eq_true rfl) rfl ?_
      refine pv_iconst (q := 17) (v := 2) C dL_delete_16 rfl (by decide) ?_
      exact XK.of (pv_iret C (WQ_no h hK (by decide) hF hPP) (by omega) (by omega) dL_delete_17)
  ·
    obtain ⟨hK, rfl, hRI2, hF⟩ := hp
    refine pv_i2l (q := 8) C dL_delete_7 rfl ?_
    refine pv_last (q := 9) C rfl dL_delete_8 rfl ?_
    refine pv_goto (tgt := 18) C dL_delete_9 (by decide) ?_
    refine pv_iconst (q := 19) (v := 0) C dL_delete_18 rfl (by decide) ?_
    exact XK.of (pv_iret C (WQ_chg hK hRI2 hF rfl rfl) (by omega) (by omega) dL_delete_19)
theorem mw_L_delete : MSW yL_delete cL_delete 4 (some .int) [(0, 9, 12, 13), (0, 9, 15, 17)] 3 := ⟨tw_703, tw_0, tw_704, ⟨by decide +kernel, by decide +kernel⟩, by decide +kernel⟩
set_option maxRecDepth 100000 in
set_option maxHeartbeats 4000000 in
theorem c_L_nap (l : Launch) (X : XT) (D : DT) (P : PT) (hfl : l.stackTraces = false) (M : DT) (W : Nat) (h : RI D P M W) (hW : W + 200 < 2 ^ 29) (view : Int32) : LG l X yL_nap cL_nap 4 [(0, 9, 12, 13), (0, 9, 15, 17)] ({ frames := 8, cells := 2, slots := 12, locals := 288 } : Room) [.ref (X.2.2 0), .int view, .ref (X.2.2 13)] (fun r D' P' => WQ (kNap (M 7) view) ((nI (nps (m_nap (M 7) (ix view))) : Int32).toInt64) M (va_up (m_save (clr M)) 7 (m_nap (M 7) (ix view))) D W r D' P') D P 2 12 := by
  refine lg_of (by decide +kernel) (Nat.le_of_ble_eq_true rfl) ?_
  intro K hKl hKR C hT Z hNC
  have hfl2 : K.2.1.stackTraces = false := by rw [hKl]; exact hfl
  refine PV_lv (lv' := [some (.ref (X.2.2 0)), some (.int view), some (.ref (X.2.2 13)), none]) rfl ?_
  refine pv_aload_n (q := 1) C dL_nap_0 rfl rfl rfl ?_
  refine pv_iconst (q := 2) (v := 0) C dL_nap_1 rfl (by decide) ?_
  refine pv_aload_n (q := 3) C dL_nap_2 rfl rfl rfl ?_
  refine pv_iload_n (q := 4) C dL_nap_3 rfl rfl rfl ?_
  refine pv_callVixH (q := 7) (rest := [.int 0, .ref (X.2.2 13)]) C Z hKl (c_X6_nap l X D P (hKl ▸ hfl2) M W h hW view) tw_716 (show kd 0 = 6 from rfl) (by decide) rfl mm_X6_nap ⟨rfl, rfl⟩ (by rw [hKR]; exact ⟨Nat.le_of_ble_eq_true rfl, Nat.le_of_ble_eq_true rfl⟩) (by rw [hKR]; exact ⟨Nat.le_of_ble_eq_true rfl, Nat.le_of_ble_eq_true rfl⟩) rfl rfl rfl (Nat.le_of_ble_eq_true rfl) dL_nap_4 rfl (fun e9 D2 P2 hx => ?_) (fun r D2 P2 hp => ?_)
  ·
    obtain ⟨hx, hF, hPP⟩ := hx
    rcases hx with ⟨rfl, hK⟩ | ⟨rfl, hK⟩
    ·
      refine ⟨[], ⟨0, 9, 12, 13⟩, [⟨0, 9, 15, 17⟩], hT, (fun z hz => nomatch hz), by decide, by decide, tw_622, NG_c Z (List.mem_of_getElem? (i := 2) rfl), fun q9 => ?_⟩
      refine pv_astore_n (q := 13) C dL_nap_12 rfl rfl (Nat.le_of_ble_eq_true rfl) rfl ?_
      refine pv_iconst (q := 14) (v := 1) C dL_nap_13 rfl (by decide) ?_
      exact XK.of (pv_iret C (WQ_no h hK (by decide) hF hPP) (by omega) (by omega) dL_nap_14)
    ·
      refine ⟨[⟨0, 9, 12, 13⟩], ⟨0, 9, 15, 17⟩, [], hT, (fun z hz => by
              simp only [List.mem_cons, List.not_mem_nil, or_false] at hz
              rcases hz with rfl
              · exact Or.inr ⟨by decide, eIOE, tw_622, hNC.2.1⟩), by decide, by decide, tw_624, NG_c Z (List.mem_of_getElem? (i := 1) rfl), fun q9 => ?_⟩
      refine pv_astore_n (q := 16) C dL_nap_15 rfl rfl (Nat.le_of_ble_eq_true rfl) rfl ?_
      refine pv_iconst (q := 17) (v := 2) C dL_nap_16 rfl (by decide) ?_
      exact XK.of (pv_iret C (WQ_no h hK (by decide) hF hPP) (by omega) (by omega) dL_nap_17)
  ·
    obtain ⟨hK, rfl, hRI2, hF⟩ := hp
    refine pv_i2l (q := 8) C dL_nap_7 rfl ?_
    refine pv_last (q := 9) C rfl dL_nap_8 rfl ?_
    refine pv_goto (tgt := 18) C dL_nap_9 (by decide) ?_
    refine pv_iconst (q := 19) (v := 0) C dL_nap_18 rfl (by decide) ?_
    exact XK.of (pv_iret C (WQ_chg hK hRI2 hF rfl rfl) (by omega) (by omega) dL_nap_19)
theorem mw_L_nap : MSW yL_nap cL_nap 4 (some .int) [(0, 9, 12, 13), (0, 9, 15, 17)] 3 := ⟨tw_714, tw_0, tw_715, ⟨by decide +kernel, by decide +kernel⟩, by decide +kernel⟩
set_option maxRecDepth 100000 in
set_option maxHeartbeats 4000000 in
theorem c_L_wake (l : Launch) (X : XT) (D : DT) (P : PT) (hfl : l.stackTraces = false) (M : DT) (W : Nat) (h : RI D P M W) (hW : W + 200 < 2 ^ 29) (view : Int32) : LG l X yL_wake cL_wake 4 [(0, 9, 12, 13), (0, 9, 15, 17)] ({ frames := 8, cells := 2, slots := 12, locals := 288 } : Room) [.ref (X.2.2 0), .int view, .ref (X.2.2 13)] (fun r D' P' => WQ (kWak (M 7) view) ((wt (M 7) (ix view) : Int32).toInt64) M (va_up (m_save (clr M)) 7 (m_wake (M 7) (ix view))) D W r D' P') D P 2 12 := by
  refine lg_of (by decide +kernel) (Nat.le_of_ble_eq_true rfl) ?_
  intro K hKl hKR C hT Z hNC
  have hfl2 : K.2.1.stackTraces = false := by rw [hKl]; exact hfl
  refine PV_lv (lv' := [some (.ref (X.2.2 0)), some (.int view), some (.ref (X.2.2 13)), none]) rfl ?_
  refine pv_aload_n (q := 1) C dL_wake_0 rfl rfl rfl ?_
  refine pv_iconst (q := 2) (v := 0) C dL_wake_1 rfl (by decide) ?_
  refine pv_aload_n (q := 3) C dL_wake_2 rfl rfl rfl ?_
  refine pv_iload_n (q := 4) C dL_wake_3 rfl rfl rfl ?_
  refine pv_callVixH (q := 7) (rest := [.int 0, .ref (X.2.2 13)]) C Z hKl (c_X6_wake l X D P (hKl ▸ hfl2) M W h hW view) tw_732 (show kd 0 = 6 from rfl) (by decide) rfl mm_X6_wake ⟨rfl, rfl⟩ (by rw [hKR]; exact ⟨Nat.le_of_ble_eq_true rfl, Nat.le_of_ble_eq_true rfl⟩) (by rw [hKR]; exact ⟨Nat.le_of_ble_eq_true rfl, Nat.le_of_ble_eq_true rfl⟩) rfl rfl rfl (Nat.le_of_ble_eq_true rfl) dL_wake_4 rfl (fun e9 D2 P2 hx => ?_) (fun r D2 P2 hp => ?_)
  ·
    obtain ⟨hx, hF, hPP⟩ := hx
    rcases hx with ⟨rfl, hK⟩ | ⟨rfl, hK⟩
    ·
      refine ⟨[], ⟨0, 9, 12, 13⟩, [⟨0, 9, 15, 17⟩], hT, (fun z hz => nomatch hz), by decide, by decide, tw_622, NG_c Z (List.mem_of_getElem? (i := 2) rfl), fun q9 => ?_⟩
      refine pv_astore_n (q := 13) C dL_wake_12 rfl rfl (Nat.le_of_ble_eq_true rfl) rfl ?_
      refine pv_iconst (q := 14) (v := 1) C dL_wake_13 rfl (by decide) ?_
      exact XK.of (pv_iret C (WQ_no h hK (by decide) hF hPP) (by omega) (by omega) dL_wake_14)
    ·
      refine ⟨[⟨0, 9, 12, 13⟩], ⟨0, 9, 15, 17⟩, [], hT, (fun z hz => by
              simp only [List.mem_cons, List.not_mem_nil, or_false] at hz
              rcases hz with rfl
              · exact Or.inr ⟨by decide, eIOE, tw_622, hNC.2.1⟩), by decide, by decide, tw_624, NG_c Z (List.mem_of_getElem? (i := 1) rfl), fun q9 => ?_⟩
      refine pv_astore_n (q := 16) C dL_wake_15 rfl rfl (Nat.le_of_ble_eq_true rfl) rfl ?_
      refine pv_iconst (q := 17) (v := 2) C dL_wake_16 rfl (by decide) ?_
      exact XK.of (pv_iret C (WQ_no h hK (by decide) hF hPP) (by omega) (by omega) dL_wake_17)
  ·
    obtain ⟨hK, rfl, hRI2, hF⟩ := hp
    refine pv_i2l (q := 8) C dL_wake_7 rfl ?_
    refine pv_last (q := 9) C rfl dL_wake_8 rfl ?_
    refine pv_goto (tgt := 18) C dL_wake_9 (by decide) ?_
    refine pv_iconst (q := 19) (v := 0) C dL_wake_18 rfl (by decide) ?_
    exact XK.of (pv_iret C (WQ_chg hK hRI2 hF rfl rfl) (by omega) (by omega) dL_wake_19)
theorem mw_L_wake : MSW yL_wake cL_wake 4 (some .int) [(0, 9, 12, 13), (0, 9, 15, 17)] 3 := ⟨tw_730, tw_0, tw_731, ⟨by decide +kernel, by decide +kernel⟩, by decide +kernel⟩
set_option maxRecDepth 100000 in
set_option maxHeartbeats 4000000 in
theorem c_L_refresh (l : Launch) (X : XT) (D : DT) (P : PT) (hfl : l.stackTraces = false) (M : DT) (W : Nat) (h : RI D P M W) (hW : W + 200 < 2 ^ 29) (view : Int32) : LG l X yL_refresh cL_refresh 4 [(0, 9, 12, 13)] ({ frames := 8, cells := 2, slots := 12, locals := 288 } : Room) [.ref (X.2.2 0), .int view, .ref (X.2.2 13)] (fun r D' P' => WQ (kView view) ((wt (M 7) (ix view) : Int32).toInt64) M (va_up (m_save (clr M)) 7 (m_ref (M 7) (ix view))) D W r D' P') D P 2 12 := by
  refine lg_of (by decide +kernel) (Nat.le_of_ble_eq_true rfl) ?_
  intro K hKl hKR C hT Z hNC
  have hfl2 : K.2.1.stackTraces = false := by rw [hKl]; exact hfl
  refine PV_lv (lv' := [some (.ref (X.2.2 0)), some (.int view), some (.ref (X.2.2 13)), none]) rfl ?_
  refine pv_aload_n (q := 1) C dL_refresh_0 rfl rfl rfl ?_
  refine pv_iconst (q := 2) (v := 0) C dL_refresh_1 rfl (by decide) ?_
  refine pv_aload_n (q := 3) C dL_refresh_2 rfl rfl rfl ?_
  refine pv_iload_n (q := 4) C dL_refresh_3 rfl rfl rfl ?_
  refine pv_callVixH (q := 7) (rest := [.int 0, .ref (X.2.2 13)]) C Z hKl (c_X6_refresh l X D P (hKl ▸ hfl2) M W h hW view) tw_741 (show kd 0 = 6 from rfl) (by decide) rfl mm_X6_refresh ⟨rfl, rfl⟩ (by rw [hKR]; exact ⟨Nat.le_of_ble_eq_true rfl, Nat.le_of_ble_eq_true rfl⟩) (by rw [hKR]; exact ⟨Nat.le_of_ble_eq_true rfl, Nat.le_of_ble_eq_true rfl⟩) rfl rfl rfl (Nat.le_of_ble_eq_true rfl) dL_refresh_4 rfl (fun e9 D2 P2 hx => ?_) (fun r D2 P2 hp => ?_)
  ·
    obtain ⟨⟨rfl, hK⟩, hF, hPP⟩ := hx
    refine ⟨[], ⟨0, 9, 12, 13⟩, [], hT, (fun z hz => nomatch hz), by decide, by decide, tw_622, NG_c Z (List.mem_of_getElem? (i := 2) rfl), fun q9 => ?_⟩
    refine pv_astore_n (q := 13) C dL_refresh_12 rfl rfl (Nat.le_of_ble_eq_true rfl) rfl ?_
    refine pv_iconst (q := 14) (v := 1) C dL_refresh_13 rfl (by decide) ?_
    exact XK.of (pv_iret C (WQ_no h hK (by decide) hF hPP) (by omega) (by omega) dL_refresh_14)
  ·
    obtain ⟨hK, rfl, hRI2, hF⟩ := hp
    refine pv_i2l (q := 8) C dL_refresh_7 rfl ?_
    refine pv_last (q := 9) C rfl dL_refresh_8 rfl ?_
    refine pv_goto (tgt := 15) C dL_refresh_9 (by decide) ?_
    refine pv_iconst (q := 16) (v := 0) C dL_refresh_15 rfl (by decide) ?_
    exact XK.of (pv_iret C (WQ_chg hK hRI2 hF rfl rfl) (by omega) (by omega) dL_refresh_16)
theorem mw_L_refresh : MSW yL_refresh cL_refresh 4 (some .int) [(0, 9, 12, 13)] 3 := ⟨tw_739, tw_0, tw_740, ⟨by decide +kernel, by decide +kernel⟩, by decide +kernel⟩
set_option maxRecDepth 100000 in
set_option maxHeartbeats 4000000 in
theorem c_L_setFilter (l : Launch) (X : XT) (D : DT) (P : PT) (hfl : l.stackTraces = false) (M : DT) (W : Nat) (h : RI D P M W) (hW : W + 200 < 2 ^ 29) (view least : Int32) : LG l X yL_setFilter cL_setFilter 5 [(0, 10, 13, 13), (0, 10, 17, 15)] ({ frames := 8, cells := 2, slots := 12, locals := 288 } : Room) [.ref (X.2.2 0), .int view, .int least, .ref (X.2.2 13)] (fun r D' P' => WQ (kSet view least (-99) 99) ((M 7 (32 + 38 * ix view + 34) : Int32).toInt64) M (va_up (m_save (clr M)) 7 (m_ref (setV (M 7) (ix view) 34 least) (ix view))) D W r D' P') D P 2 12 := by
  refine lg_of (by decide +kernel) (Nat.le_of_ble_eq_true rfl) ?_
  intro K hKl hKR C hT Z hNC
  have hfl2 : K.2.1.stackTraces = false := by rw [hKl]; exact hfl
  refine PV_lv (lv' := [some (.ref (X.2.2 0)), some (.int view), some (.int least), some (.ref (X.2.2 13)), none]) rfl ?_
  refine pv_aload_n (q := 1) C dL_setFilter_0 rfl rfl rfl ?_
  refine pv_iconst (q := 2) (v := 0) C dL_setFilter_1 rfl (by decide) ?_
  refine pv_aload_n (q := 3) C dL_setFilter_2 rfl rfl rfl ?_
  refine pv_iload_n (q := 4) C dL_setFilter_3 rfl rfl rfl ?_
  refine pv_iload_n (q := 5) C dL_setFilter_4 rfl rfl rfl ?_
  refine pv_callVixH (q := 8) (rest := [.int 0, .ref (X.2.2 13)]) C Z hKl (c_X6_setFilter l X D P (hKl ▸ hfl2) M W h hW view least) tw_757 (show kd 0 = 6 from rfl) (by decide) rfl mm_X6_setFilter ⟨rfl, rfl⟩ (by rw [hKR]; exact ⟨Nat.le_of_ble_eq_true rfl, Nat.le_of_ble_eq_true rfl⟩) (by rw [hKR]; exact ⟨Nat.le_of_ble_eq_true rfl, Nat.le_of_ble_eq_true rfl⟩) rfl rfl rfl (Nat.le_of_ble_eq_true rfl) dL_setFilter_5 rfl (fun e9 D2 P2 hx => ?_) (fun r D2 P2 hp => ?_)
  ·
    obtain ⟨hx, hF, hPP⟩ := hx
    rcases hx with ⟨rfl, hK⟩ | ⟨rfl, hK⟩
    ·
      refine ⟨[], ⟨0, 10, 13, 13⟩, [⟨0, 10, 17, 15⟩], hT, (fun z hz => nomatch hz), by decide, by decide, tw_622, NG_c Z (List.mem_of_getElem? (i := 2) rfl), fun q9 => ?_⟩
      refine pv_astore (q := 15) C dL_setFilter_13 rfl (Nat.le_of_ble_eq_true rfl) rfl ?_
      refine pv_iconst (q := 16) (v := 1) C dL_setFilter_15 rfl (by decide) ?_
      exact XK.of (pv_iret C (WQ_no h hK (by decide) hF hPP) (by omega) (by omega) dL_setFilter_16)
    ·
      refine ⟨[⟨0, 10, 13, 13⟩], ⟨0, 10, 17, 15⟩, [], hT, (fun z hz => by
              simp only [List.mem_cons, List.not_mem_nil, or_false] at hz
              rcases hz with rfl
              · exact Or.inr ⟨by decide, eIOE, tw_622, hNC.1⟩), by decide, by decide, tw_623, NG_c Z (List.mem_of_getElem? (i := 3) rfl), fun q9 => ?_⟩
      refine pv_astore (q := 19) C dL_setFilter_17 rfl (Nat.le_of_ble_eq_true rfl) rfl ?_
      refine pv_iconst (q := 20) (v := 2) C dL_setFilter_19 rfl (by decide) ?_
      exact XK.of (pv_iret C (WQ_no h hK (by decide) hF hPP) (by omega) (by omega) dL_setFilter_20)
  ·
    obtain ⟨hK, rfl, hRI2, hF⟩ := hp
    refine pv_i2l (q := 9) C dL_setFilter_8 rfl ?_
    refine pv_last (q := 10) C rfl dL_setFilter_9 rfl ?_
    refine pv_goto (tgt := 21) C dL_setFilter_10 (by decide) ?_
    refine pv_iconst (q := 22) (v := 0) C dL_setFilter_21 rfl (by decide) ?_
    exact XK.of (pv_iret C (WQ_chg hK hRI2 hF rfl rfl) (by omega) (by omega) dL_setFilter_22)
theorem mw_L_setFilter : MSW yL_setFilter cL_setFilter 5 (some .int) [(0, 10, 13, 13), (0, 10, 17, 15)] 4 := ⟨tw_755, tw_0, tw_756, ⟨by decide +kernel, by decide +kernel⟩, by decide +kernel⟩
set_option maxRecDepth 100000 in
set_option maxHeartbeats 4000000 in
theorem c_L_setBehind (l : Launch) (X : XT) (D : DT) (P : PT) (hfl : l.stackTraces = false) (M : DT) (W : Nat) (h : RI D P M W) (hW : W + 200 < 2 ^ 29) (view deltas : Int32) : LG l X yL_setBehind cL_setBehind 5 [(0, 10, 13, 13), (0, 10, 17, 15)] ({ frames := 8, cells := 2, slots := 12, locals := 288 } : Room) [.ref (X.2.2 0), .int view, .int deltas, .ref (X.2.2 13)] (fun r D' P' => WQ (kSet view deltas 1 30) ((M 7 (32 + 38 * ix view + 35) : Int32).toInt64) M (va_up (m_save (clr M)) 7 (m_settle (setV (M 7) (ix view) 35 deltas))) D W r D' P') D P 2 12 := by
  refine lg_of (by decide +kernel) (Nat.le_of_ble_eq_true rfl) ?_
  intro K hKl hKR C hT Z hNC
  have hfl2 : K.2.1.stackTraces = false := by rw [hKl]; exact hfl
  refine PV_lv (lv' := [some (.ref (X.2.2 0)), some (.int view), some (.int deltas), some (.ref (X.2.2 13)), none]) rfl ?_
  refine pv_aload_n (q := 1) C dL_setBehind_0 rfl rfl rfl ?_
  refine pv_iconst (q := 2) (v := 0) C dL_setBehind_1 rfl (by decide) ?_
  refine pv_aload_n (q := 3) C dL_setBehind_2 rfl rfl rfl ?_
  refine pv_iload_n (q := 4) C dL_setBehind_3 rfl rfl rfl ?_
  refine pv_iload_n (q := 5) C dL_setBehind_4 rfl rfl rfl ?_
  refine pv_callVixH (q := 8) (rest := [.int 0, .ref (X.2.2 13)]) C Z hKl (c_X6_setBehind l X D P (hKl ▸ hfl2) M W h hW view deltas) tw_764 (show kd 0 = 6 from rfl) (by decide) rfl mm_X6_setBehind ⟨rfl, rfl⟩ (by rw [hKR]; exact ⟨Nat.le_of_ble_eq_true rfl, Nat.le_of_ble_eq_true rfl⟩) (by rw [hKR]; exact ⟨Nat.le_of_ble_eq_true rfl, Nat.le_of_ble_eq_true rfl⟩) rfl rfl rfl (Nat.le_of_ble_eq_true rfl) dL_setBehind_5 rfl (fun e9 D2 P2 hx => ?_) (fun r D2 P2 hp => ?_)
  ·
    obtain ⟨hx, hF, hPP⟩ := hx
    rcases hx with ⟨rfl, hK⟩ | ⟨rfl, hK⟩
    ·
      refine ⟨[], ⟨0, 10, 13, 13⟩, [⟨0, 10, 17, 15⟩], hT, (fun z hz => nomatch hz), by decide, by decide, tw_622, NG_c Z (List.mem_of_getElem? (i := 2) rfl), fun q9 => ?_⟩
      refine pv_astore (q := 15) C dL_setBehind_13 rfl (Nat.le_of_ble_eq_true rfl) rfl ?_
      refine pv_iconst (q := 16) (v := 1) C dL_setBehind_15 rfl (by decide) ?_
      exact XK.of (pv_iret C (WQ_no h hK (by decide) hF hPP) (by omega) (by omega) dL_setBehind_16)
    ·
      refine ⟨[⟨0, 10, 13, 13⟩], ⟨0, 10, 17, 15⟩, [], hT, (fun z hz => by
              simp only [List.mem_cons, List.not_mem_nil, or_false] at hz
              rcases hz with rfl
              · exact Or.inr ⟨by decide, eIOE, tw_622, hNC.1⟩), by decide, by decide, tw_623, NG_c Z (List.mem_of_getElem? (i := 3) rfl), fun q9 => ?_⟩
      refine pv_astore (q := 19) C dL_setBehind_17 rfl (Nat.le_of_ble_eq_true rfl) rfl ?_
      refine pv_iconst (q := 20) (v := 2) C dL_setBehind_19 rfl (by decide) ?_
      exact XK.of (pv_iret C (WQ_no h hK (by decide) hF hPP) (by omega) (by omega) dL_setBehind_20)
  ·
    obtain ⟨hK, rfl, hRI2, hF⟩ := hp
    refine pv_i2l (q := 9) C dL_setBehind_8 rfl ?_
    refine pv_last (q := 10) C rfl dL_setBehind_9 rfl ?_
    refine pv_goto (tgt := 21) C dL_setBehind_10 (by decide) ?_
    refine pv_iconst (q := 22) (v := 0) C dL_setBehind_21 rfl (by decide) ?_
    exact XK.of (pv_iret C (WQ_chg hK hRI2 hF rfl rfl) (by omega) (by omega) dL_setBehind_22)
theorem mw_L_setBehind : MSW yL_setBehind cL_setBehind 5 (some .int) [(0, 10, 13, 13), (0, 10, 17, 15)] 4 := ⟨tw_762, tw_0, tw_763, ⟨by decide +kernel, by decide +kernel⟩, by decide +kernel⟩
set_option maxRecDepth 100000 in
set_option maxHeartbeats 4000000 in
theorem c_L_setLongest (l : Launch) (X : XT) (D : DT) (P : PT) (hfl : l.stackTraces = false) (M : DT) (W : Nat) (h : RI D P M W) (hW : W + 200 < 2 ^ 29) (view ticks : Int32) : LG l X yL_setLongest cL_setLongest 5 [(0, 10, 13, 13), (0, 10, 17, 15)] ({ frames := 8, cells := 2, slots := 12, locals := 288 } : Room) [.ref (X.2.2 0), .int view, .int ticks, .ref (X.2.2 13)] (fun r D' P' => WQ (kSet view ticks 1 30) ((M 7 (32 + 38 * ix view + 36) : Int32).toInt64) M (va_up (m_save (clr M)) 7 (setV (M 7) (ix view) 36 ticks)) D W r D' P') D P 2 12 := by
  refine lg_of (by decide +kernel) (Nat.le_of_ble_eq_true rfl) ?_
  intro K hKl hKR C hT Z hNC
  have hfl2 : K.2.1.stackTraces = false := by rw [hKl]; exact hfl
  refine PV_lv (lv' := [some (.ref (X.2.2 0)), some (.int view), some (.int ticks), some (.ref (X.2.2 13)), none]) rfl ?_
  refine pv_aload_n (q := 1) C dL_setLongest_0 rfl rfl rfl ?_
  refine pv_iconst (q := 2) (v := 0) C dL_setLongest_1 rfl (by decide) ?_
  refine pv_aload_n (q := 3) C dL_setLongest_2 rfl rfl rfl ?_
  refine pv_iload_n (q := 4) C dL_setLongest_3 rfl rfl rfl ?_
  refine pv_iload_n (q := 5) C dL_setLongest_4 rfl rfl rfl ?_
  refine pv_callVixH (q := 8) (rest := [.int 0, .ref (X.2.2 13)]) C Z hKl (c_X6_setLongest l X D P (hKl ▸ hfl2) M W h hW view ticks) tw_776 (show kd 0 = 6 from rfl) (by decide) rfl mm_X6_setLongest ⟨rfl, rfl⟩ (by rw [hKR]; exact ⟨Nat.le_of_ble_eq_true rfl, Nat.le_of_ble_eq_true rfl⟩) (by rw [hKR]; exact ⟨Nat.le_of_ble_eq_true rfl, Nat.le_of_ble_eq_true rfl⟩) rfl rfl rfl (Nat.le_of_ble_eq_true rfl) dL_setLongest_5 rfl (fun e9 D2 P2 hx => ?_) (fun r D2 P2 hp => ?_)
  ·
    obtain ⟨hx, hF, hPP⟩ := hx
    rcases hx with ⟨rfl, hK⟩ | ⟨rfl, hK⟩
    ·
      refine ⟨[], ⟨0, 10, 13, 13⟩, [⟨0, 10, 17, 15⟩], hT, (fun z hz => nomatch hz), by decide, by decide, tw_622, NG_c Z (List.mem_of_getElem? (i := 2) rfl), fun q9 => ?_⟩
      refine pv_astore (q := 15) C dL_setLongest_13 rfl (Nat.le_of_ble_eq_true rfl) rfl ?_
      refine pv_iconst (q := 16) (v := 1) C dL_setLongest_15 rfl (by decide) ?_
      exact XK.of (pv_iret C (WQ_no h hK (by decide) hF hPP) (by omega) (by omega) dL_setLongest_16)
    ·
      refine ⟨[⟨0, 10, 13, 13⟩], ⟨0, 10, 17, 15⟩, [], hT, (fun z hz => by
              simp only [List.mem_cons, List.not_mem_nil, or_false] at hz
              rcases hz with rfl
              · exact Or.inr ⟨by decide, eIOE, tw_622, hNC.1⟩), by decide, by decide, tw_623, NG_c Z (List.mem_of_getElem? (i := 3) rfl), fun q9 => ?_⟩
      refine pv_astore (q := 19) C dL_setLongest_17 rfl (Nat.le_of_ble_eq_true rfl) rfl ?_
      refine pv_iconst (q := 20) (v := 2) C dL_setLongest_19 rfl (by decide) ?_
      exact XK.of (pv_iret C (WQ_no h hK (by decide) hF hPP) (by omega) (by omega) dL_setLongest_20)
  ·
    obtain ⟨hK, rfl, hRI2, hF⟩ := hp
    refine pv_i2l (q := 9) C dL_setLongest_8 rfl ?_
    refine pv_last (q := 10) C rfl dL_setLongest_9 rfl ?_
    refine pv_goto (tgt := 21) C dL_setLongest_10 (by decide) ?_
    refine pv_iconst (q := 22) (v := 0) C dL_setLongest_21 rfl (by decide) ?_
    exact XK.of (pv_iret C (WQ_chg hK hRI2 hF rfl rfl) (by omega) (by omega) dL_setLongest_22)
theorem mw_L_setLongest : MSW yL_setLongest cL_setLongest 5 (some .int) [(0, 10, 13, 13), (0, 10, 17, 15)] 4 := ⟨tw_774, tw_0, tw_775, ⟨by decide +kernel, by decide +kernel⟩, by decide +kernel⟩
set_option maxRecDepth 100000 in
set_option maxHeartbeats 4000000 in
theorem c_L_pass (l : Launch) (X : XT) (D : DT) (P : PT) (hfl : l.stackTraces = false) (M : DT) (W : Nat) (h : RI D P M W) (hW : W + 200 < 2 ^ 29) (ticks : Int32) : LG l X yL_pass cL_pass 4 [(0, 9, 12, 15)] ({ frames := 7, cells := 1, slots := 6, locals := 252 } : Room) [.ref (X.2.2 0), .int ticks, .ref (X.2.2 13)] (fun r D' P' => WQ (kRg ticks 1 30) ((m_ticks (M 7) (ix ticks) 181 - M 7 181 : Int32).toInt64) M (va_up (m_save (clr M)) 7 (m_ticks (M 7) (ix ticks))) D W r D' P') D P 1 6 := by
  refine lg_of (by decide +kernel) (Nat.le_of_ble_eq_true rfl) ?_
  intro K hKl hKR C hT Z hNC
  have hfl2 : K.2.1.stackTraces = false := by rw [hKl]; exact hfl
  refine PV_lv (lv' := [some (.ref (X.2.2 0)), some (.int ticks), some (.ref (X.2.2 13)), none]) rfl ?_
  refine pv_aload_n (q := 1) C dL_pass_0 rfl rfl rfl ?_
  refine pv_iconst (q := 2) (v := 0) C dL_pass_1 rfl (by decide) ?_
  refine pv_aload_n (q := 3) C dL_pass_2 rfl rfl rfl ?_
  refine pv_iload_n (q := 4) C dL_pass_3 rfl rfl rfl ?_
  refine pv_callVixH (q := 7) (rest := [.int 0, .ref (X.2.2 13)]) C Z hKl (c_X6_pass l X D P (hKl ▸ hfl2) M W h hW ticks) tw_783 (show kd 0 = 6 from rfl) (by decide) rfl mm_X6_pass ⟨rfl, rfl⟩ (by rw [hKR]; exact ⟨Nat.le_of_ble_eq_true rfl, Nat.le_of_ble_eq_true rfl⟩) (by rw [hKR]; exact ⟨Nat.le_of_ble_eq_true rfl, Nat.le_of_ble_eq_true rfl⟩) rfl rfl rfl (Nat.le_of_ble_eq_true rfl) dL_pass_4 rfl (fun e9 D2 P2 hx => ?_) (fun r D2 P2 hp => ?_)
  ·
    obtain ⟨⟨rfl, hK⟩, hF, hPP⟩ := hx
    refine ⟨[], ⟨0, 9, 12, 15⟩, [], hT, (fun z hz => nomatch hz), by decide, by decide, tw_623, NG_c Z (List.mem_of_getElem? (i := 3) rfl), fun q9 => ?_⟩
    refine pv_astore_n (q := 13) C dL_pass_12 rfl rfl (Nat.le_of_ble_eq_true rfl) rfl ?_
    refine pv_iconst (q := 14) (v := 1) C dL_pass_13 rfl (by decide) ?_
    exact XK.of (pv_iret C (WQ_no h hK (by decide) hF hPP) (by omega) (by omega) dL_pass_14)
  ·
    obtain ⟨hK, rfl, hRI2, hF⟩ := hp
    refine pv_i2l (q := 8) C dL_pass_7 rfl ?_
    refine pv_last (q := 9) C rfl dL_pass_8 rfl ?_
    refine pv_goto (tgt := 15) C dL_pass_9 (by decide) ?_
    refine pv_iconst (q := 16) (v := 0) C dL_pass_15 rfl (by decide) ?_
    exact XK.of (pv_iret C (WQ_chg hK hRI2 hF rfl rfl) (by omega) (by omega) dL_pass_16)
theorem mw_L_pass : MSW yL_pass cL_pass 4 (some .int) [(0, 9, 12, 15)] 3 := ⟨tw_781, tw_0, tw_782, ⟨by decide +kernel, by decide +kernel⟩, by decide +kernel⟩
set_option maxRecDepth 100000 in
set_option maxHeartbeats 4000000 in
theorem c_L_append (l : Launch) (X : XT) (D : DT) (P : PT) (hfl : l.stackTraces = false) (M : DT) (W : Nat) (h : RI D P M W) (hW : W + 200 < 2 ^ 29) (n : Nat) (hn60 : n ≤ 60) (hn9 : M 6 9 = nI n) (code : Int32) : LG l X yL_append cL_append 4 [(0, 9, 12, 15), (0, 9, 15, 17)] ({ frames := 7, cells := 2, slots := 12, locals := 252 } : Room) [.ref (X.2.2 0), .int code, .ref (X.2.2 13)] (fun r D' P' => WQ (kApp n code) ((nI n + 1 : Int32).toInt64) M (up2 (up2 (clr M) 12 n code) 6 9 (nI n + 1)) D W r D' P') D P 2 12 := by
  refine lg_of (by decide +kernel) (Nat.le_of_ble_eq_true rfl) ?_
  intro K hKl hKR C hT Z hNC
  have hfl2 : K.2.1.stackTraces = false := by rw [hKl]; exact hfl
  refine PV_lv (lv' := [some (.ref (X.2.2 0)), some (.int code), some (.ref (X.2.2 13)), none]) rfl ?_
  refine pv_aload_n (q := 1) C dL_append_0 rfl rfl rfl ?_
  refine pv_iconst (q := 2) (v := 0) C dL_append_1 rfl (by decide) ?_
  refine pv_aload_n (q := 3) C dL_append_2 rfl rfl rfl ?_
  refine pv_iload_n (q := 4) C dL_append_3 rfl rfl rfl ?_
  refine pv_callVixH (q := 7) (rest := [.int 0, .ref (X.2.2 13)]) C Z hKl (c_X6_append l X D P (hKl ▸ hfl2) M W h hW n hn60 hn9 code) tw_799 (show kd 0 = 6 from rfl) (by decide) rfl mm_X6_append ⟨rfl, rfl⟩ (by rw [hKR]; exact ⟨Nat.le_of_ble_eq_true rfl, Nat.le_of_ble_eq_true rfl⟩) (by rw [hKR]; exact ⟨Nat.le_of_ble_eq_true rfl, Nat.le_of_ble_eq_true rfl⟩) rfl rfl rfl (Nat.le_of_ble_eq_true rfl) dL_append_4 rfl (fun e9 D2 P2 hx => ?_) (fun r D2 P2 hp => ?_)
  ·
    obtain ⟨hx, hF, hPP⟩ := hx
    rcases hx with ⟨rfl, hK⟩ | ⟨rfl, hK⟩
    ·
      refine ⟨[], ⟨0, 9, 12, 15⟩, [⟨0, 9, 15, 17⟩], hT, (fun z hz => nomatch hz), by decide, by decide, tw_623, NG_c Z (List.mem_of_getElem? (i := 3) rfl), fun q9 => ?_⟩
      refine pv_astore_n (q := 13) C dL_append_12 rfl rfl (Nat.le_of_ble_eq_true rfl) rfl ?_
      refine pv_iconst (q := 14) (v := 1) C dL_append_13 rfl (by decide) ?_
      exact XK.of (pv_iret C (WQ_no h hK (by decide) hF hPP) (by omega) (by omega) dL_append_14)
    ·
      refine ⟨[⟨0, 9, 12, 15⟩], ⟨0, 9, 15, 17⟩, [], hT, (fun z hz => by
              simp only [List.mem_cons, List.not_mem_nil, or_false] at hz
              rcases hz with rfl
              · exact Or.inr ⟨by decide, eIAE, tw_623, hNC.2.2⟩), by decide, by decide, tw_624, NG_c Z (List.mem_of_getElem? (i := 1) rfl), fun q9 => ?_⟩
      refine pv_astore_n (q := 16) C dL_append_15 rfl rfl (Nat.le_of_ble_eq_true rfl) rfl ?_
      refine pv_iconst (q := 17) (v := 2) C dL_append_16 rfl (by decide) ?_
      exact XK.of (pv_iret C (WQ_no h hK (by decide) hF hPP) (by omega) (by omega) dL_append_17)
  ·
    obtain ⟨hK, rfl, hRI2, hF⟩ := hp
    refine pv_i2l (q := 8) C dL_append_7 rfl ?_
    refine pv_last (q := 9) C rfl dL_append_8 rfl ?_
    refine pv_goto (tgt := 18) C dL_append_9 (by decide) ?_
    refine pv_iconst (q := 19) (v := 0) C dL_append_18 rfl (by decide) ?_
    exact XK.of (pv_iret C (WQ_chg hK hRI2 hF rfl rfl) (by omega) (by omega) dL_append_19)
theorem mw_L_append : MSW yL_append cL_append 4 (some .int) [(0, 9, 12, 15), (0, 9, 15, 17)] 3 := ⟨tw_797, tw_0, tw_798, ⟨by decide +kernel, by decide +kernel⟩, by decide +kernel⟩
set_option maxRecDepth 100000 in
set_option maxHeartbeats 4000000 in
theorem c_L_replay (l : Launch) (X : XT) (D : DT) (P : PT) (hfl : l.stackTraces = false) (M : DT) (W : Nat) (h : RI D P M W) (hW : W + 200 < 2 ^ 29) (n : Nat) (hn60 : n ≤ 60) (hn9 : M 6 9 = nI n)  : LG l X yL_replay cL_replay 3 [(0, 8, 11, 15)] ({ frames := 7, cells := 1, slots := 6, locals := 252 } : Room) [.ref (X.2.2 0), .ref (X.2.2 13)] (fun r D' P' => WQ (kRpl M n) (((rFin (M 12) n (M 7)).2.2 : Int32).toInt64) M (m_rpl M n) D W r D' P') D P 1 6 := by
  refine lg_of (by decide +kernel) (Nat.le_of_ble_eq_true rfl) ?_
  intro K hKl hKR C hT Z hNC
  have hfl2 : K.2.1.stackTraces = false := by rw [hKl]; exact hfl
  refine PV_lv (lv' := [some (.ref (X.2.2 0)), some (.ref (X.2.2 13)), none]) rfl ?_
  refine pv_aload_n (q := 1) C dL_replay_0 rfl rfl rfl ?_
  refine pv_iconst (q := 2) (v := 0) C dL_replay_1 rfl (by decide) ?_
  refine pv_aload_n (q := 3) C dL_replay_2 rfl rfl rfl ?_
  refine pv_callVixH (q := 6) (rest := [.int 0, .ref (X.2.2 13)]) C Z hKl (c_X6_replay l X D P (hKl ▸ hfl2) M W h hW n hn60 hn9) tw_812 (show kd 0 = 6 from rfl) (by decide) rfl mm_X6_replay ⟨rfl, rfl⟩ (by rw [hKR]; exact ⟨Nat.le_of_ble_eq_true rfl, Nat.le_of_ble_eq_true rfl⟩) (by rw [hKR]; exact ⟨Nat.le_of_ble_eq_true rfl, Nat.le_of_ble_eq_true rfl⟩) rfl rfl rfl (Nat.le_of_ble_eq_true rfl) dL_replay_3 rfl (fun e9 D2 P2 hx => ?_) (fun r D2 P2 hp => ?_)
  ·
    obtain ⟨⟨rfl, hK⟩, hRI2, hF⟩ := hx
    refine ⟨[], ⟨0, 8, 11, 15⟩, [], hT, (fun z hz => nomatch hz), by decide, by decide, tw_623, NG_c Z (List.mem_of_getElem? (i := 3) rfl), fun q9 => ?_⟩
    refine pv_astore_n (q := 12) C dL_replay_11 rfl rfl (Nat.le_of_ble_eq_true rfl) rfl ?_
    refine pv_iconst (q := 13) (v := 1) C dL_replay_12 rfl (by decide) ?_
    exact XK.of (pv_iret C (WQ_no2 hRI2 hK (by decide) hF) (by omega) (by omega) dL_replay_13)
  ·
    obtain ⟨hK, rfl, hRI2, hF⟩ := hp
    refine pv_i2l (q := 7) C dL_replay_6 rfl ?_
    refine pv_last (q := 8) C rfl dL_replay_7 rfl ?_
    refine pv_goto (tgt := 14) C dL_replay_8 (by decide) ?_
    refine pv_iconst (q := 15) (v := 0) C dL_replay_14 rfl (by decide) ?_
    exact XK.of (pv_iret C (WQ_chg hK hRI2 hF rfl rfl) (by omega) (by omega) dL_replay_15)
theorem mw_L_replay : MSW yL_replay cL_replay 3 (some .int) [(0, 8, 11, 15)] 2 := ⟨tw_810, tw_0, tw_811, ⟨by decide +kernel, by decide +kernel⟩, by decide +kernel⟩
set_option maxRecDepth 100000 in
set_option maxHeartbeats 4000000 in
theorem c_L_stoppedPart (l : Launch) (X : XT) (D : DT) (P : PT) (hfl : l.stackTraces = false) (M : DT) (W : Nat) (h : RI D P M W)  : LG l X yL_stoppedPart cL_stoppedPart 3 [(0, 8, 11, 17)] ({ frames := 7, cells := 1, slots := 6, locals := 252 } : Room) [.ref (X.2.2 0), .ref (X.2.2 13)] (fun r D' P' => WQ (if M 7 183 = -1 then 1 else 0) ((M 7 183 : Int32).toInt64) M M D W r D' P') D P 1 6 := by
  refine lg_of (by decide +kernel) (Nat.le_of_ble_eq_true rfl) ?_
  intro K hKl hKR C hT Z hNC
  have hfl2 : K.2.1.stackTraces = false := by rw [hKl]; exact hfl
  refine PV_lv (lv' := [some (.ref (X.2.2 0)), some (.ref (X.2.2 13)), none]) rfl ?_
  refine pv_aload_n (q := 1) C dL_stoppedPart_0 rfl rfl rfl ?_
  refine pv_iconst (q := 2) (v := 0) C dL_stoppedPart_1 rfl (by decide) ?_
  refine pv_aload_n (q := 3) C dL_stoppedPart_2 rfl rfl rfl ?_
  refine pv_callVixH (q := 6) (rest := [.int 0, .ref (X.2.2 13)]) C Z hKl (c_X6_stoppedPart l X D P (hKl ▸ hfl2) M W h) tw_839 (show kd 0 = 6 from rfl) (by decide) rfl mm_X6_stoppedPart ⟨rfl, rfl⟩ (by rw [hKR]; exact ⟨Nat.le_of_ble_eq_true rfl, Nat.le_of_ble_eq_true rfl⟩) (by rw [hKR]; exact ⟨Nat.le_of_ble_eq_true rfl, Nat.le_of_ble_eq_true rfl⟩) rfl rfl rfl (Nat.le_of_ble_eq_true rfl) dL_stoppedPart_3 rfl (fun e9 D2 P2 hx => ?_) (fun r D2 P2 hp => ?_)
  ·
    obtain ⟨⟨rfl, hK⟩, hF, hPP⟩ := hx
    refine ⟨[], ⟨0, 8, 11, 17⟩, [], hT, (fun z hz => nomatch hz), by decide, by decide, tw_624, NG_c Z (List.mem_of_getElem? (i := 1) rfl), fun q9 => ?_⟩
    refine pv_astore_n (q := 12) C dL_stoppedPart_11 rfl rfl (Nat.le_of_ble_eq_true rfl) rfl ?_
    refine pv_iconst (q := 13) (v := 1) C dL_stoppedPart_12 rfl (by decide) ?_
    exact XK.of (pv_iret C (WQ_no h (kNi1 hK) (by decide) hF hPP) (by omega) (by omega) dL_stoppedPart_13)
  ·
    obtain ⟨hK, hr, hF, rfl⟩ := hp
    refine pv_i2l (q := 7) C dL_stoppedPart_6 rfl ?_
    refine pv_last (q := 8) C rfl dL_stoppedPart_7 rfl ?_
    refine pv_goto (tgt := 14) C dL_stoppedPart_8 (by decide) ?_
    refine pv_iconst (q := 15) (v := 0) C dL_stoppedPart_14 rfl (by decide) ?_
    exact XK.of (pv_iret C (WQ_look h (kNi0 hK) hF rfl (by rw [← hr])) (by omega) (by omega) dL_stoppedPart_15)
theorem mw_L_stoppedPart : MSW yL_stoppedPart cL_stoppedPart 3 (some .int) [(0, 8, 11, 17)] 2 := ⟨tw_837, tw_0, tw_838, ⟨by decide +kernel, by decide +kernel⟩, by decide +kernel⟩
set_option maxRecDepth 100000 in
set_option maxHeartbeats 4000000 in
theorem c_L_undo (l : Launch) (X : XT) (D : DT) (P : PT) (hfl : l.stackTraces = false) (M : DT) (W : Nat) (h : RI D P M W) (hW : W + 200 < 2 ^ 29) (s : Nat) (hs5 : s ≤ 5) (hs3 : M 6 3 = nI s)  : LG l X yL_undo cL_undo 3 [(0, 8, 11, 17)] ({ frames := 7, cells := 1, slots := 6, locals := 252 } : Room) [.ref (X.2.2 0), .ref (X.2.2 13)] (fun r D' P' => WQ (if s = 0 then 1 else 0) ((nI (s - 1) : Int32).toInt64) M (m_und (clr M) s) D W r D' P') D P 1 6 := by
  refine lg_of (by decide +kernel) (Nat.le_of_ble_eq_true rfl) ?_
  intro K hKl hKR C hT Z hNC
  have hfl2 : K.2.1.stackTraces = false := by rw [hKl]; exact hfl
  refine PV_lv (lv' := [some (.ref (X.2.2 0)), some (.ref (X.2.2 13)), none]) rfl ?_
  refine pv_aload_n (q := 1) C dL_undo_0 rfl rfl rfl ?_
  refine pv_iconst (q := 2) (v := 0) C dL_undo_1 rfl (by decide) ?_
  refine pv_aload_n (q := 3) C dL_undo_2 rfl rfl rfl ?_
  refine pv_callVixH (q := 6) (rest := [.int 0, .ref (X.2.2 13)]) C Z hKl (c_X6_undo l X D P (hKl ▸ hfl2) M W h hW s hs5 hs3) tw_847 (show kd 0 = 6 from rfl) (by decide) rfl mm_X6_undo ⟨rfl, rfl⟩ (by rw [hKR]; exact ⟨Nat.le_of_ble_eq_true rfl, Nat.le_of_ble_eq_true rfl⟩) (by rw [hKR]; exact ⟨Nat.le_of_ble_eq_true rfl, Nat.le_of_ble_eq_true rfl⟩) rfl rfl rfl (Nat.le_of_ble_eq_true rfl) dL_undo_3 rfl (fun e9 D2 P2 hx => ?_) (fun r D2 P2 hp => ?_)
  ·
    obtain ⟨⟨rfl, hK⟩, hF, hPP⟩ := hx
    refine ⟨[], ⟨0, 8, 11, 17⟩, [], hT, (fun z hz => nomatch hz), by decide, by decide, tw_624, NG_c Z (List.mem_of_getElem? (i := 1) rfl), fun q9 => ?_⟩
    refine pv_astore_n (q := 12) C dL_undo_11 rfl rfl (Nat.le_of_ble_eq_true rfl) rfl ?_
    refine pv_iconst (q := 13) (v := 1) C dL_undo_12 rfl (by decide) ?_
    exact XK.of (pv_iret C (WQ_no h (kNi1 hK) (by decide) hF hPP) (by omega) (by omega) dL_undo_13)
  ·
    obtain ⟨hK, rfl, hRI2, hF⟩ := hp
    refine pv_i2l (q := 7) C dL_undo_6 rfl ?_
    refine pv_last (q := 8) C rfl dL_undo_7 rfl ?_
    refine pv_goto (tgt := 14) C dL_undo_8 (by decide) ?_
    refine pv_iconst (q := 15) (v := 0) C dL_undo_14 rfl (by decide) ?_
    exact XK.of (pv_iret C (WQ_chg (kNi0 hK) hRI2 hF rfl rfl) (by omega) (by omega) dL_undo_15)
theorem mw_L_undo : MSW yL_undo cL_undo 3 (some .int) [(0, 8, 11, 17)] 2 := ⟨tw_845, tw_0, tw_846, ⟨by decide +kernel, by decide +kernel⟩, by decide +kernel⟩
set_option maxRecDepth 100000 in
set_option maxHeartbeats 4000000 in
theorem c_L_restore (l : Launch) (X : XT) (D : DT) (P : PT) (hfl : l.stackTraces = false) (M : DT) (W : Nat) (h : RI D P M W) (hW : W + 200 < 2 ^ 29)  : LG l X yL_restore cL_restore 3 [(0, 8, 11, 17)] ({ frames := 7, cells := 1, slots := 6, locals := 252 } : Room) [.ref (X.2.2 0), .ref (X.2.2 13)] (fun r D' P' => WQ (if M 6 5 = 0 then 1 else 0) ((nI (tk (M 9)) : Int32).toInt64) M (m_rest (m_save (clr M))) D W r D' P') D P 1 6 := by
  refine lg_of (by decide +kernel) (Nat.le_of_ble_eq_true rfl) ?_
  intro K hKl hKR C hT Z hNC
  have hfl2 : K.2.1.stackTraces = false := by rw [hKl]; exact hfl
  refine PV_lv (lv' := [some (.ref (X.2.2 0)), some (.ref (X.2.2 13)), none]) rfl ?_
  refine pv_aload_n (q := 1) C dL_restore_0 rfl rfl rfl ?_
  refine pv_iconst (q := 2) (v := 0) C dL_restore_1 rfl (by decide) ?_
  refine pv_aload_n (q := 3) C dL_restore_2 rfl rfl rfl ?_
  refine pv_callVixH (q := 6) (rest := [.int 0, .ref (X.2.2 13)]) C Z hKl (c_X6_restore l X D P (hKl ▸ hfl2) M W h hW) tw_855 (show kd 0 = 6 from rfl) (by decide) rfl mm_X6_restore ⟨rfl, rfl⟩ (by rw [hKR]; exact ⟨Nat.le_of_ble_eq_true rfl, Nat.le_of_ble_eq_true rfl⟩) (by rw [hKR]; exact ⟨Nat.le_of_ble_eq_true rfl, Nat.le_of_ble_eq_true rfl⟩) rfl rfl rfl (Nat.le_of_ble_eq_true rfl) dL_restore_3 rfl (fun e9 D2 P2 hx => ?_) (fun r D2 P2 hp => ?_)
  ·
    obtain ⟨⟨rfl, hK⟩, hF, hPP⟩ := hx
    refine ⟨[], ⟨0, 8, 11, 17⟩, [], hT, (fun z hz => nomatch hz), by decide, by decide, tw_624, NG_c Z (List.mem_of_getElem? (i := 1) rfl), fun q9 => ?_⟩
    refine pv_astore_n (q := 12) C dL_restore_11 rfl rfl (Nat.le_of_ble_eq_true rfl) rfl ?_
    refine pv_iconst (q := 13) (v := 1) C dL_restore_12 rfl (by decide) ?_
    exact XK.of (pv_iret C (WQ_no h (kNi1 hK) (by decide) hF hPP) (by omega) (by omega) dL_restore_13)
  ·
    obtain ⟨hK, rfl, hRI2, hF⟩ := hp
    refine pv_i2l (q := 7) C dL_restore_6 rfl ?_
    refine pv_last (q := 8) C rfl dL_restore_7 rfl ?_
    refine pv_goto (tgt := 14) C dL_restore_8 (by decide) ?_
    refine pv_iconst (q := 15) (v := 0) C dL_restore_14 rfl (by decide) ?_
    exact XK.of (pv_iret C (WQ_chg (kNi0 hK) hRI2 hF rfl rfl) (by omega) (by omega) dL_restore_15)
theorem mw_L_restore : MSW yL_restore cL_restore 3 (some .int) [(0, 8, 11, 17)] 2 := ⟨tw_853, tw_0, tw_854, ⟨by decide +kernel, by decide +kernel⟩, by decide +kernel⟩
set_option maxRecDepth 100000 in
set_option maxHeartbeats 4000000 in
theorem c_L_isFree (l : Launch) (X : XT) (D : DT) (P : PT) (hfl : l.stackTraces = false) (M : DT) (W : Nat) (h : RI D P M W) (place : Int32) : LG l X yL_isFree cL_isFree 4 [(0, 16, 19, 13)] ({ frames := 8, cells := 1, slots := 6, locals := 288 } : Room) [.ref (X.2.2 0), .int place, .ref (X.2.2 13)] (fun r D' P' => WQ (kRg place 0 15) ((if M 7 (ix place) = 0 then 1 else 0 : Int32).toInt64) M M D W r D' P') D P 1 6 := by
  refine lg_of (by decide +kernel) (Nat.le_of_ble_eq_true rfl) ?_
  intro K hKl hKR C hT Z hNC
  have hfl2 : K.2.1.stackTraces = false := by rw [hKl]; exact hfl
  refine PV_lv (lv' := [some (.ref (X.2.2 0)), some (.int place), some (.ref (X.2.2 13)), none]) rfl ?_
  refine pv_aload_n (q := 1) C dL_isFree_0 rfl rfl rfl ?_
  refine pv_iconst (q := 2) (v := 0) C dL_isFree_1 rfl (by decide) ?_
  refine pv_aload_n (q := 3) C dL_isFree_2 rfl rfl rfl ?_
  refine pv_iload_n (q := 4) C dL_isFree_3 rfl rfl rfl ?_
  refine pv_callVixH (q := 7) (rest := [.int 0, .ref (X.2.2 13)]) C Z hKl (c_X6_isFree l X D P (hKl ▸ hfl2) M W h place) tw_863 (show kd 0 = 6 from rfl) (by decide) rfl mm_X6_isFree ⟨rfl, rfl⟩ (by rw [hKR]; exact ⟨Nat.le_of_ble_eq_true rfl, Nat.le_of_ble_eq_true rfl⟩) (by rw [hKR]; exact ⟨Nat.le_of_ble_eq_true rfl, Nat.le_of_ble_eq_true rfl⟩) rfl rfl rfl (Nat.le_of_ble_eq_true rfl) dL_isFree_4 rfl (fun e9 D2 P2 hx => ?_) (fun r D2 P2 hp => ?_)
  ·
    obtain ⟨⟨rfl, hK⟩, hF, hPP⟩ := hx
    refine ⟨[], ⟨0, 16, 19, 13⟩, [], hT, (fun z hz => nomatch hz), by decide, by decide, tw_622, NG_c Z (List.mem_of_getElem? (i := 2) rfl), fun q9 => ?_⟩
    refine pv_astore_n (q := 20) C dL_isFree_19 rfl rfl (Nat.le_of_ble_eq_true rfl) rfl ?_
    refine pv_iconst (q := 21) (v := 1) C dL_isFree_20 rfl (by decide) ?_
    exact XK.of (pv_iret C (WQ_no h hK (by decide) hF hPP) (by omega) (by omega) dL_isFree_21)
  ·
    obtain ⟨hK, hr, hF, rfl⟩ := hp
    refine pv_if_eq (q := 10) (tgt := 14) C dL_isFree_7 (by decide) rfl (fun c0 => ?_) (fun c0 => ?_)
    ·
      refine pv_lconst (q := 15) (v := 0) C dL_isFree_14 rfl (by decide) ?_
      refine pv_last (q := 16) C rfl dL_isFree_15 rfl ?_
      refine pv_goto (tgt := 22) C dL_isFree_16 (by decide) ?_
      refine pv_iconst (q := 23) (v := 0) C dL_isFree_22 rfl (by decide) ?_
      exact XK.of (pv_iret C (WQ_look h hK hF rfl (by rw [← hr, c0]; rfl)) (by omega) (by omega) dL_isFree_23)
    ·
      refine pv_lconst (q := 11) (v := 1) C dL_isFree_10 rfl (by decide) ?_
      refine pv_goto (tgt := 15) C dL_isFree_11 (by decide) ?_
      refine pv_last (q := 16) C rfl dL_isFree_15 rfl ?_
      refine pv_goto (tgt := 22) C dL_isFree_16 (by decide) ?_
      refine pv_iconst (q := 23) (v := 0) C dL_isFree_22 rfl (by decide) ?_
      exact XK.of (pv_iret C (WQ_look h hK hF rfl (by rw [← hr, (show r = 1 by rw [hr] at c0 ⊢; split at c0 <;> first | exact absurd rfl c0 | (split <;> first | rfl | contradiction))]; rfl)) (by omega) (by omega) dL_isFree_23)
theorem mw_L_isFree : MSW yL_isFree cL_isFree 4 (some .int) [(0, 16, 19, 13)] 3 := ⟨tw_861, tw_0, tw_862, ⟨by decide +kernel, by decide +kernel⟩, by decide +kernel⟩
set_option maxRecDepth 100000 in
set_option maxHeartbeats 4000000 in
theorem c_L_groupAt (l : Launch) (X : XT) (D : DT) (P : PT) (hfl : l.stackTraces = false) (M : DT) (W : Nat) (h : RI D P M W) (place : Int32) : LG l X yL_groupAt cL_groupAt 4 [(0, 9, 12, 13), (0, 9, 15, 17)] ({ frames := 8, cells := 2, slots := 12, locals := 288 } : Room) [.ref (X.2.2 0), .int place, .ref (X.2.2 13)] (fun r D' P' => WQ (kRow (M 7) place) ((M 7 (ix place) - 1 : Int32).toInt64) M M D W r D' P') D P 2 12 := by
  refine lg_of (by decide +kernel) (Nat.le_of_ble_eq_true rfl) ?_
  intro K hKl hKR C hT Z hNC
  have hfl2 : K.2.1.stackTraces = false := by rw [hKl]; exact hfl
  refine PV_lv (lv' := [some (.ref (X.2.2 0)), some (.int place), some (.ref (X.2.2 13)), none]) rfl ?_
  refine pv_aload_n (q := 1) C dL_groupAt_0 rfl rfl rfl ?_
  refine pv_iconst (q := 2) (v := 0) C dL_groupAt_1 rfl (by decide) ?_
  refine pv_aload_n (q := 3) C dL_groupAt_2 rfl rfl rfl ?_
  refine pv_iload_n (q := 4) C dL_groupAt_3 rfl rfl rfl ?_
  refine pv_callVixH (q := 7) (rest := [.int 0, .ref (X.2.2 13)]) C Z hKl (c_X6_groupAt l X D P (hKl ▸ hfl2) M W h place) tw_867 (show kd 0 = 6 from rfl) (by decide) rfl mm_X6_groupAt ⟨rfl, rfl⟩ (by rw [hKR]; exact ⟨Nat.le_of_ble_eq_true rfl, Nat.le_of_ble_eq_true rfl⟩) (by rw [hKR]; exact ⟨Nat.le_of_ble_eq_true rfl, Nat.le_of_ble_eq_true rfl⟩) rfl rfl rfl (Nat.le_of_ble_eq_true rfl) dL_groupAt_4 rfl (fun e9 D2 P2 hx => ?_) (fun r D2 P2 hp => ?_)
  ·
    obtain ⟨hx, hF, hPP⟩ := hx
    rcases hx with ⟨rfl, hK⟩ | ⟨rfl, hK⟩
    ·
      refine ⟨[], ⟨0, 9, 12, 13⟩, [⟨0, 9, 15, 17⟩], hT, (fun z hz => nomatch hz), by decide, by decide, tw_622, NG_c Z (List.mem_of_getElem? (i := 2) rfl), fun q9 => ?_⟩
      refine pv_astore_n (q := 13) C dL_groupAt_12 rfl rfl (Nat.le_of_ble_eq_true rfl) rfl ?_
      refine pv_iconst (q := 14) (v := 1) C dL_groupAt_13 rfl (by decide) ?_
      exact XK.of (pv_iret C (WQ_no h hK (by decide) hF hPP) (by omega) (by omega) dL_groupAt_14)
    ·
      refine ⟨[⟨0, 9, 12, 13⟩], ⟨0, 9, 15, 17⟩, [], hT, (fun z hz => by
              simp only [List.mem_cons, List.not_mem_nil, or_false] at hz
              rcases hz with rfl
              · exact Or.inr ⟨by decide, eIOE, tw_622, hNC.2.1⟩), by decide, by decide, tw_624, NG_c Z (List.mem_of_getElem? (i := 1) rfl), fun q9 => ?_⟩
      refine pv_astore_n (q := 16) C dL_groupAt_15 rfl rfl (Nat.le_of_ble_eq_true rfl) rfl ?_
      refine pv_iconst (q := 17) (v := 2) C dL_groupAt_16 rfl (by decide) ?_
      exact XK.of (pv_iret C (WQ_no h hK (by decide) hF hPP) (by omega) (by omega) dL_groupAt_17)
  ·
    obtain ⟨hK, hr, hF, rfl⟩ := hp
    refine pv_i2l (q := 8) C dL_groupAt_7 rfl ?_
    refine pv_last (q := 9) C rfl dL_groupAt_8 rfl ?_
    refine pv_goto (tgt := 18) C dL_groupAt_9 (by decide) ?_
    refine pv_iconst (q := 19) (v := 0) C dL_groupAt_18 rfl (by decide) ?_
    exact XK.of (pv_iret C (WQ_look h hK hF rfl (by rw [← hr])) (by omega) (by omega) dL_groupAt_19)
theorem mw_L_groupAt : MSW yL_groupAt cL_groupAt 4 (some .int) [(0, 9, 12, 13), (0, 9, 15, 17)] 3 := ⟨tw_865, tw_0, tw_866, ⟨by decide +kernel, by decide +kernel⟩, by decide +kernel⟩
set_option maxRecDepth 100000 in
set_option maxHeartbeats 4000000 in
theorem c_L_amountAt (l : Launch) (X : XT) (D : DT) (P : PT) (hfl : l.stackTraces = false) (M : DT) (W : Nat) (h : RI D P M W) (place : Int32) : LG l X yL_amountAt cL_amountAt 4 [(0, 9, 12, 13), (0, 9, 15, 17)] ({ frames := 8, cells := 2, slots := 12, locals := 288 } : Room) [.ref (X.2.2 0), .int place, .ref (X.2.2 13)] (fun r D' P' => WQ (kRow (M 7) place) ((M 7 (16 + ix place) : Int32).toInt64) M M D W r D' P') D P 2 12 := by
  refine lg_of (by decide +kernel) (Nat.le_of_ble_eq_true rfl) ?_
  intro K hKl hKR C hT Z hNC
  have hfl2 : K.2.1.stackTraces = false := by rw [hKl]; exact hfl
  refine PV_lv (lv' := [some (.ref (X.2.2 0)), some (.int place), some (.ref (X.2.2 13)), none]) rfl ?_
  refine pv_aload_n (q := 1) C dL_amountAt_0 rfl rfl rfl ?_
  refine pv_iconst (q := 2) (v := 0) C dL_amountAt_1 rfl (by decide) ?_
  refine pv_aload_n (q := 3) C dL_amountAt_2 rfl rfl rfl ?_
  refine pv_iload_n (q := 4) C dL_amountAt_3 rfl rfl rfl ?_
  refine pv_callVixH (q := 7) (rest := [.int 0, .ref (X.2.2 13)]) C Z hKl (c_X6_amountAt l X D P (hKl ▸ hfl2) M W h place) tw_871 (show kd 0 = 6 from rfl) (by decide) rfl mm_X6_amountAt ⟨rfl, rfl⟩ (by rw [hKR]; exact ⟨Nat.le_of_ble_eq_true rfl, Nat.le_of_ble_eq_true rfl⟩) (by rw [hKR]; exact ⟨Nat.le_of_ble_eq_true rfl, Nat.le_of_ble_eq_true rfl⟩) rfl rfl rfl (Nat.le_of_ble_eq_true rfl) dL_amountAt_4 rfl (fun e9 D2 P2 hx => ?_) (fun r D2 P2 hp => ?_)
  ·
    obtain ⟨hx, hF, hPP⟩ := hx
    rcases hx with ⟨rfl, hK⟩ | ⟨rfl, hK⟩
    ·
      refine ⟨[], ⟨0, 9, 12, 13⟩, [⟨0, 9, 15, 17⟩], hT, (fun z hz => nomatch hz), by decide, by decide, tw_622, NG_c Z (List.mem_of_getElem? (i := 2) rfl), fun q9 => ?_⟩
      refine pv_astore_n (q := 13) C dL_amountAt_12 rfl rfl (Nat.le_of_ble_eq_true rfl) rfl ?_
      refine pv_iconst (q := 14) (v := 1) C dL_amountAt_13 rfl (by decide) ?_
      exact XK.of (pv_iret C (WQ_no h hK (by decide) hF hPP) (by omega) (by omega) dL_amountAt_14)
    ·
      refine ⟨[⟨0, 9, 12, 13⟩], ⟨0, 9, 15, 17⟩, [], hT, (fun z hz => by
              simp only [List.mem_cons, List.not_mem_nil, or_false] at hz
              rcases hz with rfl
              · exact Or.inr ⟨by decide, eIOE, tw_622, hNC.2.1⟩), by decide, by decide, tw_624, NG_c Z (List.mem_of_getElem? (i := 1) rfl), fun q9 => ?_⟩
      refine pv_astore_n (q := 16) C dL_amountAt_15 rfl rfl (Nat.le_of_ble_eq_true rfl) rfl ?_
      refine pv_iconst (q := 17) (v := 2) C dL_amountAt_16 rfl (by decide) ?_
      exact XK.of (pv_iret C (WQ_no h hK (by decide) hF hPP) (by omega) (by omega) dL_amountAt_17)
  ·
    obtain ⟨hK, hr, hF, rfl⟩ := hp
    refine pv_i2l (q := 8) C dL_amountAt_7 rfl ?_
    refine pv_last (q := 9) C rfl dL_amountAt_8 rfl ?_
    refine pv_goto (tgt := 18) C dL_amountAt_9 (by decide) ?_
    refine pv_iconst (q := 19) (v := 0) C dL_amountAt_18 rfl (by decide) ?_
    exact XK.of (pv_iret C (WQ_look h hK hF rfl (by rw [← hr])) (by omega) (by omega) dL_amountAt_19)
theorem mw_L_amountAt : MSW yL_amountAt cL_amountAt 4 (some .int) [(0, 9, 12, 13), (0, 9, 15, 17)] 3 := ⟨tw_869, tw_0, tw_870, ⟨by decide +kernel, by decide +kernel⟩, by decide +kernel⟩
