set_option maxRecDepth 100000 in
set_option maxHeartbeats 4000000 in
theorem c_L_napping (l : Launch) (X : XT) (D : DT) (P : PT) (hfl : l.stackTraces = false) (M : DT) (W : Nat) (h : RI D P M W) (view : Int32) : LM l X yL_napping (.codeWith yL_napping cL_napping 3 (some .long) [(0, 13, 14, 15)]) ({ frames := 8, cells := 1, slots := 6, locals := 288 } : Room) [.ref (X.2.2 0), .int view] (qL X (fun r D' P' => QK (wv (kView view) ((if M 7 (32 + 38 * ix view + 32) = 1 then 1 else 0 : Int32).toInt64) cI) M W r D' P')) D P 1 6 := by
  refine lm_ofH (by decide +kernel) (Nat.le_of_ble_eq_true rfl) ?_
  intro K hKl hKR C hT Z hNC
  have hfl2 : K.2.1.stackTraces = false := by rw [hKl]; exact hfl
  refine PV_lv (lv' := [some (.ref (X.2.2 0)), some (.int view), none]) rfl ?_
  refine pv_aload_n (q := 1) C dL_napping_0 rfl rfl rfl ?_
  refine pv_iload_n (q := 2) C dL_napping_1 rfl rfl rfl ?_
  refine pv_callVixH (q := 5) (rest := []) C Z hKl (c_X6_isNapping l X D P (hKl ▸ hfl2) M W h view) tw_796 (show kd 0 = 6 from rfl) (by decide) rfl mm_X6_isNapping ⟨rfl, rfl⟩ (by rw [hKR]; exact ⟨Nat.le_of_ble_eq_true rfl, Nat.le_of_ble_eq_true rfl⟩) (by rw [hKR]; exact ⟨Nat.le_of_ble_eq_true rfl, Nat.le_of_ble_eq_true rfl⟩) rfl rfl rfl (Nat.le_of_ble_eq_true rfl) dL_napping_2 rfl (fun e9 D2 P2 hx => ?_) (fun r D2 P2 hp => ?_)
  ·
    obtain ⟨⟨rfl, hK⟩, hF, hPP⟩ := hx
    refine ⟨[], ⟨0, 13, 14, 15⟩, [], hT, (fun z hz => nomatch hz), by decide, by decide, tw_601, NG_c Z (List.mem_of_getElem? (i := 2) rfl), fun q9 => ?_⟩
    refine pv_astore_n (q := 15) C dL_napping_14 rfl rfl (Nat.le_of_ble_eq_true rfl) rfl ?_
    refine pv_ldc2 (q := 18) C dL_napping_15 rfl tw_654 ?_
    exact XK.of (pv_lret C (QK_no h hK (by decide) hF hPP rfl) (by omega) (by omega) dL_napping_18)
  ·
    obtain ⟨hK, hr, hF, hPP⟩ := hp
    refine pv_if_eq (q := 8) (tgt := 12) C dL_napping_5 (by decide) rfl (fun c0 => ?_) (fun c0 => ?_)
    ·
      refine pv_lconst (q := 13) (v := 0) C dL_napping_12 rfl (by decide) ?_
      exact XK.of (pv_lret C (QK_ok h hK hF hPP (by rw [← hr, c0]; rfl)) (by omega) (by omega) dL_napping_13)
    ·
      refine pv_lconst (q := 9) (v := 1) C dL_napping_8 rfl (by decide) ?_
      refine pv_goto (tgt := 13) C dL_napping_9 (by decide) ?_
      exact XK.of (pv_lret C (QK_ok h hK hF hPP (by rw [← hr, (show r = 1 by rw [hr] at c0 ⊢; split at c0 <;> first | exact absurd rfl c0 | (split <;> first | rfl | contradiction))]; rfl)) (by omega) (by omega) dL_napping_13)
theorem mw_L_napping : MSW yL_napping cL_napping 3 (some .long) [(0, 13, 14, 15)] 2 := ⟨tw_794, tw_0, tw_795, ⟨by decide +kernel, by decide +kernel⟩, by decide +kernel⟩
set_option maxRecDepth 100000 in
set_option maxHeartbeats 4000000 in
theorem c_L_napOf (l : Launch) (X : XT) (D : DT) (P : PT) (hfl : l.stackTraces = false) (M : DT) (W : Nat) (h : RI D P M W) (view : Int32) : LM l X yL_napOf (.codeWith yL_napOf cL_napOf 3 (some .long) [(0, 6, 7, 15)]) ({ frames := 8, cells := 1, slots := 6, locals := 288 } : Room) [.ref (X.2.2 0), .int view] (qL X (fun r D' P' => QK (wv (kView view) ((M 7 (32 + 38 * ix view + 33) : Int32).toInt64) cI) M W r D' P')) D P 1 6 := by
  refine lm_ofH (by decide +kernel) (Nat.le_of_ble_eq_true rfl) ?_
  intro K hKl hKR C hT Z hNC
  have hfl2 : K.2.1.stackTraces = false := by rw [hKl]; exact hfl
  refine PV_lv (lv' := [some (.ref (X.2.2 0)), some (.int view), none]) rfl ?_
  refine pv_aload_n (q := 1) C dL_napOf_0 rfl rfl rfl ?_
  refine pv_iload_n (q := 2) C dL_napOf_1 rfl rfl rfl ?_
  refine pv_callVixH (q := 5) (rest := []) C Z hKl (c_X6_napOf l X D P (hKl ▸ hfl2) M W h view) tw_906 (show kd 0 = 6 from rfl) (by decide) rfl mm_X6_napOf ⟨rfl, rfl⟩ (by rw [hKR]; exact ⟨Nat.le_of_ble_eq_true rfl, Nat.le_of_ble_eq_true rfl⟩) (by rw [hKR]; exact ⟨Nat.le_of_ble_eq_true rfl, Nat.le_of_ble_eq_true rfl⟩) rfl rfl rfl (Nat.le_of_ble_eq_true rfl) dL_napOf_2 rfl (fun e9 D2 P2 hx => ?_) (fun r D2 P2 hp => ?_)
  ·
    obtain ⟨⟨rfl, hK⟩, hF, hPP⟩ := hx
    refine ⟨[], ⟨0, 6, 7, 15⟩, [], hT, (fun z hz => nomatch hz), by decide, by decide, tw_601, NG_c Z (List.mem_of_getElem? (i := 2) rfl), fun q9 => ?_⟩
    refine pv_astore_n (q := 8) C dL_napOf_7 rfl rfl (Nat.le_of_ble_eq_true rfl) rfl ?_
    refine pv_ldc2 (q := 11) C dL_napOf_8 rfl tw_654 ?_
    exact XK.of (pv_lret C (QK_no h hK (by decide) hF hPP rfl) (by omega) (by omega) dL_napOf_11)
  ·
    obtain ⟨hK, hr, hF, hPP⟩ := hp
    refine pv_i2l (q := 6) C dL_napOf_5 rfl ?_
    exact XK.of (pv_lret C (QK_ok h hK hF hPP (by rw [← hr])) (by omega) (by omega) dL_napOf_6)
theorem mw_L_napOf : MSW yL_napOf cL_napOf 3 (some .long) [(0, 6, 7, 15)] 2 := ⟨tw_904, tw_0, tw_905, ⟨by decide +kernel, by decide +kernel⟩, by decide +kernel⟩
set_option maxRecDepth 100000 in
set_option maxHeartbeats 4000000 in
theorem c_L_filterOf (l : Launch) (X : XT) (D : DT) (P : PT) (hfl : l.stackTraces = false) (M : DT) (W : Nat) (h : RI D P M W) (view : Int32) : LM l X yL_filterOf (.codeWith yL_filterOf cL_filterOf 3 (some .long) [(0, 6, 7, 15)]) ({ frames := 8, cells := 1, slots := 6, locals := 288 } : Room) [.ref (X.2.2 0), .int view] (qL X (fun r D' P' => QK (wv (kView view) ((M 7 (32 + 38 * ix view + 34) : Int32).toInt64) cI) M W r D' P')) D P 1 6 := by
  refine lm_ofH (by decide +kernel) (Nat.le_of_ble_eq_true rfl) ?_
  intro K hKl hKR C hT Z hNC
  have hfl2 : K.2.1.stackTraces = false := by rw [hKl]; exact hfl
  refine PV_lv (lv' := [some (.ref (X.2.2 0)), some (.int view), none]) rfl ?_
  refine pv_aload_n (q := 1) C dL_filterOf_0 rfl rfl rfl ?_
  refine pv_iload_n (q := 2) C dL_filterOf_1 rfl rfl rfl ?_
  refine pv_callVixH (q := 5) (rest := []) C Z hKl (c_X6_filterOf l X D P (hKl ▸ hfl2) M W h view) tw_910 (show kd 0 = 6 from rfl) (by decide) rfl mm_X6_filterOf ⟨rfl, rfl⟩ (by rw [hKR]; exact ⟨Nat.le_of_ble_eq_true rfl, Nat.le_of_ble_eq_true rfl⟩) (by rw [hKR]; exact ⟨Nat.le_of_ble_eq_true rfl, Nat.le_of_ble_eq_true rfl⟩) rfl rfl rfl (Nat.le_of_ble_eq_true rfl) dL_filterOf_2 rfl (fun e9 D2 P2 hx => ?_) (fun r D2 P2 hp => ?_)
  ·
    obtain ⟨⟨rfl, hK⟩, hF, hPP⟩ := hx
    refine ⟨[], ⟨0, 6, 7, 15⟩, [], hT, (fun z hz => nomatch hz), by decide, by decide, tw_601, NG_c Z (List.mem_of_getElem? (i := 2) rfl), fun q9 => ?_⟩
    refine pv_astore_n (q := 8) C dL_filterOf_7 rfl rfl (Nat.le_of_ble_eq_true rfl) rfl ?_
    refine pv_ldc2 (q := 11) C dL_filterOf_8 rfl tw_654 ?_
    exact XK.of (pv_lret C (QK_no h hK (by decide) hF hPP rfl) (by omega) (by omega) dL_filterOf_11)
  ·
    obtain ⟨hK, hr, hF, hPP⟩ := hp
    refine pv_i2l (q := 6) C dL_filterOf_5 rfl ?_
    exact XK.of (pv_lret C (QK_ok h hK hF hPP (by rw [← hr])) (by omega) (by omega) dL_filterOf_6)
theorem mw_L_filterOf : MSW yL_filterOf cL_filterOf 3 (some .long) [(0, 6, 7, 15)] 2 := ⟨tw_908, tw_0, tw_909, ⟨by decide +kernel, by decide +kernel⟩, by decide +kernel⟩
set_option maxRecDepth 100000 in
set_option maxHeartbeats 4000000 in
theorem c_L_waiting (l : Launch) (X : XT) (D : DT) (P : PT) (hfl : l.stackTraces = false) (M : DT) (W : Nat) (h : RI D P M W) (view : Int32) : LM l X yL_waiting (.codeWith yL_waiting cL_waiting 3 (some .long) [(0, 6, 7, 15)]) ({ frames := 8, cells := 1, slots := 6, locals := 288 } : Room) [.ref (X.2.2 0), .int view] (qL X (fun r D' P' => QK (wv (kView view) ((wt (M 7) (ix view) : Int32).toInt64) cI) M W r D' P')) D P 1 6 := by
  refine lm_ofH (by decide +kernel) (Nat.le_of_ble_eq_true rfl) ?_
  intro K hKl hKR C hT Z hNC
  have hfl2 : K.2.1.stackTraces = false := by rw [hKl]; exact hfl
  refine PV_lv (lv' := [some (.ref (X.2.2 0)), some (.int view), none]) rfl ?_
  refine pv_aload_n (q := 1) C dL_waiting_0 rfl rfl rfl ?_
  refine pv_iload_n (q := 2) C dL_waiting_1 rfl rfl rfl ?_
  refine pv_callVixH (q := 5) (rest := []) C Z hKl (c_X6_waiting l X D P (hKl ▸ hfl2) M W h view) tw_800 (show kd 0 = 6 from rfl) (by decide) rfl mm_X6_waiting ⟨rfl, rfl⟩ (by rw [hKR]; exact ⟨Nat.le_of_ble_eq_true rfl, Nat.le_of_ble_eq_true rfl⟩) (by rw [hKR]; exact ⟨Nat.le_of_ble_eq_true rfl, Nat.le_of_ble_eq_true rfl⟩) rfl rfl rfl (Nat.le_of_ble_eq_true rfl) dL_waiting_2 rfl (fun e9 D2 P2 hx => ?_) (fun r D2 P2 hp => ?_)
  ·
    obtain ⟨⟨rfl, hK⟩, hF, hPP⟩ := hx
    refine ⟨[], ⟨0, 6, 7, 15⟩, [], hT, (fun z hz => nomatch hz), by decide, by decide, tw_601, NG_c Z (List.mem_of_getElem? (i := 2) rfl), fun q9 => ?_⟩
    refine pv_astore_n (q := 8) C dL_waiting_7 rfl rfl (Nat.le_of_ble_eq_true rfl) rfl ?_
    refine pv_ldc2 (q := 11) C dL_waiting_8 rfl tw_654 ?_
    exact XK.of (pv_lret C (QK_no h hK (by decide) hF hPP rfl) (by omega) (by omega) dL_waiting_11)
  ·
    obtain ⟨hK, hr, hF, hPP⟩ := hp
    refine pv_i2l (q := 6) C dL_waiting_5 rfl ?_
    exact XK.of (pv_lret C (QK_ok h hK hF hPP (by rw [← hr])) (by omega) (by omega) dL_waiting_6)
theorem mw_L_waiting : MSW yL_waiting cL_waiting 3 (some .long) [(0, 6, 7, 15)] 2 := ⟨tw_798, tw_0, tw_799, ⟨by decide +kernel, by decide +kernel⟩, by decide +kernel⟩
set_option maxRecDepth 100000 in
set_option maxHeartbeats 4000000 in
theorem c_L_byNumbers (l : Launch) (X : XT) (D : DT) (P : PT) (hfl : l.stackTraces = false) (M : DT) (W : Nat) (h : RI D P M W) (view : Int32) : LM l X yL_byNumbers (.codeWith yL_byNumbers cL_byNumbers 3 (some .long) [(0, 6, 7, 15)]) ({ frames := 8, cells := 1, slots := 6, locals := 288 } : Room) [.ref (X.2.2 0), .int view] (qL X (fun r D' P' => QK (wv (kView view) ((wt (M 7) (ix view) : Int32).toInt64) cI) M W r D' P')) D P 1 6 := by
  refine lm_ofH (by decide +kernel) (Nat.le_of_ble_eq_true rfl) ?_
  intro K hKl hKR C hT Z hNC
  have hfl2 : K.2.1.stackTraces = false := by rw [hKl]; exact hfl
  refine PV_lv (lv' := [some (.ref (X.2.2 0)), some (.int view), none]) rfl ?_
  refine pv_aload_n (q := 1) C dL_byNumbers_0 rfl rfl rfl ?_
  refine pv_iload_n (q := 2) C dL_byNumbers_1 rfl rfl rfl ?_
  refine pv_callVixH (q := 5) (rest := []) C Z hKl (c_X6_waitingByNumbers l X D P (hKl ▸ hfl2) M W h view) tw_804 (show kd 0 = 6 from rfl) (by decide) rfl mm_X6_waitingByNumbers ⟨rfl, rfl⟩ (by rw [hKR]; exact ⟨Nat.le_of_ble_eq_true rfl, Nat.le_of_ble_eq_true rfl⟩) (by rw [hKR]; exact ⟨Nat.le_of_ble_eq_true rfl, Nat.le_of_ble_eq_true rfl⟩) rfl rfl rfl (Nat.le_of_ble_eq_true rfl) dL_byNumbers_2 rfl (fun e9 D2 P2 hx => ?_) (fun r D2 P2 hp => ?_)
  ·
    obtain ⟨⟨rfl, hK⟩, hF, hPP⟩ := hx
    refine ⟨[], ⟨0, 6, 7, 15⟩, [], hT, (fun z hz => nomatch hz), by decide, by decide, tw_601, NG_c Z (List.mem_of_getElem? (i := 2) rfl), fun q9 => ?_⟩
    refine pv_astore_n (q := 8) C dL_byNumbers_7 rfl rfl (Nat.le_of_ble_eq_true rfl) rfl ?_
    refine pv_ldc2 (q := 11) C dL_byNumbers_8 rfl tw_654 ?_
    exact XK.of (pv_lret C (QK_no h hK (by decide) hF hPP rfl) (by omega) (by omega) dL_byNumbers_11)
  ·
    obtain ⟨hK, hr, hF, hPP⟩ := hp
    refine pv_i2l (q := 6) C dL_byNumbers_5 rfl ?_
    exact XK.of (pv_lret C (QK_ok h hK hF hPP (by rw [← hr])) (by omega) (by omega) dL_byNumbers_6)
theorem mw_L_byNumbers : MSW yL_byNumbers cL_byNumbers 3 (some .long) [(0, 6, 7, 15)] 2 := ⟨tw_802, tw_0, tw_803, ⟨by decide +kernel, by decide +kernel⟩, by decide +kernel⟩
set_option maxRecDepth 100000 in
set_option maxHeartbeats 4000000 in
theorem c_L_matters (l : Launch) (X : XT) (D : DT) (P : PT) (hfl : l.stackTraces = false) (M : DT) (W : Nat) (h : RI D P M W) (view : Int32) : LM l X yL_matters (.codeWith yL_matters cL_matters 3 (some .long) [(0, 6, 7, 15)]) ({ frames := 8, cells := 1, slots := 6, locals := 288 } : Room) [.ref (X.2.2 0), .int view] (qL X (fun r D' P' => QK (wv (kView view) ((nI (wgt (M 7) (ix view)) : Int32).toInt64) cI) M W r D' P')) D P 1 6 := by
  refine lm_ofH (by decide +kernel) (Nat.le_of_ble_eq_true rfl) ?_
  intro K hKl hKR C hT Z hNC
  have hfl2 : K.2.1.stackTraces = false := by rw [hKl]; exact hfl
  refine PV_lv (lv' := [some (.ref (X.2.2 0)), some (.int view), none]) rfl ?_
  refine pv_aload_n (q := 1) C dL_matters_0 rfl rfl rfl ?_
  refine pv_iload_n (q := 2) C dL_matters_1 rfl rfl rfl ?_
  refine pv_callVixH (q := 5) (rest := []) C Z hKl (c_X6_matters l X D P (hKl ▸ hfl2) M W h view) tw_808 (show kd 0 = 6 from rfl) (by decide) rfl mm_X6_matters ⟨rfl, rfl⟩ (by rw [hKR]; exact ⟨Nat.le_of_ble_eq_true rfl, Nat.le_of_ble_eq_true rfl⟩) (by rw [hKR]; exact ⟨Nat.le_of_ble_eq_true rfl, Nat.le_of_ble_eq_true rfl⟩) rfl rfl rfl (Nat.le_of_ble_eq_true rfl) dL_matters_2 rfl (fun e9 D2 P2 hx => ?_) (fun r D2 P2 hp => ?_)
  ·
    obtain ⟨⟨rfl, hK⟩, hF, hPP⟩ := hx
    refine ⟨[], ⟨0, 6, 7, 15⟩, [], hT, (fun z hz => nomatch hz), by decide, by decide, tw_601, NG_c Z (List.mem_of_getElem? (i := 2) rfl), fun q9 => ?_⟩
    refine pv_astore_n (q := 8) C dL_matters_7 rfl rfl (Nat.le_of_ble_eq_true rfl) rfl ?_
    refine pv_ldc2 (q := 11) C dL_matters_8 rfl tw_654 ?_
    exact XK.of (pv_lret C (QK_no h hK (by decide) hF hPP rfl) (by omega) (by omega) dL_matters_11)
  ·
    obtain ⟨hK, hr, hF, hPP⟩ := hp
    refine pv_i2l (q := 6) C dL_matters_5 rfl ?_
    exact XK.of (pv_lret C (QK_ok h hK hF hPP (by rw [← hr])) (by omega) (by omega) dL_matters_6)
theorem mw_L_matters : MSW yL_matters cL_matters 3 (some .long) [(0, 6, 7, 15)] 2 := ⟨tw_806, tw_0, tw_807, ⟨by decide +kernel, by decide +kernel⟩, by decide +kernel⟩
set_option maxRecDepth 100000 in
set_option maxHeartbeats 4000000 in
theorem c_L_countOf (l : Launch) (X : XT) (D : DT) (P : PT) (hfl : l.stackTraces = false) (M : DT) (W : Nat) (h : RI D P M W) (view group : Int32) : LM l X yL_countOf (.codeWith yL_countOf cL_countOf 4 (some .long) [(0, 7, 8, 15)]) ({ frames := 9, cells := 2, slots := 12, locals := 324 } : Room) [.ref (X.2.2 0), .int view, .int group] (qL X (fun r D' P' => QK (wv (kGr view group) ((nI (VN (M 7) (ix view) (ix group)) : Int32).toInt64) cI) M W r D' P')) D P 2 12 := by
  refine lm_ofH (by decide +kernel) (Nat.le_of_ble_eq_true rfl) ?_
  intro K hKl hKR C hT Z hNC
  have hfl2 : K.2.1.stackTraces = false := by rw [hKl]; exact hfl
  refine PV_lv (lv' := [some (.ref (X.2.2 0)), some (.int view), some (.int group), none]) rfl ?_
  refine pv_aload_n (q := 1) C dL_countOf_0 rfl rfl rfl ?_
  refine pv_iload_n (q := 2) C dL_countOf_1 rfl rfl rfl ?_
  refine pv_iload_n (q := 3) C dL_countOf_2 rfl rfl rfl ?_
  refine pv_callVixH (q := 6) (rest := []) C Z hKl (c_X6_countOf l X D P (hKl ▸ hfl2) M W h view group) tw_812 (show kd 0 = 6 from rfl) (by decide) rfl mm_X6_countOf ⟨rfl, rfl⟩ (by rw [hKR]; exact ⟨Nat.le_of_ble_eq_true rfl, Nat.le_of_ble_eq_true rfl⟩) (by rw [hKR]; exact ⟨Nat.le_of_ble_eq_true rfl, Nat.le_of_ble_eq_true rfl⟩) rfl rfl rfl (Nat.le_of_ble_eq_true rfl) dL_countOf_3 rfl (fun e9 D2 P2 hx => ?_) (fun r D2 P2 hp => ?_)
  ·
    obtain ⟨⟨rfl, hK⟩, hF, hPP⟩ := hx
    refine ⟨[], ⟨0, 7, 8, 15⟩, [], hT, (fun z hz => nomatch hz), by decide, by decide, tw_601, NG_c Z (List.mem_of_getElem? (i := 2) rfl), fun q9 => ?_⟩
    refine pv_astore_n (q := 9) C dL_countOf_8 rfl rfl (Nat.le_of_ble_eq_true rfl) rfl ?_
    refine pv_ldc2 (q := 12) C dL_countOf_9 rfl tw_654 ?_
    exact XK.of (pv_lret C (QK_no h hK (by decide) hF hPP rfl) (by omega) (by omega) dL_countOf_12)
  ·
    obtain ⟨hK, hr, hF, hPP⟩ := hp
    refine pv_i2l (q := 7) C dL_countOf_6 rfl ?_
    exact XK.of (pv_lret C (QK_ok h hK hF hPP (by rw [← hr])) (by omega) (by omega) dL_countOf_7)
theorem mw_L_countOf : MSW yL_countOf cL_countOf 4 (some .long) [(0, 7, 8, 15)] 3 := ⟨tw_810, tw_0, tw_811, ⟨by decide +kernel, by decide +kernel⟩, by decide +kernel⟩
set_option maxRecDepth 100000 in
set_option maxHeartbeats 4000000 in
theorem c_L_sumOf (l : Launch) (X : XT) (D : DT) (P : PT) (hfl : l.stackTraces = false) (M : DT) (W : Nat) (h : RI D P M W) (view group : Int32) : LM l X yL_sumOf (.codeWith yL_sumOf cL_sumOf 4 (some .long) [(0, 7, 8, 15)]) ({ frames := 9, cells := 2, slots := 12, locals := 324 } : Room) [.ref (X.2.2 0), .int view, .int group] (qL X (fun r D' P' => QK (wv (kGr view group) ((sm (VF (M 7) (ix view) (ix group)) (VN (M 7) (ix view) (ix group)) : Int32).toInt64) cI) M W r D' P')) D P 2 12 := by
  refine lm_ofH (by decide +kernel) (Nat.le_of_ble_eq_true rfl) ?_
  intro K hKl hKR C hT Z hNC
  have hfl2 : K.2.1.stackTraces = false := by rw [hKl]; exact hfl
  refine PV_lv (lv' := [some (.ref (X.2.2 0)), some (.int view), some (.int group), none]) rfl ?_
  refine pv_aload_n (q := 1) C dL_sumOf_0 rfl rfl rfl ?_
  refine pv_iload_n (q := 2) C dL_sumOf_1 rfl rfl rfl ?_
  refine pv_iload_n (q := 3) C dL_sumOf_2 rfl rfl rfl ?_
  refine pv_callVixH (q := 6) (rest := []) C Z hKl (c_X6_sumOf l X D P (hKl ▸ hfl2) M W h view group) tw_921 (show kd 0 = 6 from rfl) (by decide) rfl mm_X6_sumOf ⟨rfl, rfl⟩ (by rw [hKR]; exact ⟨Nat.le_of_ble_eq_true rfl, Nat.le_of_ble_eq_true rfl⟩) (by rw [hKR]; exact ⟨Nat.le_of_ble_eq_true rfl, Nat.le_of_ble_eq_true rfl⟩) rfl rfl rfl (Nat.le_of_ble_eq_true rfl) dL_sumOf_3 rfl (fun e9 D2 P2 hx => ?_) (fun r D2 P2 hp => ?_)
  ·
    obtain ⟨⟨rfl, hK⟩, hF, hPP⟩ := hx
    refine ⟨[], ⟨0, 7, 8, 15⟩, [], hT, (fun z hz => nomatch hz), by decide, by decide, tw_601, NG_c Z (List.mem_of_getElem? (i := 2) rfl), fun q9 => ?_⟩
    refine pv_astore_n (q := 9) C dL_sumOf_8 rfl rfl (Nat.le_of_ble_eq_true rfl) rfl ?_
    refine pv_ldc2 (q := 12) C dL_sumOf_9 rfl tw_654 ?_
    exact XK.of (pv_lret C (QK_no h hK (by decide) hF hPP rfl) (by omega) (by omega) dL_sumOf_12)
  ·
    obtain ⟨hK, hr, hF, hPP⟩ := hp
    refine pv_i2l (q := 7) C dL_sumOf_6 rfl ?_
    exact XK.of (pv_lret C (QK_ok h hK hF hPP (by rw [← hr])) (by omega) (by omega) dL_sumOf_7)
theorem mw_L_sumOf : MSW yL_sumOf cL_sumOf 4 (some .long) [(0, 7, 8, 15)] 3 := ⟨tw_919, tw_0, tw_920, ⟨by decide +kernel, by decide +kernel⟩, by decide +kernel⟩
set_option maxRecDepth 100000 in
set_option maxHeartbeats 4000000 in
theorem c_L_leastOf (l : Launch) (X : XT) (D : DT) (P : PT) (hfl : l.stackTraces = false) (M : DT) (W : Nat) (h : RI D P M W) (view group : Int32) : LM l X yL_leastOf (.codeWith yL_leastOf cL_leastOf 4 (some .long) [(0, 7, 8, 15), (0, 7, 13, 23)]) ({ frames := 9, cells := 3, slots := 18, locals := 324 } : Room) [.ref (X.2.2 0), .int view, .int group] (qL X (fun r D' P' => QK (wv (kAm (M 7) view group) ((at0 (VF (M 7) (ix view) (ix group)) (VN (M 7) (ix view) (ix group)) (0) : Int32).toInt64) cIS) M W r D' P')) D P 3 18 := by
  refine lm_ofH (by decide +kernel) (Nat.le_of_ble_eq_true rfl) ?_
  intro K hKl hKR C hT Z hNC
  have hfl2 : K.2.1.stackTraces = false := by rw [hKl]; exact hfl
  refine PV_lv (lv' := [some (.ref (X.2.2 0)), some (.int view), some (.int group), none]) rfl ?_
  refine pv_aload_n (q := 1) C dL_leastOf_0 rfl rfl rfl ?_
  refine pv_iload_n (q := 2) C dL_leastOf_1 rfl rfl rfl ?_
  refine pv_iload_n (q := 3) C dL_leastOf_2 rfl rfl rfl ?_
  refine pv_callVixH (q := 6) (rest := []) C Z hKl (c_X6_leastOf l X D P (hKl ▸ hfl2) M W h view group) tw_854 (show kd 0 = 6 from rfl) (by decide) rfl mm_X6_leastOf ⟨rfl, rfl⟩ (by rw [hKR]; exact ⟨Nat.le_of_ble_eq_true rfl, Nat.le_of_ble_eq_true rfl⟩) (by rw [hKR]; exact ⟨Nat.le_of_ble_eq_true rfl, Nat.le_of_ble_eq_true rfl⟩) rfl rfl rfl (Nat.le_of_ble_eq_true rfl) dL_leastOf_3 rfl (fun e9 D2 P2 hx => ?_) (fun r D2 P2 hp => ?_)
  ·
    obtain ⟨hx, hF, hPP⟩ := hx
    rcases hx with ⟨rfl, hK⟩ | ⟨rfl, hK⟩
    ·
      refine ⟨[], ⟨0, 7, 8, 15⟩, [⟨0, 7, 13, 23⟩], hT, (fun z hz => nomatch hz), by decide, by decide, tw_601, NG_c Z (List.mem_of_getElem? (i := 2) rfl), fun q9 => ?_⟩
      refine pv_astore_n (q := 9) C dL_leastOf_8 rfl rfl (Nat.le_of_ble_eq_true rfl) rfl ?_
      refine pv_ldc2 (q := 12) C dL_leastOf_9 rfl tw_654 ?_
      exact XK.of (pv_lret C (QK_no h hK (by decide) hF hPP rfl) (by omega) (by omega) dL_leastOf_12)
    ·
      refine ⟨[⟨0, 7, 8, 15⟩], ⟨0, 7, 13, 23⟩, [], hT, (fun z hz => by
              simp only [List.mem_cons, List.not_mem_nil, or_false] at hz
              rcases hz with rfl
              · exact Or.inr ⟨by decide, eIOE, tw_601, hNC.2.1⟩), by decide, by decide, tw_271, NG_c Z (List.mem_of_getElem? (i := 1) rfl), fun q9 => ?_⟩
      refine pv_astore_n (q := 14) C dL_leastOf_13 rfl rfl (Nat.le_of_ble_eq_true rfl) rfl ?_
      refine pv_ldc2 (q := 17) C dL_leastOf_14 rfl tw_352 ?_
      exact XK.of (pv_lret C (QK_no h hK (by decide) hF hPP rfl) (by omega) (by omega) dL_leastOf_17)
  ·
    obtain ⟨hK, hr, hF, hPP⟩ := hp
    refine pv_i2l (q := 7) C dL_leastOf_6 rfl ?_
    exact XK.of (pv_lret C (QK_ok h hK hF hPP (by rw [← hr])) (by omega) (by omega) dL_leastOf_7)
theorem mw_L_leastOf : MSW yL_leastOf cL_leastOf 4 (some .long) [(0, 7, 8, 15), (0, 7, 13, 23)] 3 := ⟨tw_852, tw_0, tw_853, ⟨by decide +kernel, by decide +kernel⟩, by decide +kernel⟩
set_option maxRecDepth 100000 in
set_option maxHeartbeats 4000000 in
theorem c_L_greatestOf (l : Launch) (X : XT) (D : DT) (P : PT) (hfl : l.stackTraces = false) (M : DT) (W : Nat) (h : RI D P M W) (view group : Int32) : LM l X yL_greatestOf (.codeWith yL_greatestOf cL_greatestOf 4 (some .long) [(0, 7, 8, 15), (0, 7, 13, 23)]) ({ frames := 9, cells := 3, slots := 18, locals := 324 } : Room) [.ref (X.2.2 0), .int view, .int group] (qL X (fun r D' P' => QK (wv (kAm (M 7) view group) ((at0 (VF (M 7) (ix view) (ix group)) (VN (M 7) (ix view) (ix group)) (VN (M 7) (ix view) (ix group) - 1) : Int32).toInt64) cIS) M W r D' P')) D P 3 18 := by
  refine lm_ofH (by decide +kernel) (Nat.le_of_ble_eq_true rfl) ?_
  intro K hKl hKR C hT Z hNC
  have hfl2 : K.2.1.stackTraces = false := by rw [hKl]; exact hfl
  refine PV_lv (lv' := [some (.ref (X.2.2 0)), some (.int view), some (.int group), none]) rfl ?_
  refine pv_aload_n (q := 1) C dL_greatestOf_0 rfl rfl rfl ?_
  refine pv_iload_n (q := 2) C dL_greatestOf_1 rfl rfl rfl ?_
  refine pv_iload_n (q := 3) C dL_greatestOf_2 rfl rfl rfl ?_
  refine pv_callVixH (q := 6) (rest := []) C Z hKl (c_X6_greatestOf l X D P (hKl ▸ hfl2) M W h view group) tw_865 (show kd 0 = 6 from rfl) (by decide) rfl mm_X6_greatestOf ⟨rfl, rfl⟩ (by rw [hKR]; exact ⟨Nat.le_of_ble_eq_true rfl, Nat.le_of_ble_eq_true rfl⟩) (by rw [hKR]; exact ⟨Nat.le_of_ble_eq_true rfl, Nat.le_of_ble_eq_true rfl⟩) rfl rfl rfl (Nat.le_of_ble_eq_true rfl) dL_greatestOf_3 rfl (fun e9 D2 P2 hx => ?_) (fun r D2 P2 hp => ?_)
  ·
    obtain ⟨hx, hF, hPP⟩ := hx
    rcases hx with ⟨rfl, hK⟩ | ⟨rfl, hK⟩
    ·
      refine ⟨[], ⟨0, 7, 8, 15⟩, [⟨0, 7, 13, 23⟩], hT, (fun z hz => nomatch hz), by decide, by decide, tw_601, NG_c Z (List.mem_of_getElem? (i := 2) rfl), fun q9 => ?_⟩
      refine pv_astore_n (q := 9) C dL_greatestOf_8 rfl rfl (Nat.le_of_ble_eq_true rfl) rfl ?_
      refine pv_ldc2 (q := 12) C dL_greatestOf_9 rfl tw_654 ?_
      exact XK.of (pv_lret C (QK_no h hK (by decide) hF hPP rfl) (by omega) (by omega) dL_greatestOf_12)
    ·
      refine ⟨[⟨0, 7, 8, 15⟩], ⟨0, 7, 13, 23⟩, [], hT, (fun z hz => by
              simp only [List.mem_cons, List.not_mem_nil, or_false] at hz
              rcases hz with rfl
              · exact Or.inr ⟨by decide, eIOE, tw_601, hNC.2.1⟩), by decide, by decide, tw_271, NG_c Z (List.mem_of_getElem? (i := 1) rfl), fun q9 => ?_⟩
      refine pv_astore_n (q := 14) C dL_greatestOf_13 rfl rfl (Nat.le_of_ble_eq_true rfl) rfl ?_
      refine pv_ldc2 (q := 17) C dL_greatestOf_14 rfl tw_352 ?_
      exact XK.of (pv_lret C (QK_no h hK (by decide) hF hPP rfl) (by omega) (by omega) dL_greatestOf_17)
  ·
    obtain ⟨hK, hr, hF, hPP⟩ := hp
    refine pv_i2l (q := 7) C dL_greatestOf_6 rfl ?_
    exact XK.of (pv_lret C (QK_ok h hK hF hPP (by rw [← hr])) (by omega) (by omega) dL_greatestOf_7)
theorem mw_L_greatestOf : MSW yL_greatestOf cL_greatestOf 4 (some .long) [(0, 7, 8, 15), (0, 7, 13, 23)] 3 := ⟨tw_863, tw_0, tw_864, ⟨by decide +kernel, by decide +kernel⟩, by decide +kernel⟩
set_option maxRecDepth 100000 in
set_option maxHeartbeats 4000000 in
theorem c_L_medianOf (l : Launch) (X : XT) (D : DT) (P : PT) (hfl : l.stackTraces = false) (M : DT) (W : Nat) (h : RI D P M W) (view group : Int32) : LM l X yL_medianOf (.codeWith yL_medianOf cL_medianOf 4 (some .long) [(0, 7, 8, 15), (0, 7, 13, 23)]) ({ frames := 9, cells := 3, slots := 18, locals := 324 } : Room) [.ref (X.2.2 0), .int view, .int group] (qL X (fun r D' P' => QK (wv (kAm (M 7) view group) ((at0 (VF (M 7) (ix view) (ix group)) (VN (M 7) (ix view) (ix group)) ((VN (M 7) (ix view) (ix group) - 1) / 2) : Int32).toInt64) cIS) M W r D' P')) D P 3 18 := by
  refine lm_ofH (by decide +kernel) (Nat.le_of_ble_eq_true rfl) ?_
  intro K hKl hKR C hT Z hNC
  have hfl2 : K.2.1.stackTraces = false := by rw [hKl]; exact hfl
  refine PV_lv (lv' := [some (.ref (X.2.2 0)), some (.int view), some (.int group), none]) rfl ?_
  refine pv_aload_n (q := 1) C dL_medianOf_0 rfl rfl rfl ?_
  refine pv_iload_n (q := 2) C dL_medianOf_1 rfl rfl rfl ?_
  refine pv_iload_n (q := 3) C dL_medianOf_2 rfl rfl rfl ?_
  refine pv_callVixH (q := 6) (rest := []) C Z hKl (c_X6_medianOf l X D P (hKl ▸ hfl2) M W h view group) tw_872 (show kd 0 = 6 from rfl) (by decide) rfl mm_X6_medianOf ⟨rfl, rfl⟩ (by rw [hKR]; exact ⟨Nat.le_of_ble_eq_true rfl, Nat.le_of_ble_eq_true rfl⟩) (by rw [hKR]; exact ⟨Nat.le_of_ble_eq_true rfl, Nat.le_of_ble_eq_true rfl⟩) rfl rfl rfl (Nat.le_of_ble_eq_true rfl) dL_medianOf_3 rfl (fun e9 D2 P2 hx => ?_) (fun r D2 P2 hp => ?_)
  ·
    obtain ⟨hx, hF, hPP⟩ := hx
    rcases hx with ⟨rfl, hK⟩ | ⟨rfl, hK⟩
    ·
      refine ⟨[], ⟨0, 7, 8, 15⟩, [⟨0, 7, 13, 23⟩], hT, (fun z hz => nomatch hz), by decide, by decide, tw_601, NG_c Z (List.mem_of_getElem? (i := 2) rfl), fun q9 => ?_⟩
      refine pv_astore_n (q := 9) C dL_medianOf_8 rfl rfl (Nat.le_of_ble_eq_true rfl) rfl ?_
      refine pv_ldc2 (q := 12) C dL_medianOf_9 rfl tw_654 ?_
      exact XK.of (pv_lret C (QK_no h hK (by decide) hF hPP rfl) (by omega) (by omega) dL_medianOf_12)
    ·
      refine ⟨[⟨0, 7, 8, 15⟩], ⟨0, 7, 13, 23⟩, [], hT, (fun z hz => by
              simp only [List.mem_cons, List.not_mem_nil, or_false] at hz
              rcases hz with rfl
              · exact Or.inr ⟨by decide, eIOE, tw_601, hNC.2.1⟩), by decide, by decide, tw_271, NG_c Z (List.mem_of_getElem? (i := 1) rfl), fun q9 => ?_⟩
      refine pv_astore_n (q := 14) C dL_medianOf_13 rfl rfl (Nat.le_of_ble_eq_true rfl) rfl ?_
      refine pv_ldc2 (q := 17) C dL_medianOf_14 rfl tw_352 ?_
      exact XK.of (pv_lret C (QK_no h hK (by decide) hF hPP rfl) (by omega) (by omega) dL_medianOf_17)
  ·
    obtain ⟨hK, hr, hF, hPP⟩ := hp
    refine pv_i2l (q := 7) C dL_medianOf_6 rfl ?_
    exact XK.of (pv_lret C (QK_ok h hK hF hPP (by rw [← hr])) (by omega) (by omega) dL_medianOf_7)
theorem mw_L_medianOf : MSW yL_medianOf cL_medianOf 4 (some .long) [(0, 7, 8, 15), (0, 7, 13, 23)] 3 := ⟨tw_870, tw_0, tw_871, ⟨by decide +kernel, by decide +kernel⟩, by decide +kernel⟩
set_option maxRecDepth 100000 in
set_option maxHeartbeats 4000000 in
theorem c_L_rankOf (l : Launch) (X : XT) (D : DT) (P : PT) (hfl : l.stackTraces = false) (M : DT) (W : Nat) (h : RI D P M W) (view group amount : Int32) : LM l X yL_rankOf (.codeWith yL_rankOf cL_rankOf 5 (some .long) [(0, 8, 9, 15), (0, 8, 15, 19)]) ({ frames := 9, cells := 3, slots := 18, locals := 324 } : Room) [.ref (X.2.2 0), .int view, .int group, .int amount] (qL X (fun r D' P' => QK (wv (kRk view group amount) ((nI (bl (VF (M 7) (ix view) (ix group)) (VN (M 7) (ix view) (ix group)) amount) : Int32).toInt64) cIX) M W r D' P')) D P 3 18 := by
  refine lm_ofH (by decide +kernel) (Nat.le_of_ble_eq_true rfl) ?_
  intro K hKl hKR C hT Z hNC
  have hfl2 : K.2.1.stackTraces = false := by rw [hKl]; exact hfl
  refine PV_lv (lv' := [some (.ref (X.2.2 0)), some (.int view), some (.int group), some (.int amount), none]) rfl ?_
  refine pv_aload_n (q := 1) C dL_rankOf_0 rfl rfl rfl ?_
  refine pv_iload_n (q := 2) C dL_rankOf_1 rfl rfl rfl ?_
  refine pv_iload_n (q := 3) C dL_rankOf_2 rfl rfl rfl ?_
  refine pv_iload_n (q := 4) C dL_rankOf_3 rfl rfl rfl ?_
  refine pv_callVixH (q := 7) (rest := []) C Z hKl (c_X6_rankOf l X D P (hKl ▸ hfl2) M W h view group amount) tw_819 (show kd 0 = 6 from rfl) (by decide) rfl mm_X6_rankOf ⟨rfl, rfl⟩ (by rw [hKR]; exact ⟨Nat.le_of_ble_eq_true rfl, Nat.le_of_ble_eq_true rfl⟩) (by rw [hKR]; exact ⟨Nat.le_of_ble_eq_true rfl, Nat.le_of_ble_eq_true rfl⟩) rfl rfl rfl (Nat.le_of_ble_eq_true rfl) dL_rankOf_4 rfl (fun e9 D2 P2 hx => ?_) (fun r D2 P2 hp => ?_)
  ·
    obtain ⟨hx, hF, hPP⟩ := hx
    rcases hx with ⟨rfl, hK⟩ | ⟨rfl, hK⟩
    ·
      refine ⟨[], ⟨0, 8, 9, 15⟩, [⟨0, 8, 15, 19⟩], hT, (fun z hz => nomatch hz), by decide, by decide, tw_601, NG_c Z (List.mem_of_getElem? (i := 2) rfl), fun q9 => ?_⟩
      refine pv_astore (q := 11) C dL_rankOf_9 rfl (Nat.le_of_ble_eq_true rfl) rfl ?_
      refine pv_ldc2 (q := 14) C dL_rankOf_11 rfl tw_654 ?_
      exact XK.of (pv_lret C (QK_no h hK (by decide) hF hPP rfl) (by omega) (by omega) dL_rankOf_14)
    ·
      refine ⟨[⟨0, 8, 9, 15⟩], ⟨0, 8, 15, 19⟩, [], hT, (fun z hz => by
              simp only [List.mem_cons, List.not_mem_nil, or_false] at hz
              rcases hz with rfl
              · exact Or.inr ⟨by decide, eIOE, tw_601, hNC.1⟩), by decide, by decide, tw_602, NG_c Z (List.mem_of_getElem? (i := 3) rfl), fun q9 => ?_⟩
      refine pv_astore (q := 17) C dL_rankOf_15 rfl (Nat.le_of_ble_eq_true rfl) rfl ?_
      refine pv_ldc2 (q := 20) C dL_rankOf_17 rfl tw_655 ?_
      exact XK.of (pv_lret C (QK_no h hK (by decide) hF hPP rfl) (by omega) (by omega) dL_rankOf_20)
  ·
    obtain ⟨hK, hr, hF, hPP⟩ := hp
    refine pv_i2l (q := 8) C dL_rankOf_7 rfl ?_
    exact XK.of (pv_lret C (QK_ok h hK hF hPP (by rw [← hr])) (by omega) (by omega) dL_rankOf_8)
theorem mw_L_rankOf : MSW yL_rankOf cL_rankOf 5 (some .long) [(0, 8, 9, 15), (0, 8, 15, 19)] 4 := ⟨tw_817, tw_0, tw_818, ⟨by decide +kernel, by decide +kernel⟩, by decide +kernel⟩
set_option maxRecDepth 100000 in
set_option maxHeartbeats 4000000 in
theorem c_L_unlikeOf (l : Launch) (X : XT) (D : DT) (P : PT) (hfl : l.stackTraces = false) (M : DT) (W : Nat) (h : RI D P M W) (view group : Int32) : LM l X yL_unlikeOf (.codeWith yL_unlikeOf cL_unlikeOf 4 (some .long) [(0, 7, 8, 15)]) ({ frames := 9, cells := 2, slots := 12, locals := 324 } : Room) [.ref (X.2.2 0), .int view, .int group] (qL X (fun r D' P' => QK (wv (kGr view group) ((nI (kn (VF (M 7) (ix view) (ix group)) (VN (M 7) (ix view) (ix group))) : Int32).toInt64) cI) M W r D' P')) D P 2 12 := by
  refine lm_ofH (by decide +kernel) (Nat.le_of_ble_eq_true rfl) ?_
  intro K hKl hKR C hT Z hNC
  have hfl2 : K.2.1.stackTraces = false := by rw [hKl]; exact hfl
  refine PV_lv (lv' := [some (.ref (X.2.2 0)), some (.int view), some (.int group), none]) rfl ?_
  refine pv_aload_n (q := 1) C dL_unlikeOf_0 rfl rfl rfl ?_
  refine pv_iload_n (q := 2) C dL_unlikeOf_1 rfl rfl rfl ?_
  refine pv_iload_n (q := 3) C dL_unlikeOf_2 rfl rfl rfl ?_
  refine pv_callVixH (q := 6) (rest := []) C Z hKl (c_X6_unlikeOf l X D P (hKl ▸ hfl2) M W h view group) tw_914 (show kd 0 = 6 from rfl) (by decide) rfl mm_X6_unlikeOf ⟨rfl, rfl⟩ (by rw [hKR]; exact ⟨Nat.le_of_ble_eq_true rfl, Nat.le_of_ble_eq_true rfl⟩) (by rw [hKR]; exact ⟨Nat.le_of_ble_eq_true rfl, Nat.le_of_ble_eq_true rfl⟩) rfl rfl rfl (Nat.le_of_ble_eq_true rfl) dL_unlikeOf_3 rfl (fun e9 D2 P2 hx => ?_) (fun r D2 P2 hp => ?_)
  ·
    obtain ⟨⟨rfl, hK⟩, hF, hPP⟩ := hx
    refine ⟨[], ⟨0, 7, 8, 15⟩, [], hT, (fun z hz => nomatch hz), by decide, by decide, tw_601, NG_c Z (List.mem_of_getElem? (i := 2) rfl), fun q9 => ?_⟩
    refine pv_astore_n (q := 9) C dL_unlikeOf_8 rfl rfl (Nat.le_of_ble_eq_true rfl) rfl ?_
    refine pv_ldc2 (q := 12) C dL_unlikeOf_9 rfl tw_654 ?_
    exact XK.of (pv_lret C (QK_no h hK (by decide) hF hPP rfl) (by omega) (by omega) dL_unlikeOf_12)
  ·
    obtain ⟨hK, hr, hF, hPP⟩ := hp
    refine pv_i2l (q := 7) C dL_unlikeOf_6 rfl ?_
    exact XK.of (pv_lret C (QK_ok h hK hF hPP (by rw [← hr])) (by omega) (by omega) dL_unlikeOf_7)
theorem mw_L_unlikeOf : MSW yL_unlikeOf cL_unlikeOf 4 (some .long) [(0, 7, 8, 15)] 3 := ⟨tw_912, tw_0, tw_913, ⟨by decide +kernel, by decide +kernel⟩, by decide +kernel⟩
set_option maxRecDepth 100000 in
set_option maxHeartbeats 4000000 in
theorem c_L_tableCount (l : Launch) (X : XT) (D : DT) (P : PT) (hfl : l.stackTraces = false) (M : DT) (W : Nat) (h : RI D P M W) (view group : Int32) : LM l X yL_tableCount (.codeWith yL_tableCount cL_tableCount 4 (some .long) [(0, 7, 8, 15)]) ({ frames := 9, cells := 2, slots := 12, locals := 324 } : Room) [.ref (X.2.2 0), .int view, .int group] (qL X (fun r D' P' => QK (wv (kGr view group) ((nI (TN (M 7) (ix view) (ix group)) : Int32).toInt64) cI) M W r D' P')) D P 2 12 := by
  refine lm_ofH (by decide +kernel) (Nat.le_of_ble_eq_true rfl) ?_
  intro K hKl hKR C hT Z hNC
  have hfl2 : K.2.1.stackTraces = false := by rw [hKl]; exact hfl
  refine PV_lv (lv' := [some (.ref (X.2.2 0)), some (.int view), some (.int group), none]) rfl ?_
  refine pv_aload_n (q := 1) C dL_tableCount_0 rfl rfl rfl ?_
  refine pv_iload_n (q := 2) C dL_tableCount_1 rfl rfl rfl ?_
  refine pv_iload_n (q := 3) C dL_tableCount_2 rfl rfl rfl ?_
  refine pv_callVixH (q := 6) (rest := []) C Z hKl (c_X6_countInTable l X D P (hKl ▸ hfl2) M W h view group) tw_879 (show kd 0 = 6 from rfl) (by decide) rfl mm_X6_countInTable ⟨rfl, rfl⟩ (by rw [hKR]; exact ⟨Nat.le_of_ble_eq_true rfl, Nat.le_of_ble_eq_true rfl⟩) (by rw [hKR]; exact ⟨Nat.le_of_ble_eq_true rfl, Nat.le_of_ble_eq_true rfl⟩) rfl rfl rfl (Nat.le_of_ble_eq_true rfl) dL_tableCount_3 rfl (fun e9 D2 P2 hx => ?_) (fun r D2 P2 hp => ?_)
  ·
    obtain ⟨⟨rfl, hK⟩, hF, hPP⟩ := hx
    refine ⟨[], ⟨0, 7, 8, 15⟩, [], hT, (fun z hz => nomatch hz), by decide, by decide, tw_601, NG_c Z (List.mem_of_getElem? (i := 2) rfl), fun q9 => ?_⟩
    refine pv_astore_n (q := 9) C dL_tableCount_8 rfl rfl (Nat.le_of_ble_eq_true rfl) rfl ?_
    refine pv_ldc2 (q := 12) C dL_tableCount_9 rfl tw_654 ?_
    exact XK.of (pv_lret C (QK_no h hK (by decide) hF hPP rfl) (by omega) (by omega) dL_tableCount_12)
  ·
    obtain ⟨hK, hr, hF, hPP⟩ := hp
    refine pv_i2l (q := 7) C dL_tableCount_6 rfl ?_
    exact XK.of (pv_lret C (QK_ok h hK hF hPP (by rw [← hr])) (by omega) (by omega) dL_tableCount_7)
theorem mw_L_tableCount : MSW yL_tableCount cL_tableCount 4 (some .long) [(0, 7, 8, 15)] 3 := ⟨tw_877, tw_0, tw_878, ⟨by decide +kernel, by decide +kernel⟩, by decide +kernel⟩
set_option maxRecDepth 100000 in
set_option maxHeartbeats 4000000 in
theorem c_L_tableSum (l : Launch) (X : XT) (D : DT) (P : PT) (hfl : l.stackTraces = false) (M : DT) (W : Nat) (h : RI D P M W) (view group : Int32) : LM l X yL_tableSum (.codeWith yL_tableSum cL_tableSum 4 (some .long) [(0, 7, 8, 15)]) ({ frames := 9, cells := 2, slots := 12, locals := 324 } : Room) [.ref (X.2.2 0), .int view, .int group] (qL X (fun r D' P' => QK (wv (kGr view group) ((sm (TF (M 7) (ix view) (ix group)) (TN (M 7) (ix view) (ix group)) : Int32).toInt64) cI) M W r D' P')) D P 2 12 := by
  refine lm_ofH (by decide +kernel) (Nat.le_of_ble_eq_true rfl) ?_
  intro K hKl hKR C hT Z hNC
  have hfl2 : K.2.1.stackTraces = false := by rw [hKl]; exact hfl
  refine PV_lv (lv' := [some (.ref (X.2.2 0)), some (.int view), some (.int group), none]) rfl ?_
  refine pv_aload_n (q := 1) C dL_tableSum_0 rfl rfl rfl ?_
  refine pv_iload_n (q := 2) C dL_tableSum_1 rfl rfl rfl ?_
  refine pv_iload_n (q := 3) C dL_tableSum_2 rfl rfl rfl ?_
  refine pv_callVixH (q := 6) (rest := []) C Z hKl (c_X6_sumInTable l X D P (hKl ▸ hfl2) M W h view group) tw_929 (show kd 0 = 6 from rfl) (by decide) rfl mm_X6_sumInTable ⟨rfl, rfl⟩ (by rw [hKR]; exact ⟨Nat.le_of_ble_eq_true rfl, Nat.le_of_ble_eq_true rfl⟩) (by rw [hKR]; exact ⟨Nat.le_of_ble_eq_true rfl, Nat.le_of_ble_eq_true rfl⟩) rfl rfl rfl (Nat.le_of_ble_eq_true rfl) dL_tableSum_3 rfl (fun e9 D2 P2 hx => ?_) (fun r D2 P2 hp => ?_)
  ·
    obtain ⟨⟨rfl, hK⟩, hF, hPP⟩ := hx
    refine ⟨[], ⟨0, 7, 8, 15⟩, [], hT, (fun z hz => nomatch hz), by decide, by decide, tw_601, NG_c Z (List.mem_of_getElem? (i := 2) rfl), fun q9 => ?_⟩
    refine pv_astore_n (q := 9) C dL_tableSum_8 rfl rfl (Nat.le_of_ble_eq_true rfl) rfl ?_
    refine pv_ldc2 (q := 12) C dL_tableSum_9 rfl tw_654 ?_
    exact XK.of (pv_lret C (QK_no h hK (by decide) hF hPP rfl) (by omega) (by omega) dL_tableSum_12)
  ·
    obtain ⟨hK, hr, hF, hPP⟩ := hp
    refine pv_i2l (q := 7) C dL_tableSum_6 rfl ?_
    exact XK.of (pv_lret C (QK_ok h hK hF hPP (by rw [← hr])) (by omega) (by omega) dL_tableSum_7)
theorem mw_L_tableSum : MSW yL_tableSum cL_tableSum 4 (some .long) [(0, 7, 8, 15)] 3 := ⟨tw_927, tw_0, tw_928, ⟨by decide +kernel, by decide +kernel⟩, by decide +kernel⟩
set_option maxRecDepth 100000 in
set_option maxHeartbeats 4000000 in
theorem c_L_tableMedian (l : Launch) (X : XT) (D : DT) (P : PT) (hfl : l.stackTraces = false) (M : DT) (W : Nat) (h : RI D P M W) (view group : Int32) : LM l X yL_tableMedian (.codeWith yL_tableMedian cL_tableMedian 4 (some .long) [(0, 7, 8, 15), (0, 7, 13, 23)]) ({ frames := 9, cells := 3, slots := 18, locals := 324 } : Room) [.ref (X.2.2 0), .int view, .int group] (qL X (fun r D' P' => QK (wv (kAt (M 7) view group) ((at0 (TF (M 7) (ix view) (ix group)) (TN (M 7) (ix view) (ix group)) ((TN (M 7) (ix view) (ix group) - 1) / 2) : Int32).toInt64) cIS) M W r D' P')) D P 3 18 := by
  refine lm_ofH (by decide +kernel) (Nat.le_of_ble_eq_true rfl) ?_
  intro K hKl hKR C hT Z hNC
  have hfl2 : K.2.1.stackTraces = false := by rw [hKl]; exact hfl
  refine PV_lv (lv' := [some (.ref (X.2.2 0)), some (.int view), some (.int group), none]) rfl ?_
  refine pv_aload_n (q := 1) C dL_tableMedian_0 rfl rfl rfl ?_
  refine pv_iload_n (q := 2) C dL_tableMedian_1 rfl rfl rfl ?_
  refine pv_iload_n (q := 3) C dL_tableMedian_2 rfl rfl rfl ?_
  refine pv_callVixH (q := 6) (rest := []) C Z hKl (c_X6_medianInTable l X D P (hKl ▸ hfl2) M W h view group) tw_886 (show kd 0 = 6 from rfl) (by decide) rfl mm_X6_medianInTable ⟨rfl, rfl⟩ (by rw [hKR]; exact ⟨Nat.le_of_ble_eq_true rfl, Nat.le_of_ble_eq_true rfl⟩) (by rw [hKR]; exact ⟨Nat.le_of_ble_eq_true rfl, Nat.le_of_ble_eq_true rfl⟩) rfl rfl rfl (Nat.le_of_ble_eq_true rfl) dL_tableMedian_3 rfl (fun e9 D2 P2 hx => ?_) (fun r D2 P2 hp => ?_)
  ·
    obtain ⟨hx, hF, hPP⟩ := hx
    rcases hx with ⟨rfl, hK⟩ | ⟨rfl, hK⟩
    ·
      refine ⟨[], ⟨0, 7, 8, 15⟩, [⟨0, 7, 13, 23⟩], hT, (fun z hz => nomatch hz), by decide, by decide, tw_601, NG_c Z (List.mem_of_getElem? (i := 2) rfl), fun q9 => ?_⟩
      refine pv_astore_n (q := 9) C dL_tableMedian_8 rfl rfl (Nat.le_of_ble_eq_true rfl) rfl ?_
      refine pv_ldc2 (q := 12) C dL_tableMedian_9 rfl tw_654 ?_
      exact XK.of (pv_lret C (QK_no h hK (by decide) hF hPP rfl) (by omega) (by omega) dL_tableMedian_12)
    ·
      refine ⟨[⟨0, 7, 8, 15⟩], ⟨0, 7, 13, 23⟩, [], hT, (fun z hz => by
              simp only [List.mem_cons, List.not_mem_nil, or_false] at hz
              rcases hz with rfl
              · exact Or.inr ⟨by decide, eIOE, tw_601, hNC.2.1⟩), by decide, by decide, tw_271, NG_c Z (List.mem_of_getElem? (i := 1) rfl), fun q9 => ?_⟩
      refine pv_astore_n (q := 14) C dL_tableMedian_13 rfl rfl (Nat.le_of_ble_eq_true rfl) rfl ?_
      refine pv_ldc2 (q := 17) C dL_tableMedian_14 rfl tw_352 ?_
      exact XK.of (pv_lret C (QK_no h hK (by decide) hF hPP rfl) (by omega) (by omega) dL_tableMedian_17)
  ·
    obtain ⟨hK, hr, hF, hPP⟩ := hp
    refine pv_i2l (q := 7) C dL_tableMedian_6 rfl ?_
    exact XK.of (pv_lret C (QK_ok h hK hF hPP (by rw [← hr])) (by omega) (by omega) dL_tableMedian_7)
theorem mw_L_tableMedian : MSW yL_tableMedian cL_tableMedian 4 (some .long) [(0, 7, 8, 15), (0, 7, 13, 23)] 3 := ⟨tw_884, tw_0, tw_885, ⟨by decide +kernel, by decide +kernel⟩, by decide +kernel⟩
set_option maxRecDepth 100000 in
set_option maxHeartbeats 4000000 in
theorem c_L_tableRank (l : Launch) (X : XT) (D : DT) (P : PT) (hfl : l.stackTraces = false) (M : DT) (W : Nat) (h : RI D P M W) (view group amount : Int32) : LM l X yL_tableRank (.codeWith yL_tableRank cL_tableRank 5 (some .long) [(0, 8, 9, 15), (0, 8, 15, 19)]) ({ frames := 9, cells := 3, slots := 18, locals := 324 } : Room) [.ref (X.2.2 0), .int view, .int group, .int amount] (qL X (fun r D' P' => QK (wv (kRk view group amount) ((nI (bl (TF (M 7) (ix view) (ix group)) (TN (M 7) (ix view) (ix group)) amount) : Int32).toInt64) cIX) M W r D' P')) D P 3 18 := by
  refine lm_ofH (by decide +kernel) (Nat.le_of_ble_eq_true rfl) ?_
  intro K hKl hKR C hT Z hNC
  have hfl2 : K.2.1.stackTraces = false := by rw [hKl]; exact hfl
  refine PV_lv (lv' := [some (.ref (X.2.2 0)), some (.int view), some (.int group), some (.int amount), none]) rfl ?_
  refine pv_aload_n (q := 1) C dL_tableRank_0 rfl rfl rfl ?_
  refine pv_iload_n (q := 2) C dL_tableRank_1 rfl rfl rfl ?_
  refine pv_iload_n (q := 3) C dL_tableRank_2 rfl rfl rfl ?_
  refine pv_iload_n (q := 4) C dL_tableRank_3 rfl rfl rfl ?_
  refine pv_callVixH (q := 7) (rest := []) C Z hKl (c_X6_rankInTable l X D P (hKl ▸ hfl2) M W h view group amount) tw_826 (show kd 0 = 6 from rfl) (by decide) rfl mm_X6_rankInTable ⟨rfl, rfl⟩ (by rw [hKR]; exact ⟨Nat.le_of_ble_eq_true rfl, Nat.le_of_ble_eq_true rfl⟩) (by rw [hKR]; exact ⟨Nat.le_of_ble_eq_true rfl, Nat.le_of_ble_eq_true rfl⟩) rfl rfl rfl (Nat.le_of_ble_eq_true rfl) dL_tableRank_4 rfl (fun e9 D2 P2 hx => ?_) (fun r D2 P2 hp => ?_)
  ·
    obtain ⟨hx, hF, hPP⟩ := hx
    rcases hx with ⟨rfl, hK⟩ | ⟨rfl, hK⟩
    ·
      refine ⟨[], ⟨0, 8, 9, 15⟩, [⟨0, 8, 15, 19⟩], hT, (fun z hz => nomatch hz), by decide, by decide, tw_601, NG_c Z (List.mem_of_getElem? (i := 2) rfl), fun q9 => ?_⟩
      refine pv_astore (q := 11) C dL_tableRank_9 rfl (Nat.le_of_ble_eq_true rfl) rfl ?_
      refine pv_ldc2 (q := 14) C dL_tableRank_11 rfl tw_654 ?_
      exact XK.of (pv_lret C (QK_no h hK (by decide) hF hPP rfl) (by omega) (by omega) dL_tableRank_14)
    ·
      refine ⟨[⟨0, 8, 9, 15⟩], ⟨0, 8, 15, 19⟩, [], hT, (fun z hz => by
              simp only [List.mem_cons, List.not_mem_nil, or_false] at hz
              rcases hz with rfl
              · exact Or.inr ⟨by decide, eIOE, tw_601, hNC.1⟩), by decide, by decide, tw_602, NG_c Z (List.mem_of_getElem? (i := 3) rfl), fun q9 => ?_⟩
      refine pv_astore (q := 17) C dL_tableRank_15 rfl (Nat.le_of_ble_eq_true rfl) rfl ?_
      refine pv_ldc2 (q := 20) C dL_tableRank_17 rfl tw_655 ?_
      exact XK.of (pv_lret C (QK_no h hK (by decide) hF hPP rfl) (by omega) (by omega) dL_tableRank_20)
  ·
    obtain ⟨hK, hr, hF, hPP⟩ := hp
    refine pv_i2l (q := 8) C dL_tableRank_7 rfl ?_
    exact XK.of (pv_lret C (QK_ok h hK hF hPP (by rw [← hr])) (by omega) (by omega) dL_tableRank_8)
theorem mw_L_tableRank : MSW yL_tableRank cL_tableRank 5 (some .long) [(0, 8, 9, 15), (0, 8, 15, 19)] 4 := ⟨tw_824, tw_0, tw_825, ⟨by decide +kernel, by decide +kernel⟩, by decide +kernel⟩
set_option maxRecDepth 100000 in
set_option maxHeartbeats 4000000 in
theorem c_L_unlikeGroups (l : Launch) (X : XT) (D : DT) (P : PT) (hfl : l.stackTraces = false) (M : DT) (W : Nat) (h : RI D P M W) (view : Int32) : LM l X yL_unlikeGroups (.codeWith yL_unlikeGroups cL_unlikeGroups 3 (some .long) [(0, 6, 7, 15)]) ({ frames := 8, cells := 1, slots := 6, locals := 288 } : Room) [.ref (X.2.2 0), .int view] (qL X (fun r D' P' => QK (wv (kView view) ((umN (M 7) (ix view) 4 : Int32).toInt64) cI) M W r D' P')) D P 1 6 := by
  refine lm_ofH (by decide +kernel) (Nat.le_of_ble_eq_true rfl) ?_
  intro K hKl hKR C hT Z hNC
  have hfl2 : K.2.1.stackTraces = false := by rw [hKl]; exact hfl
  refine PV_lv (lv' := [some (.ref (X.2.2 0)), some (.int view), none]) rfl ?_
  refine pv_aload_n (q := 1) C dL_unlikeGroups_0 rfl rfl rfl ?_
  refine pv_iload_n (q := 2) C dL_unlikeGroups_1 rfl rfl rfl ?_
  refine pv_callVixH (q := 5) (rest := []) C Z hKl (c_X6_unlikeGroups l X D P (hKl ▸ hfl2) M W h view) tw_833 (show kd 0 = 6 from rfl) (by decide) rfl mm_X6_unlikeGroups ⟨rfl, rfl⟩ (by rw [hKR]; exact ⟨Nat.le_of_ble_eq_true rfl, Nat.le_of_ble_eq_true rfl⟩) (by rw [hKR]; exact ⟨Nat.le_of_ble_eq_true rfl, Nat.le_of_ble_eq_true rfl⟩) rfl rfl rfl (Nat.le_of_ble_eq_true rfl) dL_unlikeGroups_2 rfl (fun e9 D2 P2 hx => ?_) (fun r D2 P2 hp => ?_)
  ·
    obtain ⟨⟨rfl, hK⟩, hF, hPP⟩ := hx
    refine ⟨[], ⟨0, 6, 7, 15⟩, [], hT, (fun z hz => nomatch hz), by decide, by decide, tw_601, NG_c Z (List.mem_of_getElem? (i := 2) rfl), fun q9 => ?_⟩
    refine pv_astore_n (q := 8) C dL_unlikeGroups_7 rfl rfl (Nat.le_of_ble_eq_true rfl) rfl ?_
    refine pv_ldc2 (q := 11) C dL_unlikeGroups_8 rfl tw_654 ?_
    exact XK.of (pv_lret C (QK_no h hK (by decide) hF hPP rfl) (by omega) (by omega) dL_unlikeGroups_11)
  ·
    obtain ⟨hK, hr, hF, hPP⟩ := hp
    refine pv_i2l (q := 6) C dL_unlikeGroups_5 rfl ?_
    exact XK.of (pv_lret C (QK_ok h hK hF hPP (by rw [← hr])) (by omega) (by omega) dL_unlikeGroups_6)
theorem mw_L_unlikeGroups : MSW yL_unlikeGroups cL_unlikeGroups 3 (some .long) [(0, 6, 7, 15)] 2 := ⟨tw_831, tw_0, tw_832, ⟨by decide +kernel, by decide +kernel⟩, by decide +kernel⟩
set_option maxRecDepth 100000 in
set_option maxHeartbeats 4000000 in
theorem c_L_ifWoken (l : Launch) (X : XT) (D : DT) (P : PT) (hfl : l.stackTraces = false) (M : DT) (W : Nat) (h : RI D P M W) (view : Int32) : LM l X yL_ifWoken (.codeWith yL_ifWoken cL_ifWoken 3 (some .long) [(0, 6, 7, 15)]) ({ frames := 8, cells := 1, slots := 6, locals := 288 } : Room) [.ref (X.2.2 0), .int view] (qL X (fun r D' P' => QK (wv (kView view) ((0 : Int32).toInt64) cI) M W r D' P')) D P 1 6 := by
  refine lm_ofH (by decide +kernel) (Nat.le_of_ble_eq_true rfl) ?_
  intro K hKl hKR C hT Z hNC
  have hfl2 : K.2.1.stackTraces = false := by rw [hKl]; exact hfl
  refine PV_lv (lv' := [some (.ref (X.2.2 0)), some (.int view), none]) rfl ?_
  refine pv_aload_n (q := 1) C dL_ifWoken_0 rfl rfl rfl ?_
  refine pv_iload_n (q := 2) C dL_ifWoken_1 rfl rfl rfl ?_
  refine pv_callVixH (q := 5) (rest := []) C Z hKl (c_X6_unlikeIfWoken l X D P (hKl ▸ hfl2) M W h view) tw_837 (show kd 0 = 6 from rfl) (by decide) rfl mm_X6_unlikeIfWoken ⟨rfl, rfl⟩ (by rw [hKR]; exact ⟨Nat.le_of_ble_eq_true rfl, Nat.le_of_ble_eq_true rfl⟩) (by rw [hKR]; exact ⟨Nat.le_of_ble_eq_true rfl, Nat.le_of_ble_eq_true rfl⟩) rfl rfl rfl (Nat.le_of_ble_eq_true rfl) dL_ifWoken_2 rfl (fun e9 D2 P2 hx => ?_) (fun r D2 P2 hp => ?_)
  ·
    obtain ⟨⟨rfl, hK⟩, hF, hPP⟩ := hx
    refine ⟨[], ⟨0, 6, 7, 15⟩, [], hT, (fun z hz => nomatch hz), by decide, by decide, tw_601, NG_c Z (List.mem_of_getElem? (i := 2) rfl), fun q9 => ?_⟩
    refine pv_astore_n (q := 8) C dL_ifWoken_7 rfl rfl (Nat.le_of_ble_eq_true rfl) rfl ?_
    refine pv_ldc2 (q := 11) C dL_ifWoken_8 rfl tw_654 ?_
    exact XK.of (pv_lret C (QK_no h hK (by decide) hF hPP rfl) (by omega) (by omega) dL_ifWoken_11)
  ·
    obtain ⟨hK, hr, hF, hPP⟩ := hp
    refine pv_i2l (q := 6) C dL_ifWoken_5 rfl ?_
    exact XK.of (pv_lret C (QK_ok h hK hF hPP (by rw [← hr])) (by omega) (by omega) dL_ifWoken_6)
theorem mw_L_ifWoken : MSW yL_ifWoken cL_ifWoken 3 (some .long) [(0, 6, 7, 15)] 2 := ⟨tw_835, tw_0, tw_836, ⟨by decide +kernel, by decide +kernel⟩, by decide +kernel⟩
set_option maxRecDepth 100000 in
set_option maxHeartbeats 4000000 in
theorem c_L_wakesIn (l : Launch) (X : XT) (D : DT) (P : PT) (hfl : l.stackTraces = false) (M : DT) (W : Nat) (h : RI D P M W) (view : Int32) : LM l X yL_wakesIn (.codeWith yL_wakesIn cL_wakesIn 3 (some .long) [(0, 6, 7, 15)]) ({ frames := 8, cells := 1, slots := 6, locals := 288 } : Room) [.ref (X.2.2 0), .int view] (qL X (fun r D' P' => QK (wv (kView view) ((wks (M 7) (ix view) : Int32).toInt64) cI) M W r D' P')) D P 1 6 := by
  refine lm_ofH (by decide +kernel) (Nat.le_of_ble_eq_true rfl) ?_
  intro K hKl hKR C hT Z hNC
  have hfl2 : K.2.1.stackTraces = false := by rw [hKl]; exact hfl
  refine PV_lv (lv' := [some (.ref (X.2.2 0)), some (.int view), none]) rfl ?_
  refine pv_aload_n (q := 1) C dL_wakesIn_0 rfl rfl rfl ?_
  refine pv_iload_n (q := 2) C dL_wakesIn_1 rfl rfl rfl ?_
  refine pv_callVixH (q := 5) (rest := []) C Z hKl (c_X6_wakesIn l X D P (hKl ▸ hfl2) M W h view) tw_841 (show kd 0 = 6 from rfl) (by decide) rfl mm_X6_wakesIn ⟨rfl, rfl⟩ (by rw [hKR]; exact ⟨Nat.le_of_ble_eq_true rfl, Nat.le_of_ble_eq_true rfl⟩) (by rw [hKR]; exact ⟨Nat.le_of_ble_eq_true rfl, Nat.le_of_ble_eq_true rfl⟩) rfl rfl rfl (Nat.le_of_ble_eq_true rfl) dL_wakesIn_2 rfl (fun e9 D2 P2 hx => ?_) (fun r D2 P2 hp => ?_)
  ·
    obtain ⟨⟨rfl, hK⟩, hF, hPP⟩ := hx
    refine ⟨[], ⟨0, 6, 7, 15⟩, [], hT, (fun z hz => nomatch hz), by decide, by decide, tw_601, NG_c Z (List.mem_of_getElem? (i := 2) rfl), fun q9 => ?_⟩
    refine pv_astore_n (q := 8) C dL_wakesIn_7 rfl rfl (Nat.le_of_ble_eq_true rfl) rfl ?_
    refine pv_ldc2 (q := 11) C dL_wakesIn_8 rfl tw_654 ?_
    exact XK.of (pv_lret C (QK_no h hK (by decide) hF hPP rfl) (by omega) (by omega) dL_wakesIn_11)
  ·
    obtain ⟨hK, hr, hF, hPP⟩ := hp
    refine pv_i2l (q := 6) C dL_wakesIn_5 rfl ?_
    exact XK.of (pv_lret C (QK_ok h hK hF hPP (by rw [← hr])) (by omega) (by omega) dL_wakesIn_6)
theorem mw_L_wakesIn : MSW yL_wakesIn cL_wakesIn 3 (some .long) [(0, 6, 7, 15)] 2 := ⟨tw_839, tw_0, tw_840, ⟨by decide +kernel, by decide +kernel⟩, by decide +kernel⟩
