set_option maxRecDepth 100000 in
set_option maxHeartbeats 4000000 in
theorem c_L_isNapping (l : Launch) (X : XT) (D : DT) (P : PT) (hfl : l.stackTraces = false) (M : DT) (W : Nat) (h : RI D P M W) (view : Int32) : LG l X yL_isNapping cL_isNapping 4 [(0, 16, 19, 13)] ({ frames := 8, cells := 1, slots := 6, locals := 288 } : Room) [.ref (X.2.2 0), .int view, .ref (X.2.2 13)] (fun r D' P' => WQ (kView view) ((if M 7 (32 + 38 * ix view + 32) = 1 then 1 else 0 : Int32).toInt64) M M D W r D' P') D P 1 6 := by
  refine lg_of (by decide +kernel) (Nat.le_of_ble_eq_true rfl) ?_
  intro K hKl hKR C hT Z hNC
  have hfl2 : K.2.1.stackTraces = false := by rw [hKl]; exact hfl
  refine PV_lv (lv' := [some (.ref (X.2.2 0)), some (.int view), some (.ref (X.2.2 13)), none]) rfl ?_
  refine pv_aload_n (q := 1) C dL_isNapping_0 rfl rfl rfl ?_
  refine pv_iconst (q := 2) (v := 0) C dL_isNapping_1 rfl (by decide) ?_
  refine pv_aload_n (q := 3) C dL_isNapping_2 rfl rfl rfl ?_
  refine pv_iload_n (q := 4) C dL_isNapping_3 rfl rfl rfl ?_
  refine pv_callVixH (q := 7) (rest := [.int 0, .ref (X.2.2 13)]) C Z hKl (c_X6_isNapping l X D P (hKl ▸ hfl2) M W h view) tw_875 (show kd 0 = 6 from rfl) (by decide) rfl mm_X6_isNapping ⟨rfl, rfl⟩ (by rw [hKR]; exact ⟨Nat.le_of_ble_eq_true rfl, Nat.le_of_ble_eq_true rfl⟩) (by rw [hKR]; exact ⟨Nat.le_of_ble_eq_true rfl, Nat.le_of_ble_eq_true rfl⟩) rfl rfl rfl (Nat.le_of_ble_eq_true rfl) dL_isNapping_4 rfl (fun e9 D2 P2 hx => ?_) (fun r D2 P2 hp => ?_)
  ·
    obtain ⟨⟨rfl, hK⟩, hF, hPP⟩ := hx
    refine ⟨[], ⟨0, 16, 19, 13⟩, [], hT, (fun z hz => nomatch hz), by decide, by decide, tw_622, NG_c Z (List.mem_of_getElem? (i := 2) rfl), fun q9 => ?_⟩
    refine pv_astore_n (q := 20) C dL_isNapping_19 rfl rfl (Nat.le_of_ble_eq_true rfl) rfl ?_
    refine pv_iconst (q := 21) (v := 1) C dL_isNapping_20 rfl (by decide) ?_
    exact XK.of (pv_iret C (WQ_no h hK (by decide) hF hPP) (by omega) (by omega) dL_isNapping_21)
  ·
    obtain ⟨hK, hr, hF, rfl⟩ := hp
    refine pv_if_eq (q := 10) (tgt := 14) C dL_isNapping_7 (by decide) rfl (fun c0 => ?_) (fun c0 => ?_)
    ·
      refine pv_lconst (q := 15) (v := 0) C dL_isNapping_14 rfl (by decide) ?_
      refine pv_last (q := 16) C rfl dL_isNapping_15 rfl ?_
      refine pv_goto (tgt := 22) C dL_isNapping_16 (by decide) ?_
      refine pv_iconst (q := 23) (v := 0) C dL_isNapping_22 rfl (by decide) ?_
      exact XK.of (pv_iret C (WQ_look h hK hF rfl (by rw [← hr, c0]; rfl)) (by omega) (by omega) dL_isNapping_23)
    ·
      refine pv_lconst (q := 11) (v := 1) C dL_isNapping_10 rfl (by decide) ?_
      refine pv_goto (tgt := 15) C dL_isNapping_11 (by decide) ?_
      refine pv_last (q := 16) C rfl dL_isNapping_15 rfl ?_
      refine pv_goto (tgt := 22) C dL_isNapping_16 (by decide) ?_
      refine pv_iconst (q := 23) (v := 0) C dL_isNapping_22 rfl (by decide) ?_
      exact XK.of (pv_iret C (WQ_look h hK hF rfl (by rw [← hr, (show r = 1 by rw [hr] at c0 ⊢; split at c0 <;> first | exact absurd rfl c0 | (split <;> first | rfl | contradiction))]; rfl)) (by omega) (by omega) dL_isNapping_23)
theorem mw_L_isNapping : MSW yL_isNapping cL_isNapping 4 (some .int) [(0, 16, 19, 13)] 3 := ⟨tw_873, tw_0, tw_874, ⟨by decide +kernel, by decide +kernel⟩, by decide +kernel⟩
set_option maxRecDepth 100000 in
set_option maxHeartbeats 4000000 in
theorem c_L_napOf (l : Launch) (X : XT) (D : DT) (P : PT) (hfl : l.stackTraces = false) (M : DT) (W : Nat) (h : RI D P M W) (view : Int32) : LG l X yL_napOf cL_napOf 4 [(0, 9, 12, 13)] ({ frames := 8, cells := 1, slots := 6, locals := 288 } : Room) [.ref (X.2.2 0), .int view, .ref (X.2.2 13)] (fun r D' P' => WQ (kView view) ((M 7 (32 + 38 * ix view + 33) : Int32).toInt64) M M D W r D' P') D P 1 6 := by
  refine lg_of (by decide +kernel) (Nat.le_of_ble_eq_true rfl) ?_
  intro K hKl hKR C hT Z hNC
  have hfl2 : K.2.1.stackTraces = false := by rw [hKl]; exact hfl
  refine PV_lv (lv' := [some (.ref (X.2.2 0)), some (.int view), some (.ref (X.2.2 13)), none]) rfl ?_
  refine pv_aload_n (q := 1) C dL_napOf_0 rfl rfl rfl ?_
  refine pv_iconst (q := 2) (v := 0) C dL_napOf_1 rfl (by decide) ?_
  refine pv_aload_n (q := 3) C dL_napOf_2 rfl rfl rfl ?_
  refine pv_iload_n (q := 4) C dL_napOf_3 rfl rfl rfl ?_
  refine pv_callVixH (q := 7) (rest := [.int 0, .ref (X.2.2 13)]) C Z hKl (c_X6_napOf l X D P (hKl ▸ hfl2) M W h view) tw_879 (show kd 0 = 6 from rfl) (by decide) rfl mm_X6_napOf ⟨rfl, rfl⟩ (by rw [hKR]; exact ⟨Nat.le_of_ble_eq_true rfl, Nat.le_of_ble_eq_true rfl⟩) (by rw [hKR]; exact ⟨Nat.le_of_ble_eq_true rfl, Nat.le_of_ble_eq_true rfl⟩) rfl rfl rfl (Nat.le_of_ble_eq_true rfl) dL_napOf_4 rfl (fun e9 D2 P2 hx => ?_) (fun r D2 P2 hp => ?_)
  ·
    obtain ⟨⟨rfl, hK⟩, hF, hPP⟩ := hx
    refine ⟨[], ⟨0, 9, 12, 13⟩, [], hT, (fun z hz => nomatch hz), by decide, by decide, tw_622, NG_c Z (List.mem_of_getElem? (i := 2) rfl), fun q9 => ?_⟩
    refine pv_astore_n (q := 13) C dL_napOf_12 rfl rfl (Nat.le_of_ble_eq_true rfl) rfl ?_
    refine pv_iconst (q := 14) (v := 1) C dL_napOf_13 rfl (by decide) ?_
    exact XK.of (pv_iret C (WQ_no h hK (by decide) hF hPP) (by omega) (by omega) dL_napOf_14)
  ·
    obtain ⟨hK, hr, hF, rfl⟩ := hp
    refine pv_i2l (q := 8) C dL_napOf_7 rfl ?_
    refine pv_last (q := 9) C rfl dL_napOf_8 rfl ?_
    refine pv_goto (tgt := 15) C dL_napOf_9 (by decide) ?_
    refine pv_iconst (q := 16) (v := 0) C dL_napOf_15 rfl (by decide) ?_
    exact XK.of (pv_iret C (WQ_look h hK hF rfl (by rw [← hr])) (by omega) (by omega) dL_napOf_16)
theorem mw_L_napOf : MSW yL_napOf cL_napOf 4 (some .int) [(0, 9, 12, 13)] 3 := ⟨tw_877, tw_0, tw_878, ⟨by decide +kernel, by decide +kernel⟩, by decide +kernel⟩
set_option maxRecDepth 100000 in
set_option maxHeartbeats 4000000 in
theorem c_L_filterOf (l : Launch) (X : XT) (D : DT) (P : PT) (hfl : l.stackTraces = false) (M : DT) (W : Nat) (h : RI D P M W) (view : Int32) : LG l X yL_filterOf cL_filterOf 4 [(0, 9, 12, 13)] ({ frames := 8, cells := 1, slots := 6, locals := 288 } : Room) [.ref (X.2.2 0), .int view, .ref (X.2.2 13)] (fun r D' P' => WQ (kView view) ((M 7 (32 + 38 * ix view + 34) : Int32).toInt64) M M D W r D' P') D P 1 6 := by
  refine lg_of (by decide +kernel) (Nat.le_of_ble_eq_true rfl) ?_
  intro K hKl hKR C hT Z hNC
  have hfl2 : K.2.1.stackTraces = false := by rw [hKl]; exact hfl
  refine PV_lv (lv' := [some (.ref (X.2.2 0)), some (.int view), some (.ref (X.2.2 13)), none]) rfl ?_
  refine pv_aload_n (q := 1) C dL_filterOf_0 rfl rfl rfl ?_
  refine pv_iconst (q := 2) (v := 0) C dL_filterOf_1 rfl (by decide) ?_
  refine pv_aload_n (q := 3) C dL_filterOf_2 rfl rfl rfl ?_
  refine pv_iload_n (q := 4) C dL_filterOf_3 rfl rfl rfl ?_
  refine pv_callVixH (q := 7) (rest := [.int 0, .ref (X.2.2 13)]) C Z hKl (c_X6_filterOf l X D P (hKl ▸ hfl2) M W h view) tw_883 (show kd 0 = 6 from rfl) (by decide) rfl mm_X6_filterOf ⟨rfl, rfl⟩ (by rw [hKR]; exact ⟨Nat.le_of_ble_eq_true rfl, Nat.le_of_ble_eq_true rfl⟩) (by rw [hKR]; exact ⟨Nat.le_of_ble_eq_true rfl, Nat.le_of_ble_eq_true rfl⟩) rfl rfl rfl (Nat.le_of_ble_eq_true rfl) dL_filterOf_4 rfl (fun e9 D2 P2 hx => ?_) (fun r D2 P2 hp => ?_)
  ·
    obtain ⟨⟨rfl, hK⟩, hF, hPP⟩ := hx
    refine ⟨[], ⟨0, 9, 12, 13⟩, [], hT, (fun z hz => nomatch hz), by decide, by decide, tw_622, NG_c Z (List.mem_of_getElem? (i := 2) rfl), fun q9 => ?_⟩
    refine pv_astore_n (q := 13) C dL_filterOf_12 rfl rfl (Nat.le_of_ble_eq_true rfl) rfl ?_
    refine pv_iconst (q := 14) (v := 1) C dL_filterOf_13 rfl (by decide) ?_
    exact XK.of (pv_iret C (WQ_no h hK (by decide) hF hPP) (by omega) (by omega) dL_filterOf_14)
  ·
    obtain ⟨hK, hr, hF, rfl⟩ := hp
    refine pv_i2l (q := 8) C dL_filterOf_7 rfl ?_
    refine pv_last (q := 9) C rfl dL_filterOf_8 rfl ?_
    refine pv_goto (tgt := 15) C dL_filterOf_9 (by decide) ?_
    refine pv_iconst (q := 16) (v := 0) C dL_filterOf_15 rfl (by decide) ?_
    exact XK.of (pv_iret C (WQ_look h hK hF rfl (by rw [← hr])) (by omega) (by omega) dL_filterOf_16)
theorem mw_L_filterOf : MSW yL_filterOf cL_filterOf 4 (some .int) [(0, 9, 12, 13)] 3 := ⟨tw_881, tw_0, tw_882, ⟨by decide +kernel, by decide +kernel⟩, by decide +kernel⟩
set_option maxRecDepth 100000 in
set_option maxHeartbeats 4000000 in
theorem c_L_waiting (l : Launch) (X : XT) (D : DT) (P : PT) (hfl : l.stackTraces = false) (M : DT) (W : Nat) (h : RI D P M W) (view : Int32) : LG l X yL_waiting cL_waiting 4 [(0, 9, 12, 13)] ({ frames := 8, cells := 1, slots := 6, locals := 288 } : Room) [.ref (X.2.2 0), .int view, .ref (X.2.2 13)] (fun r D' P' => WQ (kView view) ((wt (M 7) (ix view) : Int32).toInt64) M M D W r D' P') D P 1 6 := by
  refine lg_of (by decide +kernel) (Nat.le_of_ble_eq_true rfl) ?_
  intro K hKl hKR C hT Z hNC
  have hfl2 : K.2.1.stackTraces = false := by rw [hKl]; exact hfl
  refine PV_lv (lv' := [some (.ref (X.2.2 0)), some (.int view), some (.ref (X.2.2 13)), none]) rfl ?_
  refine pv_aload_n (q := 1) C dL_waiting_0 rfl rfl rfl ?_
  refine pv_iconst (q := 2) (v := 0) C dL_waiting_1 rfl (by decide) ?_
  refine pv_aload_n (q := 3) C dL_waiting_2 rfl rfl rfl ?_
  refine pv_iload_n (q := 4) C dL_waiting_3 rfl rfl rfl ?_
  refine pv_callVixH (q := 7) (rest := [.int 0, .ref (X.2.2 13)]) C Z hKl (c_X6_waiting l X D P (hKl ▸ hfl2) M W h view) tw_887 (show kd 0 = 6 from rfl) (by decide) rfl mm_X6_waiting ⟨rfl, rfl⟩ (by rw [hKR]; exact ⟨Nat.le_of_ble_eq_true rfl, Nat.le_of_ble_eq_true rfl⟩) (by rw [hKR]; exact ⟨Nat.le_of_ble_eq_true rfl, Nat.le_of_ble_eq_true rfl⟩) rfl rfl rfl (Nat.le_of_ble_eq_true rfl) dL_waiting_4 rfl (fun e9 D2 P2 hx => ?_) (fun r D2 P2 hp => ?_)
  ·
    obtain ⟨⟨rfl, hK⟩, hF, hPP⟩ := hx
    refine ⟨[], ⟨0, 9, 12, 13⟩, [], hT, (fun z hz => nomatch hz), by decide, by decide, tw_622, NG_c Z (List.mem_of_getElem? (i := 2) rfl), fun q9 => ?_⟩
    refine pv_astore_n (q := 13) C dL_waiting_12 rfl rfl (Nat.le_of_ble_eq_true rfl) rfl ?_
    refine pv_iconst (q := 14) (v := 1) C dL_waiting_13 rfl (by decide) ?_
    exact XK.of (pv_iret C (WQ_no h hK (by decide) hF hPP) (by omega) (by omega) dL_waiting_14)
  ·
    obtain ⟨hK, hr, hF, rfl⟩ := hp
    refine pv_i2l (q := 8) C dL_waiting_7 rfl ?_
    refine pv_last (q := 9) C rfl dL_waiting_8 rfl ?_
    refine pv_goto (tgt := 15) C dL_waiting_9 (by decide) ?_
    refine pv_iconst (q := 16) (v := 0) C dL_waiting_15 rfl (by decide) ?_
    exact XK.of (pv_iret C (WQ_look h hK hF rfl (by rw [← hr])) (by omega) (by omega) dL_waiting_16)
theorem mw_L_waiting : MSW yL_waiting cL_waiting 4 (some .int) [(0, 9, 12, 13)] 3 := ⟨tw_885, tw_0, tw_886, ⟨by decide +kernel, by decide +kernel⟩, by decide +kernel⟩
set_option maxRecDepth 100000 in
set_option maxHeartbeats 4000000 in
theorem c_L_waitingByNumbers (l : Launch) (X : XT) (D : DT) (P : PT) (hfl : l.stackTraces = false) (M : DT) (W : Nat) (h : RI D P M W) (view : Int32) : LG l X yL_waitingByNumbers cL_waitingByNumbers 4 [(0, 9, 12, 13)] ({ frames := 8, cells := 1, slots := 6, locals := 288 } : Room) [.ref (X.2.2 0), .int view, .ref (X.2.2 13)] (fun r D' P' => WQ (kView view) ((wt (M 7) (ix view) : Int32).toInt64) M M D W r D' P') D P 1 6 := by
  refine lg_of (by decide +kernel) (Nat.le_of_ble_eq_true rfl) ?_
  intro K hKl hKR C hT Z hNC
  have hfl2 : K.2.1.stackTraces = false := by rw [hKl]; exact hfl
  refine PV_lv (lv' := [some (.ref (X.2.2 0)), some (.int view), some (.ref (X.2.2 13)), none]) rfl ?_
  refine pv_aload_n (q := 1) C dL_waitingByNumbers_0 rfl rfl rfl ?_
  refine pv_iconst (q := 2) (v := 0) C dL_waitingByNumbers_1 rfl (by decide) ?_
  refine pv_aload_n (q := 3) C dL_waitingByNumbers_2 rfl rfl rfl ?_
  refine pv_iload_n (q := 4) C dL_waitingByNumbers_3 rfl rfl rfl ?_
  refine pv_callVixH (q := 7) (rest := [.int 0, .ref (X.2.2 13)]) C Z hKl (c_X6_waitingByNumbers l X D P (hKl ▸ hfl2) M W h view) tw_891 (show kd 0 = 6 from rfl) (by decide) rfl mm_X6_waitingByNumbers ⟨rfl, rfl⟩ (by rw [hKR]; exact ⟨Nat.le_of_ble_eq_true rfl, Nat.le_of_ble_eq_true rfl⟩) (by rw [hKR]; exact ⟨Nat.le_of_ble_eq_true rfl, Nat.le_of_ble_eq_true rfl⟩) rfl rfl rfl (Nat.le_of_ble_eq_true rfl) dL_waitingByNumbers_4 rfl (fun e9 D2 P2 hx => ?_) (fun r D2 P2 hp => ?_)
  ·
    obtain ⟨⟨rfl, hK⟩, hF, hPP⟩ := hx
    refine ⟨[], ⟨0, 9, 12, 13⟩, [], hT, (fun z hz => nomatch hz), by decide, by decide, tw_622, NG_c Z (List.mem_of_getElem? (i := 2) rfl), fun q9 => ?_⟩
    refine pv_astore_n (q := 13) C dL_waitingByNumbers_12 rfl rfl (Nat.le_of_ble_eq_true rfl) rfl ?_
    refine pv_iconst (q := 14) (v := 1) C dL_waitingByNumbers_13 rfl (by decide) ?_
    exact XK.of (pv_iret C (WQ_no h hK (by decide) hF hPP) (by omega) (by omega) dL_waitingByNumbers_14)
  ·
    obtain ⟨hK, hr, hF, rfl⟩ := hp
    refine pv_i2l (q := 8) C dL_waitingByNumbers_7 rfl ?_
    refine pv_last (q := 9) C rfl dL_waitingByNumbers_8 rfl ?_
    refine pv_goto (tgt := 15) C dL_waitingByNumbers_9 (by decide) ?_
    refine pv_iconst (q := 16) (v := 0) C dL_waitingByNumbers_15 rfl (by decide) ?_
    exact XK.of (pv_iret C (WQ_look h hK hF rfl (by rw [← hr])) (by omega) (by omega) dL_waitingByNumbers_16)
theorem mw_L_waitingByNumbers : MSW yL_waitingByNumbers cL_waitingByNumbers 4 (some .int) [(0, 9, 12, 13)] 3 := ⟨tw_889, tw_0, tw_890, ⟨by decide +kernel, by decide +kernel⟩, by decide +kernel⟩
set_option maxRecDepth 100000 in
set_option maxHeartbeats 4000000 in
theorem c_L_matters (l : Launch) (X : XT) (D : DT) (P : PT) (hfl : l.stackTraces = false) (M : DT) (W : Nat) (h : RI D P M W) (view : Int32) : LG l X yL_matters cL_matters 4 [(0, 9, 12, 13)] ({ frames := 8, cells := 1, slots := 6, locals := 288 } : Room) [.ref (X.2.2 0), .int view, .ref (X.2.2 13)] (fun r D' P' => WQ (kView view) ((nI (wgt (M 7) (ix view)) : Int32).toInt64) M M D W r D' P') D P 1 6 := by
  refine lg_of (by decide +kernel) (Nat.le_of_ble_eq_true rfl) ?_
  intro K hKl hKR C hT Z hNC
  have hfl2 : K.2.1.stackTraces = false := by rw [hKl]; exact hfl
  refine PV_lv (lv' := [some (.ref (X.2.2 0)), some (.int view), some (.ref (X.2.2 13)), none]) rfl ?_
  refine pv_aload_n (q := 1) C dL_matters_0 rfl rfl rfl ?_
  refine pv_iconst (q := 2) (v := 0) C dL_matters_1 rfl (by decide) ?_
  refine pv_aload_n (q := 3) C dL_matters_2 rfl rfl rfl ?_
  refine pv_iload_n (q := 4) C dL_matters_3 rfl rfl rfl ?_
  refine pv_callVixH (q := 7) (rest := [.int 0, .ref (X.2.2 13)]) C Z hKl (c_X6_matters l X D P (hKl ▸ hfl2) M W h view) tw_895 (show kd 0 = 6 from rfl) (by decide) rfl mm_X6_matters ⟨rfl, rfl⟩ (by rw [hKR]; exact ⟨Nat.le_of_ble_eq_true rfl, Nat.le_of_ble_eq_true rfl⟩) (by rw [hKR]; exact ⟨Nat.le_of_ble_eq_true rfl, Nat.le_of_ble_eq_true rfl⟩) rfl rfl rfl (Nat.le_of_ble_eq_true rfl) dL_matters_4 rfl (fun e9 D2 P2 hx => ?_) (fun r D2 P2 hp => ?_)
  ·
    obtain ⟨⟨rfl, hK⟩, hF, hPP⟩ := hx
    refine ⟨[], ⟨0, 9, 12, 13⟩, [], hT, (fun z hz => nomatch hz), by decide, by decide, tw_622, NG_c Z (List.mem_of_getElem? (i := 2) rfl), fun q9 => ?_⟩
    refine pv_astore_n (q := 13) C dL_matters_12 rfl rfl (Nat.le_of_ble_eq_true rfl) rfl ?_
    refine pv_iconst (q := 14) (v := 1) C dL_matters_13 rfl (by decide) ?_
    exact XK.of (pv_iret C (WQ_no h hK (by decide) hF hPP) (by omega) (by omega) dL_matters_14)
  ·
    obtain ⟨hK, hr, hF, rfl⟩ := hp
    refine pv_i2l (q := 8) C dL_matters_7 rfl ?_
    refine pv_last (q := 9) C rfl dL_matters_8 rfl ?_
    refine pv_goto (tgt := 15) C dL_matters_9 (by decide) ?_
    refine pv_iconst (q := 16) (v := 0) C dL_matters_15 rfl (by decide) ?_
    exact XK.of (pv_iret C (WQ_look h hK hF rfl (by rw [← hr])) (by omega) (by omega) dL_matters_16)
theorem mw_L_matters : MSW yL_matters cL_matters 4 (some .int) [(0, 9, 12, 13)] 3 := ⟨tw_893, tw_0, tw_894, ⟨by decide +kernel, by decide +kernel⟩, by decide +kernel⟩
set_option maxRecDepth 100000 in
set_option maxHeartbeats 4000000 in
theorem c_L_countOf (l : Launch) (X : XT) (D : DT) (P : PT) (hfl : l.stackTraces = false) (M : DT) (W : Nat) (h : RI D P M W) (view group : Int32) : LG l X yL_countOf cL_countOf 5 [(0, 10, 13, 13)] ({ frames := 9, cells := 2, slots := 12, locals := 324 } : Room) [.ref (X.2.2 0), .int view, .int group, .ref (X.2.2 13)] (fun r D' P' => WQ (kGr view group) ((nI (VN (M 7) (ix view) (ix group)) : Int32).toInt64) M M D W r D' P') D P 2 12 := by
  refine lg_of (by decide +kernel) (Nat.le_of_ble_eq_true rfl) ?_
  intro K hKl hKR C hT Z hNC
  have hfl2 : K.2.1.stackTraces = false := by rw [hKl]; exact hfl
  refine PV_lv (lv' := [some (.ref (X.2.2 0)), some (.int view), some (.int group), some (.ref (X.2.2 13)), none]) rfl ?_
  refine pv_aload_n (q := 1) C dL_countOf_0 rfl rfl rfl ?_
  refine pv_iconst (q := 2) (v := 0) C dL_countOf_1 rfl (by decide) ?_
  refine pv_aload_n (q := 3) C dL_countOf_2 rfl rfl rfl ?_
  refine pv_iload_n (q := 4) C dL_countOf_3 rfl rfl rfl ?_
  refine pv_iload_n (q := 5) C dL_countOf_4 rfl rfl rfl ?_
  refine pv_callVixH (q := 8) (rest := [.int 0, .ref (X.2.2 13)]) C Z hKl (c_X6_countOf l X D P (hKl ▸ hfl2) M W h view group) tw_899 (show kd 0 = 6 from rfl) (by decide) rfl mm_X6_countOf ⟨rfl, rfl⟩ (by rw [hKR]; exact ⟨Nat.le_of_ble_eq_true rfl, Nat.le_of_ble_eq_true rfl⟩) (by rw [hKR]; exact ⟨Nat.le_of_ble_eq_true rfl, Nat.le_of_ble_eq_true rfl⟩) rfl rfl rfl (Nat.le_of_ble_eq_true rfl) dL_countOf_5 rfl (fun e9 D2 P2 hx => ?_) (fun r D2 P2 hp => ?_)
  ·
    obtain ⟨⟨rfl, hK⟩, hF, hPP⟩ := hx
    refine ⟨[], ⟨0, 10, 13, 13⟩, [], hT, (fun z hz => nomatch hz), by decide, by decide, tw_622, NG_c Z (List.mem_of_getElem? (i := 2) rfl), fun q9 => ?_⟩
    refine pv_astore (q := 15) C dL_countOf_13 rfl (Nat.le_of_ble_eq_true rfl) rfl ?_
    refine pv_iconst (q := 16) (v := 1) C dL_countOf_15 rfl (by decide) ?_
    exact XK.of (pv_iret C (WQ_no h hK (by decide) hF hPP) (by omega) (by omega) dL_countOf_16)
  ·
    obtain ⟨hK, hr, hF, rfl⟩ := hp
    refine pv_i2l (q := 9) C dL_countOf_8 rfl ?_
    refine pv_last (q := 10) C rfl dL_countOf_9 rfl ?_
    refine pv_goto (tgt := 17) C dL_countOf_10 (by decide) ?_
    refine pv_iconst (q := 18) (v := 0) C dL_countOf_17 rfl (by decide) ?_
    exact XK.of (pv_iret C (WQ_look h hK hF rfl (by rw [← hr])) (by omega) (by omega) dL_countOf_18)
theorem mw_L_countOf : MSW yL_countOf cL_countOf 5 (some .int) [(0, 10, 13, 13)] 4 := ⟨tw_897, tw_0, tw_898, ⟨by decide +kernel, by decide +kernel⟩, by decide +kernel⟩
set_option maxRecDepth 100000 in
set_option maxHeartbeats 4000000 in
theorem c_L_sumOf (l : Launch) (X : XT) (D : DT) (P : PT) (hfl : l.stackTraces = false) (M : DT) (W : Nat) (h : RI D P M W) (view group : Int32) : LG l X yL_sumOf cL_sumOf 5 [(0, 10, 13, 13)] ({ frames := 9, cells := 2, slots := 12, locals := 324 } : Room) [.ref (X.2.2 0), .int view, .int group, .ref (X.2.2 13)] (fun r D' P' => WQ (kGr view group) ((sm (VF (M 7) (ix view) (ix group)) (VN (M 7) (ix view) (ix group)) : Int32).toInt64) M M D W r D' P') D P 2 12 := by
  refine lg_of (by decide +kernel) (Nat.le_of_ble_eq_true rfl) ?_
  intro K hKl hKR C hT Z hNC
  have hfl2 : K.2.1.stackTraces = false := by rw [hKl]; exact hfl
  refine PV_lv (lv' := [some (.ref (X.2.2 0)), some (.int view), some (.int group), some (.ref (X.2.2 13)), none]) rfl ?_
  refine pv_aload_n (q := 1) C dL_sumOf_0 rfl rfl rfl ?_
  refine pv_iconst (q := 2) (v := 0) C dL_sumOf_1 rfl (by decide) ?_
  refine pv_aload_n (q := 3) C dL_sumOf_2 rfl rfl rfl ?_
  refine pv_iload_n (q := 4) C dL_sumOf_3 rfl rfl rfl ?_
  refine pv_iload_n (q := 5) C dL_sumOf_4 rfl rfl rfl ?_
  refine pv_callVixH (q := 8) (rest := [.int 0, .ref (X.2.2 13)]) C Z hKl (c_X6_sumOf l X D P (hKl ▸ hfl2) M W h view group) tw_906 (show kd 0 = 6 from rfl) (by decide) rfl mm_X6_sumOf ⟨rfl, rfl⟩ (by rw [hKR]; exact ⟨Nat.le_of_ble_eq_true rfl, Nat.le_of_ble_eq_true rfl⟩) (by rw [hKR]; exact ⟨Nat.le_of_ble_eq_true rfl, Nat.le_of_ble_eq_true rfl⟩) rfl rfl rfl (Nat.le_of_ble_eq_true rfl) dL_sumOf_5 rfl (fun e9 D2 P2 hx => ?_) (fun r D2 P2 hp => ?_)
  ·
    obtain ⟨⟨rfl, hK⟩, hF, hPP⟩ := hx
    refine ⟨[], ⟨0, 10, 13, 13⟩, [], hT, (fun z hz => nomatch hz), by decide, by decide, tw_622, NG_c Z (List.mem_of_getElem? (i := 2) rfl), fun q9 => ?_⟩
    refine pv_astore (q := 15) C dL_sumOf_13 rfl (Nat.le_of_ble_eq_true rfl) rfl ?_
    refine pv_iconst (q := 16) (v := 1) C dL_sumOf_15 rfl (by decide) ?_
    exact XK.of (pv_iret C (WQ_no h hK (by decide) hF hPP) (by omega) (by omega) dL_sumOf_16)
  ·
    obtain ⟨hK, hr, hF, rfl⟩ := hp
    refine pv_i2l (q := 9) C dL_sumOf_8 rfl ?_
    refine pv_last (q := 10) C rfl dL_sumOf_9 rfl ?_
    refine pv_goto (tgt := 17) C dL_sumOf_10 (by decide) ?_
    refine pv_iconst (q := 18) (v := 0) C dL_sumOf_17 rfl (by decide) ?_
    exact XK.of (pv_iret C (WQ_look h hK hF rfl (by rw [← hr])) (by omega) (by omega) dL_sumOf_18)
theorem mw_L_sumOf : MSW yL_sumOf cL_sumOf 5 (some .int) [(0, 10, 13, 13)] 4 := ⟨tw_904, tw_0, tw_905, ⟨by decide +kernel, by decide +kernel⟩, by decide +kernel⟩
set_option maxRecDepth 100000 in
set_option maxHeartbeats 4000000 in
theorem c_L_leastOf (l : Launch) (X : XT) (D : DT) (P : PT) (hfl : l.stackTraces = false) (M : DT) (W : Nat) (h : RI D P M W) (view group : Int32) : LG l X yL_leastOf cL_leastOf 5 [(0, 10, 13, 13), (0, 10, 17, 17)] ({ frames := 9, cells := 3, slots := 18, locals := 324 } : Room) [.ref (X.2.2 0), .int view, .int group, .ref (X.2.2 13)] (fun r D' P' => WQ (kAm (M 7) view group) ((at0 (VF (M 7) (ix view) (ix group)) (VN (M 7) (ix view) (ix group)) (0) : Int32).toInt64) M M D W r D' P') D P 3 18 := by
  refine lg_of (by decide +kernel) (Nat.le_of_ble_eq_true rfl) ?_
  intro K hKl hKR C hT Z hNC
  have hfl2 : K.2.1.stackTraces = false := by rw [hKl]; exact hfl
  refine PV_lv (lv' := [some (.ref (X.2.2 0)), some (.int view), some (.int group), some (.ref (X.2.2 13)), none]) rfl ?_
  refine pv_aload_n (q := 1) C dL_leastOf_0 rfl rfl rfl ?_
  refine pv_iconst (q := 2) (v := 0) C dL_leastOf_1 rfl (by decide) ?_
  refine pv_aload_n (q := 3) C dL_leastOf_2 rfl rfl rfl ?_
  refine pv_iload_n (q := 4) C dL_leastOf_3 rfl rfl rfl ?_
  refine pv_iload_n (q := 5) C dL_leastOf_4 rfl rfl rfl ?_
  refine pv_callVixH (q := 8) (rest := [.int 0, .ref (X.2.2 13)]) C Z hKl (c_X6_leastOf l X D P (hKl ▸ hfl2) M W h view group) tw_913 (show kd 0 = 6 from rfl) (by decide) rfl mm_X6_leastOf ⟨rfl, rfl⟩ (by rw [hKR]; exact ⟨Nat.le_of_ble_eq_true rfl, Nat.le_of_ble_eq_true rfl⟩) (by rw [hKR]; exact ⟨Nat.le_of_ble_eq_true rfl, Nat.le_of_ble_eq_true rfl⟩) rfl rfl rfl (Nat.le_of_ble_eq_true rfl) dL_leastOf_5 rfl (fun e9 D2 P2 hx => ?_) (fun r D2 P2 hp => ?_)
  ·
    obtain ⟨hx, hF, hPP⟩ := hx
    rcases hx with ⟨rfl, hK⟩ | ⟨rfl, hK⟩
    ·
      refine ⟨[], ⟨0, 10, 13, 13⟩, [⟨0, 10, 17, 17⟩], hT, (fun z hz => nomatch hz), by decide, by decide, tw_622, NG_c Z (List.mem_of_getElem? (i := 2) rfl), fun q9 => ?_⟩
      refine pv_astore (q := 15) C dL_leastOf_13 rfl (Nat.le_of_ble_eq_true rfl) rfl ?_
      refine pv_iconst (q := 16) (v := 1) C dL_leastOf_15 rfl (by decide) ?_
      exact XK.of (pv_iret C (WQ_no h hK (by decide) hF hPP) (by omega) (by omega) dL_leastOf_16)
    ·
      refine ⟨[⟨0, 10, 13, 13⟩], ⟨0, 10, 17, 17⟩, [], hT, (fun z hz => by
              simp only [List.mem_cons, List.not_mem_nil, or_false] at hz
              rcases hz with rfl
              · exact Or.inr ⟨by decide, eIOE, tw_622, hNC.2.1⟩), by decide, by decide, tw_624, NG_c Z (List.mem_of_getElem? (i := 1) rfl), fun q9 => ?_⟩
      refine pv_astore (q := 19) C dL_leastOf_17 rfl (Nat.le_of_ble_eq_true rfl) rfl ?_
      refine pv_iconst (q := 20) (v := 2) C dL_leastOf_19 rfl (by decide) ?_
      exact XK.of (pv_iret C (WQ_no h hK (by decide) hF hPP) (by omega) (by omega) dL_leastOf_20)
  ·
    obtain ⟨hK, hr, hF, rfl⟩ := hp
    refine pv_i2l (q := 9) C dL_leastOf_8 rfl ?_
    refine pv_last (q := 10) C rfl dL_leastOf_9 rfl ?_
    refine pv_goto (tgt := 21) C dL_leastOf_10 (by decide) ?_
    refine pv_iconst (q := 22) (v := 0) C dL_leastOf_21 rfl (by decide) ?_
    exact XK.of (pv_iret C (WQ_look h hK hF rfl (by rw [← hr])) (by omega) (by omega) dL_leastOf_22)
theorem mw_L_leastOf : MSW yL_leastOf cL_leastOf 5 (some .int) [(0, 10, 13, 13), (0, 10, 17, 17)] 4 := ⟨tw_911, tw_0, tw_912, ⟨by decide +kernel, by decide +kernel⟩, by decide +kernel⟩
set_option maxRecDepth 100000 in
set_option maxHeartbeats 4000000 in
theorem c_L_greatestOf (l : Launch) (X : XT) (D : DT) (P : PT) (hfl : l.stackTraces = false) (M : DT) (W : Nat) (h : RI D P M W) (view group : Int32) : LG l X yL_greatestOf cL_greatestOf 5 [(0, 10, 13, 13), (0, 10, 17, 17)] ({ frames := 9, cells := 3, slots := 18, locals := 324 } : Room) [.ref (X.2.2 0), .int view, .int group, .ref (X.2.2 13)] (fun r D' P' => WQ (kAm (M 7) view group) ((at0 (VF (M 7) (ix view) (ix group)) (VN (M 7) (ix view) (ix group)) (VN (M 7) (ix view) (ix group) - 1) : Int32).toInt64) M M D W r D' P') D P 3 18 := by
  refine lg_of (by decide +kernel) (Nat.le_of_ble_eq_true rfl) ?_
  intro K hKl hKR C hT Z hNC
  have hfl2 : K.2.1.stackTraces = false := by rw [hKl]; exact hfl
  refine PV_lv (lv' := [some (.ref (X.2.2 0)), some (.int view), some (.int group), some (.ref (X.2.2 13)), none]) rfl ?_
  refine pv_aload_n (q := 1) C dL_greatestOf_0 rfl rfl rfl ?_
  refine pv_iconst (q := 2) (v := 0) C dL_greatestOf_1 rfl (by decide) ?_
  refine pv_aload_n (q := 3) C dL_greatestOf_2 rfl rfl rfl ?_
  refine pv_iload_n (q := 4) C dL_greatestOf_3 rfl rfl rfl ?_
  refine pv_iload_n (q := 5) C dL_greatestOf_4 rfl rfl rfl ?_
  refine pv_callVixH (q := 8) (rest := [.int 0, .ref (X.2.2 13)]) C Z hKl (c_X6_greatestOf l X D P (hKl ▸ hfl2) M W h view group) tw_924 (show kd 0 = 6 from rfl) (by decide) rfl mm_X6_greatestOf ⟨rfl, rfl⟩ (by rw [hKR]; exact ⟨Nat.le_of_ble_eq_true rfl, Nat.le_of_ble_eq_true rfl⟩) (by rw [hKR]; exact ⟨Nat.le_of_ble_eq_true rfl, Nat.le_of_ble_eq_true rfl⟩) rfl rfl rfl (Nat.le_of_ble_eq_true rfl) dL_greatestOf_5 rfl (fun e9 D2 P2 hx => ?_) (fun r D2 P2 hp => ?_)
  ·
    obtain ⟨hx, hF, hPP⟩ := hx
    rcases hx with ⟨rfl, hK⟩ | ⟨rfl, hK⟩
    ·
      refine ⟨[], ⟨0, 10, 13, 13⟩, [⟨0, 10, 17, 17⟩], hT, (fun z hz => nomatch hz), by decide, by decide, tw_622, NG_c Z (List.mem_of_getElem? (i := 2) rfl), fun q9 => ?_⟩
      refine pv_astore (q := 15) C dL_greatestOf_13 rfl (Nat.le_of_ble_eq_true rfl) rfl ?_
      refine pv_iconst (q := 16) (v := 1) C dL_greatestOf_15 rfl (by decide) ?_
      exact XK.of (pv_iret C (WQ_no h hK (by decide) hF hPP) (by omega) (by omega) dL_greatestOf_16)
    ·
      refine ⟨[⟨0, 10, 13, 13⟩], ⟨0, 10, 17, 17⟩, [], hT, (fun z hz => by
              simp only [List.mem_cons, List.not_mem_nil, or_false] at hz
              rcases hz with rfl
              · exact Or.inr ⟨by decide, eIOE, tw_622, hNC.2.1⟩), by decide, by decide, tw_624, NG_c Z (List.mem_of_getElem? (i := 1) rfl), fun q9 => ?_⟩
      refine pv_astore (q := 19) C dL_greatestOf_17 rfl (Nat.le_of_ble_eq_true rfl) rfl ?_
      refine pv_iconst (q := 20) (v := 2) C dL_greatestOf_19 rfl (by decide) ?_
      exact XK.of (pv_iret C (WQ_no h hK (by decide) hF hPP) (by omega) (by omega) dL_greatestOf_20)
  ·
    obtain ⟨hK, hr, hF, rfl⟩ := hp
    refine pv_i2l (q := 9) C dL_greatestOf_8 rfl ?_
    refine pv_last (q := 10) C rfl dL_greatestOf_9 rfl ?_
    refine pv_goto (tgt := 21) C dL_greatestOf_10 (by decide) ?_
    refine pv_iconst (q := 22) (v := 0) C dL_greatestOf_21 rfl (by decide) ?_
    exact XK.of (pv_iret C (WQ_look h hK hF rfl (by rw [← hr])) (by omega) (by omega) dL_greatestOf_22)
theorem mw_L_greatestOf : MSW yL_greatestOf cL_greatestOf 5 (some .int) [(0, 10, 13, 13), (0, 10, 17, 17)] 4 := ⟨tw_922, tw_0, tw_923, ⟨by decide +kernel, by decide +kernel⟩, by decide +kernel⟩
set_option maxRecDepth 100000 in
set_option maxHeartbeats 4000000 in
theorem c_L_medianOf (l : Launch) (X : XT) (D : DT) (P : PT) (hfl : l.stackTraces = false) (M : DT) (W : Nat) (h : RI D P M W) (view group : Int32) : LG l X yL_medianOf cL_medianOf 5 [(0, 10, 13, 13), (0, 10, 17, 17)] ({ frames := 9, cells := 3, slots := 18, locals := 324 } : Room) [.ref (X.2.2 0), .int view, .int group, .ref (X.2.2 13)] (fun r D' P' => WQ (kAm (M 7) view group) ((at0 (VF (M 7) (ix view) (ix group)) (VN (M 7) (ix view) (ix group)) ((VN (M 7) (ix view) (ix group) - 1) / 2) : Int32).toInt64) M M D W r D' P') D P 3 18 := by
  refine lg_of (by decide +kernel) (Nat.le_of_ble_eq_true rfl) ?_
  intro K hKl hKR C hT Z hNC
  have hfl2 : K.2.1.stackTraces = false := by rw [hKl]; exact hfl
  refine PV_lv (lv' := [some (.ref (X.2.2 0)), some (.int view), some (.int group), some (.ref (X.2.2 13)), none]) rfl ?_
  refine pv_aload_n (q := 1) C dL_medianOf_0 rfl rfl rfl ?_
  refine pv_iconst (q := 2) (v := 0) C dL_medianOf_1 rfl (by decide) ?_
  refine pv_aload_n (q := 3) C dL_medianOf_2 rfl rfl rfl ?_
  refine pv_iload_n (q := 4) C dL_medianOf_3 rfl rfl rfl ?_
  refine pv_iload_n (q := 5) C dL_medianOf_4 rfl rfl rfl ?_
  refine pv_callVixH (q := 8) (rest := [.int 0, .ref (X.2.2 13)]) C Z hKl (c_X6_medianOf l X D P (hKl ▸ hfl2) M W h view group) tw_931 (show kd 0 = 6 from rfl) (by decide) rfl mm_X6_medianOf ⟨rfl, rfl⟩ (by rw [hKR]; exact ⟨Nat.le_of_ble_eq_true rfl, Nat.le_of_ble_eq_true rfl⟩) (by rw [hKR]; exact ⟨Nat.le_of_ble_eq_true rfl, Nat.le_of_ble_eq_true rfl⟩) rfl rfl rfl (Nat.le_of_ble_eq_true rfl) dL_medianOf_5 rfl (fun e9 D2 P2 hx => ?_) (fun r D2 P2 hp => ?_)
  ·
    obtain ⟨hx, hF, hPP⟩ := hx
    rcases hx with ⟨rfl, hK⟩ | ⟨rfl, hK⟩
    ·
      refine ⟨[], ⟨0, 10, 13, 13⟩, [⟨0, 10, 17, 17⟩], hT, (fun z hz => nomatch hz), by decide, by decide, tw_622, NG_c Z (List.mem_of_getElem? (i := 2) rfl), fun q9 => ?_⟩
      refine pv_astore (q := 15) C dL_medianOf_13 rfl (Nat.le_of_ble_eq_true rfl) rfl ?_
      refine pv_iconst (q := 16) (v := 1) C dL_medianOf_15 rfl (by decide) ?_
      exact XK.of (pv_iret C (WQ_no h hK (by decide) hF hPP) (by omega) (by omega) dL_medianOf_16)
    ·
      refine ⟨[⟨0, 10, 13, 13⟩], ⟨0, 10, 17, 17⟩, [], hT, (fun z hz => by
              simp only [List.mem_cons, List.not_mem_nil, or_false] at hz
              rcases hz with rfl
              · exact Or.inr ⟨by decide, eIOE, tw_622, hNC.2.1⟩), by decide, by decide, tw_624, NG_c Z (List.mem_of_getElem? (i := 1) rfl), fun q9 => ?_⟩
      refine pv_astore (q := 19) C dL_medianOf_17 rfl (Nat.le_of_ble_eq_true rfl) rfl ?_
      refine pv_iconst (q := 20) (v := 2) C dL_medianOf_19 rfl (by decide) ?_
      exact XK.of (pv_iret C (WQ_no h hK (by decide) hF hPP) (by omega) (by omega) dL_medianOf_20)
  ·
    obtain ⟨hK, hr, hF, rfl⟩ := hp
    refine pv_i2l (q := 9) C dL_medianOf_8 rfl ?_
    refine pv_last (q := 10) C rfl dL_medianOf_9 rfl ?_
    refine pv_goto (tgt := 21) C dL_medianOf_10 (by decide) ?_
    refine pv_iconst (q := 22) (v := 0) C dL_medianOf_21 rfl (by decide) ?_
    exact XK.of (pv_iret C (WQ_look h hK hF rfl (by rw [← hr])) (by omega) (by omega) dL_medianOf_22)
theorem mw_L_medianOf : MSW yL_medianOf cL_medianOf 5 (some .int) [(0, 10, 13, 13), (0, 10, 17, 17)] 4 := ⟨tw_929, tw_0, tw_930, ⟨by decide +kernel, by decide +kernel⟩, by decide +kernel⟩
set_option maxRecDepth 100000 in
set_option maxHeartbeats 4000000 in
theorem c_L_rankOf (l : Launch) (X : XT) (D : DT) (P : PT) (hfl : l.stackTraces = false) (M : DT) (W : Nat) (h : RI D P M W) (view group amount : Int32) : LG l X yL_rankOf cL_rankOf 6 [(0, 12, 15, 13), (0, 12, 19, 15)] ({ frames := 9, cells := 3, slots := 18, locals := 324 } : Room) [.ref (X.2.2 0), .int view, .int group, .int amount, .ref (X.2.2 13)] (fun r D' P' => WQ (kRk view group amount) ((nI (bl (VF (M 7) (ix view) (ix group)) (VN (M 7) (ix view) (ix group)) amount) : Int32).toInt64) M M D W r D' P') D P 3 18 := by
  refine lg_of (by decide +kernel) (Nat.le_of_ble_eq_true rfl) ?_
  intro K hKl hKR C hT Z hNC
  have hfl2 : K.2.1.stackTraces = false := by rw [hKl]; exact hfl
  refine PV_lv (lv' := [some (.ref (X.2.2 0)), some (.int view), some (.int group), some (.int amount), some (.ref (X.2.2 13)), none]) rfl ?_
  refine pv_aload (q := 2) C dL_rankOf_0 rfl rfl ?_
  refine pv_iconst (q := 3) (v := 0) C dL_rankOf_2 rfl (by decide) ?_
  refine pv_aload_n (q := 4) C dL_rankOf_3 rfl rfl rfl ?_
  refine pv_iload_n (q := 5) C dL_rankOf_4 rfl rfl rfl ?_
  refine pv_iload_n (q := 6) C dL_rankOf_5 rfl rfl rfl ?_
  refine pv_iload_n (q := 7) C dL_rankOf_6 rfl rfl rfl ?_
  refine pv_callVixH (q := 10) (rest := [.int 0, .ref (X.2.2 13)]) C Z hKl (c_X6_rankOf l X D P (hKl ▸ hfl2) M W h view group amount) tw_938 (show kd 0 = 6 from rfl) (by decide) rfl mm_X6_rankOf ⟨rfl, rfl⟩ (by rw [hKR]; exact ⟨Nat.le_of_ble_eq_true rfl, Nat.le_of_ble_eq_true rfl⟩) (by rw [hKR]; exact ⟨Nat.le_of_ble_eq_true rfl, Nat.le_of_ble_eq_true rfl⟩) rfl rfl rfl (Nat.le_of_ble_eq_true rfl) dL_rankOf_7 rfl (fun e9 D2 P2 hx => ?_) (fun r D2 P2 hp => ?_)
  ·
    obtain ⟨hx, hF, hPP⟩ := hx
    rcases hx with ⟨rfl, hK⟩ | ⟨rfl, hK⟩
    ·
      refine ⟨[], ⟨0, 12, 15, 13⟩, [⟨0, 12, 19, 15⟩], hT, (fun z hz => nomatch hz), by decide, by decide, tw_622, NG_c Z (List.mem_of_getElem? (i := 2) rfl), fun q9 => ?_⟩
      refine pv_astore (q := 17) C dL_rankOf_15 rfl (Nat.le_of_ble_eq_true rfl) rfl ?_
      refine pv_iconst (q := 18) (v := 1) C dL_rankOf_17 rfl (by decide) ?_
      exact XK.of (pv_iret C (WQ_no h hK (by decide) hF hPP) (by omega) (by omega) dL_rankOf_18)
    ·
      refine ⟨[⟨0, 12, 15, 13⟩], ⟨0, 12, 19, 15⟩, [], hT, (fun z hz => by
              simp only [List.mem_cons, List.not_mem_nil, or_false] at hz
              rcases hz with rfl
              · exact Or.inr ⟨by decide, eIOE, tw_622, hNC.1⟩), by decide, by decide, tw_623, NG_c Z (List.mem_of_getElem? (i := 3) rfl), fun q9 => ?_⟩
      refine pv_astore (q := 21) C dL_rankOf_19 rfl (Nat.le_of_ble_eq_true rfl) rfl ?_
      refine pv_iconst (q := 22) (v := 2) C dL_rankOf_21 rfl (by decide) ?_
      exact XK.of (pv_iret C (WQ_no h hK (by decide) hF hPP) (by omega) (by omega) dL_rankOf_22)
  ·
    obtain ⟨hK, hr, hF, rfl⟩ := hp
    refine pv_i2l (q := 11) C dL_rankOf_10 rfl ?_
    refine pv_last (q := 12) C rfl dL_rankOf_11 rfl ?_
    refine pv_goto (tgt := 23) C dL_rankOf_12 (by decide) ?_
    refine pv_iconst (q := 24) (v := 0) C dL_rankOf_23 rfl (by decide) ?_
    exact XK.of (pv_iret C (WQ_look h hK hF rfl (by rw [← hr])) (by omega) (by omega) dL_rankOf_24)
theorem mw_L_rankOf : MSW yL_rankOf cL_rankOf 6 (some .int) [(0, 12, 15, 13), (0, 12, 19, 15)] 5 := ⟨tw_936, tw_0, tw_937, ⟨by decide +kernel, by decide +kernel⟩, by decide +kernel⟩
set_option maxRecDepth 100000 in
set_option maxHeartbeats 4000000 in
theorem c_L_unlikeOf (l : Launch) (X : XT) (D : DT) (P : PT) (hfl : l.stackTraces = false) (M : DT) (W : Nat) (h : RI D P M W) (view group : Int32) : LG l X yL_unlikeOf cL_unlikeOf 5 [(0, 10, 13, 13)] ({ frames := 9, cells := 2, slots := 12, locals := 324 } : Room) [.ref (X.2.2 0), .int view, .int group, .ref (X.2.2 13)] (fun r D' P' => WQ (kGr view group) ((nI (kn (VF (M 7) (ix view) (ix group)) (VN (M 7) (ix view) (ix group))) : Int32).toInt64) M M D W r D' P') D P 2 12 := by
  refine lg_of (by decide +kernel) (Nat.le_of_ble_eq_true rfl) ?_
  intro K hKl hKR C hT Z hNC
  have hfl2 : K.2.1.stackTraces = false := by rw [hKl]; exact hfl
  refine PV_lv (lv' := [some (.ref (X.2.2 0)), some (.int view), some (.int group), some (.ref (X.2.2 13)), none]) rfl ?_
  refine pv_aload_n (q := 1) C dL_unlikeOf_0 rfl rfl rfl ?_
  refine pv_iconst (q := 2) (v := 0) C dL_unlikeOf_1 rfl (by decide) ?_
  refine pv_aload_n (q := 3) C dL_unlikeOf_2 rfl rfl rfl ?_
  refine pv_iload_n (q := 4) C dL_unlikeOf_3 rfl rfl rfl ?_
  refine pv_iload_n (q := 5) C dL_unlikeOf_4 rfl rfl rfl ?_
  refine pv_callVixH (q := 8) (rest := [.int 0, .ref (X.2.2 13)]) C Z hKl (c_X6_unlikeOf l X D P (hKl ▸ hfl2) M W h view group) tw_945 (show kd 0 = 6 from rfl) (by decide) rfl mm_X6_unlikeOf ⟨rfl, rfl⟩ (by rw [hKR]; exact ⟨Nat.le_of_ble_eq_true rfl, Nat.le_of_ble_eq_true rfl⟩) (by rw [hKR]; exact ⟨Nat.le_of_ble_eq_true rfl, Nat.le_of_ble_eq_true rfl⟩) rfl rfl rfl (Nat.le_of_ble_eq_true rfl) dL_unlikeOf_5 rfl (fun e9 D2 P2 hx => ?_) (fun r D2 P2 hp => ?_)
  ·
    obtain ⟨⟨rfl, hK⟩, hF, hPP⟩ := hx
    refine ⟨[], ⟨0, 10, 13, 13⟩, [], hT, (fun z hz => nomatch hz), by decide, by decide, tw_622, NG_c Z (List.mem_of_getElem? (i := 2) rfl), fun q9 => ?_⟩
    refine pv_astore (q := 15) C dL_unlikeOf_13 rfl (Nat.le_of_ble_eq_true rfl) rfl ?_
    refine pv_iconst (q := 16) (v := 1) C dL_unlikeOf_15 rfl (by decide) ?_
    exact XK.of (pv_iret C (WQ_no h hK (by decide) hF hPP) (by omega) (by omega) dL_unlikeOf_16)
  ·
    obtain ⟨hK, hr, hF, rfl⟩ := hp
    refine pv_i2l (q := 9) C dL_unlikeOf_8 rfl ?_
    refine pv_last (q := 10) C rfl dL_unlikeOf_9 rfl ?_
    refine pv_goto (tgt := 17) C dL_unlikeOf_10 (by decide) ?_
    refine pv_iconst (q := 18) (v := 0) C dL_unlikeOf_17 rfl (by decide) ?_
    exact XK.of (pv_iret C (WQ_look h hK hF rfl (by rw [← hr])) (by omega) (by omega) dL_unlikeOf_18)
theorem mw_L_unlikeOf : MSW yL_unlikeOf cL_unlikeOf 5 (some .int) [(0, 10, 13, 13)] 4 := ⟨tw_943, tw_0, tw_944, ⟨by decide +kernel, by decide +kernel⟩, by decide +kernel⟩
set_option maxRecDepth 100000 in
set_option maxHeartbeats 4000000 in
theorem c_L_countInTable (l : Launch) (X : XT) (D : DT) (P : PT) (hfl : l.stackTraces = false) (M : DT) (W : Nat) (h : RI D P M W) (view group : Int32) : LG l X yL_countInTable cL_countInTable 5 [(0, 10, 13, 13)] ({ frames := 9, cells := 2, slots := 12, locals := 324 } : Room) [.ref (X.2.2 0), .int view, .int group, .ref (X.2.2 13)] (fun r D' P' => WQ (kGr view group) ((nI (TN (M 7) (ix view) (ix group)) : Int32).toInt64) M M D W r D' P') D P 2 12 := by
  refine lg_of (by decide +kernel) (Nat.le_of_ble_eq_true rfl) ?_
  intro K hKl hKR C hT Z hNC
  have hfl2 : K.2.1.stackTraces = false := by rw [hKl]; exact hfl
  refine PV_lv (lv' := [some (.ref (X.2.2 0)), some (.int view), some (.int group), some (.ref (X.2.2 13)), none]) rfl ?_
  refine pv_aload_n (q := 1) C dL_countInTable_0 rfl rfl rfl ?_
  refine pv_iconst (q := 2) (v := 0) C dL_countInTable_1 rfl (by decide) ?_
  refine pv_aload_n (q := 3) C dL_countInTable_2 rfl rfl rfl ?_
  refine pv_iload_n (q := 4) C dL_countInTable_3 rfl rfl rfl ?_
  refine pv_iload_n (q := 5) C dL_countInTable_4 rfl rfl rfl ?_
  refine pv_callVixH (q := 8) (rest := [.int 0, .ref (X.2.2 13)]) C Z hKl (c_X6_countInTable l X D P (hKl ▸ hfl2) M W h view group) tw_952 (show kd 0 = 6 from rfl) (by decide) rfl mm_X6_countInTable ⟨rfl, rfl⟩ (by rw [hKR]; exact ⟨Nat.le_of_ble_eq_true rfl, Nat.le_of_ble_eq_true rfl⟩) (by rw [hKR]; exact ⟨Nat.le_of_ble_eq_true rfl, Nat.le_of_ble_eq_true rfl⟩) rfl rfl rfl (Nat.le_of_ble_eq_true rfl) dL_countInTable_5 rfl (fun e9 D2 P2 hx => ?_) (fun r D2 P2 hp => ?_)
  ·
    obtain ⟨⟨rfl, hK⟩, hF, hPP⟩ := hx
    refine ⟨[], ⟨0, 10, 13, 13⟩, [], hT, (fun z hz => nomatch hz), by decide, by decide, tw_622, NG_c Z (List.mem_of_getElem? (i := 2) rfl), fun q9 => ?_⟩
    refine pv_astore (q := 15) C dL_countInTable_13 rfl (Nat.le_of_ble_eq_true rfl) rfl ?_
    refine pv_iconst (q := 16) (v := 1) C dL_countInTable_15 rfl (by decide) ?_
    exact XK.of (pv_iret C (WQ_no h hK (by decide) hF hPP) (by omega) (by omega) dL_countInTable_16)
  ·
    obtain ⟨hK, hr, hF, rfl⟩ := hp
    refine pv_i2l (q := 9) C dL_countInTable_8 rfl ?_
    refine pv_last (q := 10) C rfl dL_countInTable_9 rfl ?_
    refine pv_goto (tgt := 17) C dL_countInTable_10 (by decide) ?_
    refine pv_iconst (q := 18) (v := 0) C dL_countInTable_17 rfl (by decide) ?_
    exact XK.of (pv_iret C (WQ_look h hK hF rfl (by rw [← hr])) (by omega) (by omega) dL_countInTable_18)
theorem mw_L_countInTable : MSW yL_countInTable cL_countInTable 5 (some .int) [(0, 10, 13, 13)] 4 := ⟨tw_950, tw_0, tw_951, ⟨by decide +kernel, by decide +kernel⟩, by decide +kernel⟩
set_option maxRecDepth 100000 in
set_option maxHeartbeats 4000000 in
theorem c_L_sumInTable (l : Launch) (X : XT) (D : DT) (P : PT) (hfl : l.stackTraces = false) (M : DT) (W : Nat) (h : RI D P M W) (view group : Int32) : LG l X yL_sumInTable cL_sumInTable 5 [(0, 10, 13, 13)] ({ frames := 9, cells := 2, slots := 12, locals := 324 } : Room) [.ref (X.2.2 0), .int view, .int group, .ref (X.2.2 13)] (fun r D' P' => WQ (kGr view group) ((sm (TF (M 7) (ix view) (ix group)) (TN (M 7) (ix view) (ix group)) : Int32).toInt64) M M D W r D' P') D P 2 12 := by
  refine lg_of (by decide +kernel) (Nat.le_of_ble_eq_true rfl) ?_
  intro K hKl hKR C hT Z hNC
  have hfl2 : K.2.1.stackTraces = false := by rw [hKl]; exact hfl
  refine PV_lv (lv' := [some (.ref (X.2.2 0)), some (.int view), some (.int group), some (.ref (X.2.2 13)), none]) rfl ?_
  refine pv_aload_n (q := 1) C dL_sumInTable_0 rfl rfl rfl ?_
  refine pv_iconst (q := 2) (v := 0) C dL_sumInTable_1 rfl (by decide) ?_
  refine pv_aload_n (q := 3) C dL_sumInTable_2 rfl rfl rfl ?_
  refine pv_iload_n (q := 4) C dL_sumInTable_3 rfl rfl rfl ?_
  refine pv_iload_n (q := 5) C dL_sumInTable_4 rfl rfl rfl ?_
  refine pv_callVixH (q := 8) (rest := [.int 0, .ref (X.2.2 13)]) C Z hKl (c_X6_sumInTable l X D P (hKl ▸ hfl2) M W h view group) tw_959 (show kd 0 = 6 from rfl) (by decide) rfl mm_X6_sumInTable ⟨rfl, rfl⟩ (by rw [hKR]; exact ⟨Nat.le_of_ble_eq_true rfl, Nat.le_of_ble_eq_true rfl⟩) (by rw [hKR]; exact ⟨Nat.le_of_ble_eq_true rfl, Nat.le_of_ble_eq_true rfl⟩) rfl rfl rfl (Nat.le_of_ble_eq_true rfl) dL_sumInTable_5 rfl (fun e9 D2 P2 hx => ?_) (fun r D2 P2 hp => ?_)
  ·
    obtain ⟨⟨rfl, hK⟩, hF, hPP⟩ := hx
    refine ⟨[], ⟨0, 10, 13, 13⟩, [], hT, (fun z hz => nomatch hz), by decide, by decide, tw_622, NG_c Z (List.mem_of_getElem? (i := 2) rfl), fun q9 => ?_⟩
    refine pv_astore (q := 15) C dL_sumInTable_13 rfl (Nat.le_of_ble_eq_true rfl) rfl ?_
    refine pv_iconst (q := 16) (v := 1) C dL_sumInTable_15 rfl (by decide) ?_
    exact XK.of (pv_iret C (WQ_no h hK (by decide) hF hPP) (by omega) (by omega) dL_sumInTable_16)
  ·
    obtain ⟨hK, hr, hF, rfl⟩ := hp
    refine pv_i2l (q := 9) C dL_sumInTable_8 rfl ?_
    refine pv_last (q := 10) C rfl dL_sumInTable_9 rfl ?_
    refine pv_goto (tgt := 17) C dL_sumInTable_10 (by decide) ?_
    refine pv_iconst (q := 18) (v := 0) C dL_sumInTable_17 rfl (by decide) ?_
    exact XK.of (pv_iret C (WQ_look h hK hF rfl (by rw [← hr])) (by omega) (by omega) dL_sumInTable_18)
theorem mw_L_sumInTable : MSW yL_sumInTable cL_sumInTable 5 (some .int) [(0, 10, 13, 13)] 4 := ⟨tw_957, tw_0, tw_958, ⟨by decide +kernel, by decide +kernel⟩, by decide +kernel⟩
set_option maxRecDepth 100000 in
set_option maxHeartbeats 4000000 in
theorem c_L_medianInTable (l : Launch) (X : XT) (D : DT) (P : PT) (hfl : l.stackTraces = false) (M : DT) (W : Nat) (h : RI D P M W) (view group : Int32) : LG l X yL_medianInTable cL_medianInTable 5 [(0, 10, 13, 13), (0, 10, 17, 17)] ({ frames := 9, cells := 3, slots := 18, locals := 324 } : Room) [.ref (X.2.2 0), .int view, .int group, .ref (X.2.2 13)] (fun r D' P' => WQ (kAt (M 7) view group) ((at0 (TF (M 7) (ix view) (ix group)) (TN (M 7) (ix view) (ix group)) ((TN (M 7) (ix view) (ix group) - 1) / 2) : Int32).toInt64) M M D W r D' P') D P 3 18 := by
  refine lg_of (by decide +kernel) (Nat.le_of_ble_eq_true rfl) ?_
  intro K hKl hKR C hT Z hNC
  have hfl2 : K.2.1.stackTraces = false := by rw [hKl]; exact hfl
  refine PV_lv (lv' := [some (.ref (X.2.2 0)), some (.int view), some (.int group), some (.ref (X.2.2 13)), none]) rfl ?_
  refine pv_aload_n (q := 1) C dL_medianInTable_0 rfl rfl rfl ?_
  refine pv_iconst (q := 2) (v := 0) C dL_medianInTable_1 rfl (by decide) ?_
  refine pv_aload_n (q := 3) C dL_medianInTable_2 rfl rfl rfl ?_
  refine pv_iload_n (q := 4) C dL_medianInTable_3 rfl rfl rfl ?_
  refine pv_iload_n (q := 5) C dL_medianInTable_4 rfl rfl rfl ?_
  refine pv_callVixH (q := 8) (rest := [.int 0, .ref (X.2.2 13)]) C Z hKl (c_X6_medianInTable l X D P (hKl ▸ hfl2) M W h view group) tw_966 (show kd 0 = 6 from rfl) (by decide) rfl mm_X6_medianInTable ⟨rfl, rfl⟩ (by rw [hKR]; exact ⟨Nat.le_of_ble_eq_true rfl, Nat.le_of_ble_eq_true rfl⟩) (by rw [hKR]; exact ⟨Nat.le_of_ble_eq_true rfl, Nat.le_of_ble_eq_true rfl⟩) rfl rfl rfl (Nat.le_of_ble_eq_true rfl) dL_medianInTable_5 rfl (fun e9 D2 P2 hx => ?_) (fun r D2 P2 hp => ?_)
  ·
    obtain ⟨hx, hF, hPP⟩ := hx
    rcases hx with ⟨rfl, hK⟩ | ⟨rfl, hK⟩
    ·
      refine ⟨[], ⟨0, 10, 13, 13⟩, [⟨0, 10, 17, 17⟩], hT, (fun z hz => nomatch hz), by decide, by decide, tw_622, NG_c Z (List.mem_of_getElem? (i := 2) rfl), fun q9 => ?_⟩
      refine pv_astore (q := 15) C dL_medianInTable_13 rfl (Nat.le_of_ble_eq_true rfl) rfl ?_
      refine pv_iconst (q := 16) (v := 1) C dL_medianInTable_15 rfl (by decide) ?_
      exact XK.of (pv_iret C (WQ_no h hK (by decide) hF hPP) (by omega) (by omega) dL_medianInTable_16)
    ·
      refine ⟨[⟨0, 10, 13, 13⟩], ⟨0, 10, 17, 17⟩, [], hT, (fun z hz => by
              simp only [List.mem_cons, List.not_mem_nil, or_false] at hz
              rcases hz with rfl
              · exact Or.inr ⟨by decide, eIOE, tw_622, hNC.2.1⟩), by decide, by decide, tw_624, NG_c Z (List.mem_of_getElem? (i := 1) rfl), fun q9 => ?_⟩
      refine pv_astore (q := 19) C dL_medianInTable_17 rfl (Nat.le_of_ble_eq_true rfl) rfl ?_
      refine pv_iconst (q := 20) (v := 2) C dL_medianInTable_19 rfl (by decide) ?_
      exact XK.of (pv_iret C (WQ_no h hK (by decide) hF hPP) (by omega) (by omega) dL_medianInTable_20)
  ·
    obtain ⟨hK, hr, hF, rfl⟩ := hp
    refine pv_i2l (q := 9) C dL_medianInTable_8 rfl ?_
    refine pv_last (q := 10) C rfl dL_medianInTable_9 rfl ?_
    refine pv_goto (tgt := 21) C dL_medianInTable_10 (by decide) ?_
    refine pv_iconst (q := 22) (v := 0) C dL_medianInTable_21 rfl (by decide) ?_
    exact XK.of (pv_iret C (WQ_look h hK hF rfl (by rw [← hr])) (by omega) (by omega) dL_medianInTable_22)
theorem mw_L_medianInTable : MSW yL_medianInTable cL_medianInTable 5 (some .int) [(0, 10, 13, 13), (0, 10, 17, 17)] 4 := ⟨tw_964, tw_0, tw_965, ⟨by decide +kernel, by decide +kernel⟩, by decide +kernel⟩
set_option maxRecDepth 100000 in
set_option maxHeartbeats 4000000 in
theorem c_L_rankInTable (l : Launch) (X : XT) (D : DT) (P : PT) (hfl : l.stackTraces = false) (M : DT) (W : Nat) (h : RI D P M W) (view group amount : Int32) : LG l X yL_rankInTable cL_rankInTable 6 [(0, 12, 15, 13), (0, 12, 19, 15)] ({ frames := 9, cells := 3, slots := 18, locals := 324 } : Room) [.ref (X.2.2 0), .int view, .int group, .int amount, .ref (X.2.2 13)] (fun r D' P' => WQ (kRk view group amount) ((nI (bl (TF (M 7) (ix view) (ix group)) (TN (M 7) (ix view) (ix group)) amount) : Int32).toInt64) M M D W r D' P') D P 3 18 := by
  refine lg_of (by decide +kernel) (Nat.le_of_ble_eq_true rfl) ?_
  intro K hKl hKR C hT Z hNC
  have hfl2 : K.2.1.stackTraces = false := by rw [hKl]; exact hfl
  refine PV_lv (lv' := [some (.ref (X.2.2 0)), some (.int view), some (.int group), some (.int amount), some (.ref (X.2.2 13)), none]) rfl ?_
  refine pv_aload (q := 2) C dL_rankInTable_0 rfl rfl ?_
  refine pv_iconst (q := 3) (v := 0) C dL_rankInTable_2 rfl (by decide) ?_
  refine pv_aload_n (q := 4) C dL_rankInTable_3 rfl rfl rfl ?_
  refine pv_iload_n (q := 5) C dL_rankInTable_4 rfl rfl rfl ?_
  refine pv_iload_n (q := 6) C dL_rankInTable_5 rfl rfl rfl ?_
  refine pv_iload_n (q := 7) C dL_rankInTable_6 rfl rfl rfl ?_
  refine pv_callVixH (q := 10) (rest := [.int 0, .ref (X.2.2 13)]) C Z hKl (c_X6_rankInTable l X D P (hKl ▸ hfl2) M W h view group amount) tw_973 (show kd 0 = 6 from rfl) (by decide) rfl mm_X6_rankInTable ⟨rfl, rfl⟩ (by rw [hKR]; exact ⟨Nat.le_of_ble_eq_true rfl, Nat.le_of_ble_eq_true rfl⟩) (by rw [hKR]; exact ⟨Nat.le_of_ble_eq_true rfl, Nat.le_of_ble_eq_true rfl⟩) rfl rfl rfl (Nat.le_of_ble_eq_true rfl) dL_rankInTable_7 rfl (fun e9 D2 P2 hx => ?_) (fun r D2 P2 hp => ?_)
  ·
    obtain ⟨hx, hF, hPP⟩ := hx
    rcases hx with ⟨rfl, hK⟩ | ⟨rfl, hK⟩
    ·
      refine ⟨[], ⟨0, 12, 15, 13⟩, [⟨0, 12, 19, 15⟩], hT, (fun z hz => nomatch hz), by decide, by decide, tw_622, NG_c Z (List.mem_of_getElem? (i := 2) rfl), fun q9 => ?_⟩
      refine pv_astore (q := 17) C dL_rankInTable_15 rfl (Nat.le_of_ble_eq_true rfl) rfl ?_
      refine pv_iconst (q := 18) (v := 1) C dL_rankInTable_17 rfl (by decide) ?_
      exact XK.of (pv_iret C (WQ_no h hK (by decide) hF hPP) (by omega) (by omega) dL_rankInTable_18)
    ·
      refine ⟨[⟨0, 12, 15, 13⟩], ⟨0, 12, 19, 15⟩, [], hT, (fun z hz => by
              simp only [List.mem_cons, List.not_mem_nil, or_false] at hz
              rcases hz with rfl
              · exact Or.inr ⟨by decide, eIOE, tw_622, hNC.1⟩), by decide, by decide, tw_623, NG_c Z (List.mem_of_getElem? (i := 3) rfl), fun q9 => ?_⟩
      refine pv_astore (q := 21) C dL_rankInTable_19 rfl (Nat.le_of_ble_eq_true rfl) rfl ?_
      refine pv_iconst (q := 22) (v := 2) C dL_rankInTable_21 rfl (by decide) ?_
      exact XK.of (pv_iret C (WQ_no h hK (by decide) hF hPP) (by omega) (by omega) dL_rankInTable_22)
  ·
    obtain ⟨hK, hr, hF, rfl⟩ := hp
    refine pv_i2l (q := 11) C dL_rankInTable_10 rfl ?_
    refine pv_last (q := 12) C rfl dL_rankInTable_11 rfl ?_
    refine pv_goto (tgt := 23) C dL_rankInTable_12 (by decide) ?_
    refine pv_iconst (q := 24) (v := 0) C dL_rankInTable_23 rfl (by decide) ?_
    exact XK.of (pv_iret C (WQ_look h hK hF rfl (by rw [← hr])) (by omega) (by omega) dL_rankInTable_24)
theorem mw_L_rankInTable : MSW yL_rankInTable cL_rankInTable 6 (some .int) [(0, 12, 15, 13), (0, 12, 19, 15)] 5 := ⟨tw_971, tw_0, tw_972, ⟨by decide +kernel, by decide +kernel⟩, by decide +kernel⟩
set_option maxRecDepth 100000 in
set_option maxHeartbeats 4000000 in
theorem c_L_unlikeGroups (l : Launch) (X : XT) (D : DT) (P : PT) (hfl : l.stackTraces = false) (M : DT) (W : Nat) (h : RI D P M W) (view : Int32) : LG l X yL_unlikeGroups cL_unlikeGroups 4 [(0, 9, 12, 13)] ({ frames := 8, cells := 1, slots := 6, locals := 288 } : Room) [.ref (X.2.2 0), .int view, .ref (X.2.2 13)] (fun r D' P' => WQ (kView view) ((umN (M 7) (ix view) 4 : Int32).toInt64) M M D W r D' P') D P 1 6 := by
  refine lg_of (by decide +kernel) (Nat.le_of_ble_eq_true rfl) ?_
  intro K hKl hKR C hT Z hNC
  have hfl2 : K.2.1.stackTraces = false := by rw [hKl]; exact hfl
  refine PV_lv (lv' := [some (.ref (X.2.2 0)), some (.int view), some (.ref (X.2.2 13)), none]) rfl ?_
  refine pv_aload_n (q := 1) C dL_unlikeGroups_0 rfl rfl rfl ?_
  refine pv_iconst (q := 2) (v := 0) C dL_unlikeGroups_1 rfl (by decide) ?_
  refine pv_aload_n (q := 3) C dL_unlikeGroups_2 rfl rfl rfl ?_
  refine pv_iload_n (q := 4) C dL_unlikeGroups_3 rfl rfl rfl ?_
  refine pv_callVixH (q := 7) (rest := [.int 0, .ref (X.2.2 13)]) C Z hKl (c_X6_unlikeGroups l X D P (hKl ▸ hfl2) M W h view) tw_980 (show kd 0 = 6 from rfl) (by decide) rfl mm_X6_unlikeGroups ⟨rfl, rfl⟩ (by rw [hKR]; exact ⟨Nat.le_of_ble_eq_true rfl, Nat.le_of_ble_eq_true rfl⟩) (by rw [hKR]; exact ⟨Nat.le_of_ble_eq_true rfl, Nat.le_of_ble_eq_true rfl⟩) rfl rfl rfl (Nat.le_of_ble_eq_true rfl) dL_unlikeGroups_4 rfl (fun e9 D2 P2 hx => ?_) (fun r D2 P2 hp => ?_)
  ·
    obtain ⟨⟨rfl, hK⟩, hF, hPP⟩ := hx
    refine ⟨[], ⟨0, 9, 12, 13⟩, [], hT, (fun z hz => nomatch hz), by decide, by decide, tw_622, NG_c Z (List.mem_of_getElem? (i := 2) rfl), fun q9 => ?_⟩
    refine pv_astore_n (q := 13) C dL_unlikeGroups_12 rfl rfl (Nat.le_of_ble_eq_true rfl) rfl ?_
    refine pv_iconst (q := 14) (v := 1) C dL_unlikeGroups_13 rfl (by decide) ?_
    exact XK.of (pv_iret C (WQ_no h hK (by decide) hF hPP) (by omega) (by omega) dL_unlikeGroups_14)
  ·
    obtain ⟨hK, hr, hF, rfl⟩ := hp
    refine pv_i2l (q := 8) C dL_unlikeGroups_7 rfl ?_
    refine pv_last (q := 9) C rfl dL_unlikeGroups_8 rfl ?_
    refine pv_goto (tgt := 15) C dL_unlikeGroups_9 (by decide) ?_
    refine pv_iconst (q := 16) (v := 0) C dL_unlikeGroups_15 rfl (by decide) ?_
    exact XK.of (pv_iret C (WQ_look h hK hF rfl (by rw [← hr])) (by omega) (by omega) dL_unlikeGroups_16)
theorem mw_L_unlikeGroups : MSW yL_unlikeGroups cL_unlikeGroups 4 (some .int) [(0, 9, 12, 13)] 3 := ⟨tw_978, tw_0, tw_979, ⟨by decide +kernel, by decide +kernel⟩, by decide +kernel⟩
set_option maxRecDepth 100000 in
set_option maxHeartbeats 4000000 in
theorem c_L_unlikeIfWoken (l : Launch) (X : XT) (D : DT) (P : PT) (hfl : l.stackTraces = false) (M : DT) (W : Nat) (h : RI D P M W) (view : Int32) : LG l X yL_unlikeIfWoken cL_unlikeIfWoken 4 [(0, 9, 12, 13)] ({ frames := 8, cells := 1, slots := 6, locals := 288 } : Room) [.ref (X.2.2 0), .int view, .ref (X.2.2 13)] (fun r D' P' => WQ (kView view) ((0 : Int32).toInt64) M M D W r D' P') D P 1 6 := by
  refine lg_of (by decide +kernel) (Nat.le_of_ble_eq_true rfl) ?_
  intro K hKl hKR C hT Z hNC
  have hfl2 : K.2.1.stackTraces = false := by rw [hKl]; exact hfl
  refine PV_lv (lv' := [some (.ref (X.2.2 0)), some (.int view), some (.ref (X.2.2 13)), none]) rfl ?_
  refine pv_aload_n (q := 1) C dL_unlikeIfWoken_0 rfl rfl rfl ?_
  refine pv_iconst (q := 2) (v := 0) C dL_unlikeIfWoken_1 rfl (by decide) ?_
  refine pv_aload_n (q := 3) C dL_unlikeIfWoken_2 rfl rfl rfl ?_
  refine pv_iload_n (q := 4) C dL_unlikeIfWoken_3 rfl rfl rfl ?_
  refine pv_callVixH (q := 7) (rest := [.int 0, .ref (X.2.2 13)]) C Z hKl (c_X6_unlikeIfWoken l X D P (hKl ▸ hfl2) M W h view) tw_984 (show kd 0 = 6 from rfl) (by decide) rfl mm_X6_unlikeIfWoken ⟨rfl, rfl⟩ (by rw [hKR]; exact ⟨Nat.le_of_ble_eq_true rfl, Nat.le_of_ble_eq_true rfl⟩) (by rw [hKR]; exact ⟨Nat.le_of_ble_eq_true rfl, Nat.le_of_ble_eq_true rfl⟩) rfl rfl rfl (Nat.le_of_ble_eq_true rfl) dL_unlikeIfWoken_4 rfl (fun e9 D2 P2 hx => ?_) (fun r D2 P2 hp => ?_)
  ·
    obtain ⟨⟨rfl, hK⟩, hF, hPP⟩ := hx
    refine ⟨[], ⟨0, 9, 12, 13⟩, [], hT, (fun z hz => nomatch hz), by decide, by decide, tw_622, NG_c Z (List.mem_of_getElem? (i := 2) rfl), fun q9 => ?_⟩
    refine pv_astore_n (q := 13) C dL_unlikeIfWoken_12 rfl rfl (Nat.le_of_ble_eq_true rfl) rfl ?_
    refine pv_iconst (q := 14) (v := 1) C dL_unlikeIfWoken_13 rfl (by decide) ?_
    exact XK.of (pv_iret C (WQ_no h hK (by decide) hF hPP) (by omega) (by omega) dL_unlikeIfWoken_14)
  ·
    obtain ⟨hK, hr, hF, rfl⟩ := hp
    refine pv_i2l (q := 8) C dL_unlikeIfWoken_7 rfl ?_
    refine pv_last (q := 9) C rfl dL_unlikeIfWoken_8 rfl ?_
    refine pv_goto (tgt := 15) C dL_unlikeIfWoken_9 (by decide) ?_
    refine pv_iconst (q := 16) (v := 0) C dL_unlikeIfWoken_15 rfl (by decide) ?_
    exact XK.of (pv_iret C (WQ_look h hK hF rfl (by rw [← hr])) (by omega) (by omega) dL_unlikeIfWoken_16)
theorem mw_L_unlikeIfWoken : MSW yL_unlikeIfWoken cL_unlikeIfWoken 4 (some .int) [(0, 9, 12, 13)] 3 := ⟨tw_982, tw_0, tw_983, ⟨by decide +kernel, by decide +kernel⟩, by decide +kernel⟩
set_option maxRecDepth 100000 in
set_option maxHeartbeats 4000000 in
theorem c_L_wakesIn (l : Launch) (X : XT) (D : DT) (P : PT) (hfl : l.stackTraces = false) (M : DT) (W : Nat) (h : RI D P M W) (view : Int32) : LG l X yL_wakesIn cL_wakesIn 4 [(0, 9, 12, 13)] ({ frames := 8, cells := 1, slots := 6, locals := 288 } : Room) [.ref (X.2.2 0), .int view, .ref (X.2.2 13)] (fun r D' P' => WQ (kView view) ((wks (M 7) (ix view) : Int32).toInt64) M M D W r D' P') D P 1 6 := by
  refine lg_of (by decide +kernel) (Nat.le_of_ble_eq_true rfl) ?_
  intro K hKl hKR C hT Z hNC
  have hfl2 : K.2.1.stackTraces = false := by rw [hKl]; exact hfl
  refine PV_lv (lv' := [some (.ref (X.2.2 0)), some (.int view), some (.ref (X.2.2 13)), none]) rfl ?_
  refine pv_aload_n (q := 1) C dL_wakesIn_0 rfl rfl rfl ?_
  refine pv_iconst (q := 2) (v := 0) C dL_wakesIn_1 rfl (by decide) ?_
  refine pv_aload_n (q := 3) C dL_wakesIn_2 rfl rfl rfl ?_
  refine pv_iload_n (q := 4) C dL_wakesIn_3 rfl rfl rfl ?_
  refine pv_callVixH (q := 7) (rest := [.int 0, .ref (X.2.2 13)]) C Z hKl (c_X6_wakesIn l X D P (hKl ▸ hfl2) M W h view) tw_988 (show kd 0 = 6 from rfl) (by decide) rfl mm_X6_wakesIn ⟨rfl, rfl⟩ (by rw [hKR]; exact ⟨Nat.le_of_ble_eq_true rfl, Nat.le_of_ble_eq_true rfl⟩) (by rw [hKR]; exact ⟨Nat.le_of_ble_eq_true rfl, Nat.le_of_ble_eq_true rfl⟩) rfl rfl rfl (Nat.le_of_ble_eq_true rfl) dL_wakesIn_4 rfl (fun e9 D2 P2 hx => ?_) (fun r D2 P2 hp => ?_)
  ·
    obtain ⟨⟨rfl, hK⟩, hF, hPP⟩ := hx
    refine ⟨[], ⟨0, 9, 12, 13⟩, [], hT, (fun z hz => nomatch hz), by decide, by decide, tw_622, NG_c Z (List.mem_of_getElem? (i := 2) rfl), fun q9 => ?_⟩
    refine pv_astore_n (q := 13) C dL_wakesIn_12 rfl rfl (Nat.le_of_ble_eq_true rfl) rfl ?_
    refine pv_iconst (q := 14) (v := 1) C dL_wakesIn_13 rfl (by decide) ?_
    exact XK.of (pv_iret C (WQ_no h hK (by decide) hF hPP) (by omega) (by omega) dL_wakesIn_14)
  ·
    obtain ⟨hK, hr, hF, rfl⟩ := hp
    refine pv_i2l (q := 8) C dL_wakesIn_7 rfl ?_
    refine pv_last (q := 9) C rfl dL_wakesIn_8 rfl ?_
    refine pv_goto (tgt := 15) C dL_wakesIn_9 (by decide) ?_
    refine pv_iconst (q := 16) (v := 0) C dL_wakesIn_15 rfl (by decide) ?_
    exact XK.of (pv_iret C (WQ_look h hK hF rfl (by rw [← hr])) (by omega) (by omega) dL_wakesIn_16)
theorem mw_L_wakesIn : MSW yL_wakesIn cL_wakesIn 4 (some .int) [(0, 9, 12, 13)] 3 := ⟨tw_986, tw_0, tw_987, ⟨by decide +kernel, by decide +kernel⟩, by decide +kernel⟩
