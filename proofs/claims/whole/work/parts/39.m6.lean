set_option maxRecDepth 100000 in
set_option maxHeartbeats 4000000 in
theorem c_X7_readRow105 (l : Launch) (X : XT) (D : DT) (P : PT) (n a : Nat) (ht : txt D n a) (hd : D 6 12 = 0 ∨ D 6 12 = 1) (hg : D 6 11 = 1) (hrw : RH D 2)  : CG l X yX7_readRow (.code yX7_readRow cX7_readRow 5 (some .int) :: AW) ({ frames := 5, cells := 0, slots := 0, locals := 180 } : Room) [.ref (X.2.2 6), .int 105] (qI X (fun r D' P' => D' = pres D (pRow (D 12) n 105 a) ∧ P = P')) D P 0 0 := by
  refine cg_of (by decide +kernel) (Nat.le_of_ble_eq_true rfl) ?_
  intro K hKl hKR C
  refine PV_lv (lv' := [some (.ref (X.2.2 6)), some (.int 105), none, none, none]) rfl ?_
  refine pv_aload_n (q := 1) C dX7_readRow_0 rfl rfl rfl ?_ 
  refine pv_iconst (q := 2) (v := 0) C dX7_readRow_1 rfl (by decide) ?_ 
  refine pv_bipush (q := 4) (v := 15) C dX7_readRow_2 rfl (by decide) ?_ 
  refine pv_callVi (q := 7) C hKl (c_X7_number0 l X D P n a (ht) 15 (by decide) (hg)) tw_1227 k6 (by decide) rfl mm_X7_number ⟨rfl, rfl⟩ (by rw [hKR]; exact ⟨Nat.le_of_ble_eq_true rfl, Nat.le_of_ble_eq_true rfl⟩) (by rw [hKR]; exact ⟨Nat.le_of_ble_eq_true rfl, Nat.le_of_ble_eq_true rfl⟩) rfl rfl rfl (Nat.le_of_ble_eq_true rfl) dX7_readRow_4 rfl (fun r4 D4 P4 hp4 => ?_) 
  rcases hp4 with ⟨⟨v4, b4, hN4, hb4, hv4, rfl, hR4⟩ | ⟨hN4, rfl, hR4⟩, rfl⟩
  · have e4 : D4 = pd D b4 1 := hR4
    have x4 : D4 12 = D 12 := by rw [hR4]; exact pd_o _ _ _ (by decide)
    have w4 : txt D4 n b4 := by rw [hR4]; exact txt_pd ht hb4 1
    refine pv_istore_n (q := 8) C dX7_readRow_7 rfl rfl (Nat.le_of_ble_eq_true rfl) rfl ?_ 
    refine pv_iload_n (q := 9) C dX7_readRow_8 rfl rfl rfl ?_ 
    refine pv_bipush (q := 11) (v := 105) C dX7_readRow_9 rfl (by decide) ?_ 
    refine pv_icmp_ne (q := 14) (tgt := 61) C dX7_readRow_11 (by decide) rfl (fun h => absurd h (by decide)) (fun _ => ?_) 
    refine pv_aload_n (q := 15) C dX7_readRow_14 rfl rfl rfl ?_ 
    refine pv_callVi (q := 18) C hKl (c_X7_letter1 l X D4 P n b4 w4 (by rw [e4]; exact pd_g _ _ _)) tw_1232 k6 (by decide) rfl mm_X7_letter ⟨rfl, rfl⟩ (by rw [hKR]; exact ⟨Nat.le_of_ble_eq_true rfl, Nat.le_of_ble_eq_true rfl⟩) (by rw [hKR]; exact ⟨Nat.le_of_ble_eq_true rfl, Nat.le_of_ble_eq_true rfl⟩) rfl rfl rfl (Nat.le_of_ble_eq_true rfl) dX7_readRow_15 rfl (fun r15 D15 P15 hp15 => ?_) 
    rcases hp15 with ⟨⟨hG15, hb15, hg15, hR15⟩ | ⟨hG15, hR15⟩, rfl⟩
    · have e15 : D15 = pd D (b4 + 1) 1 := by rw [hR15, e4, pd_pd]
      rw [x4] at hG15
      have x15 : D15 12 = D 12 := by rw [e15]; exact pd_o _ _ _ (by decide)
      have w15 : txt D15 n (b4 + 1) := by rw [e15]; exact txt_pd ht hb15 1
      refine pv_istore_n (q := 19) C dX7_readRow_18 rfl rfl (Nat.le_of_ble_eq_true rfl) rfl ?_ 
      refine pv_aload_n (q := 20) C dX7_readRow_19 rfl rfl rfl ?_ 
      refine pg_7_11 (q := 23) C k6 tw_1006 dX7_readRow_20 rfl ?_ 
      rw [show D15 6 11 = 1 by rw [e15]; exact pd_g _ _ _]
      refine pv_if_eq (q := 26) (tgt := 33) C dX7_readRow_23 (by decide) rfl (fun h => absurd h (by decide)) (fun _ => ?_) 
      refine pv_aload_n (q := 27) C dX7_readRow_26 rfl rfl rfl ?_ 
      refine pv_callVi (q := 30) C hKl (c_X7_amount l X D15 P n (b4 + 1) w15 (by rw [e15]; exact pd_g _ _ _)) tw_1236 k6 (by decide) rfl mm_X7_amount ⟨rfl, rfl⟩ (by rw [hKR]; exact ⟨Nat.le_of_ble_eq_true rfl, Nat.le_of_ble_eq_true rfl⟩) (by rw [hKR]; exact ⟨Nat.le_of_ble_eq_true rfl, Nat.le_of_ble_eq_true rfl⟩) rfl rfl rfl (Nat.le_of_ble_eq_true rfl) dX7_readRow_27 rfl (fun r27 D27 P27 hp27 => ?_) 
      rcases hp27 with ⟨⟨b27, hA27, hb27, hR27⟩ | ⟨b27, hb27, hA27, hR27⟩, rfl⟩
      · have e27 : D27 = pd D b27 1 := by rw [hR27, e15, pd_pd]
        rw [x15] at hA27
        refine pv_goto (tgt := 34) C dX7_readRow_30 (by decide) ?_ 
        refine pv_istore (q := 36) C dX7_readRow_34 rfl (Nat.le_of_ble_eq_true rfl) rfl ?_ 
        refine pv_aload_n (q := 37) C dX7_readRow_36 rfl rfl rfl ?_ 
        refine pv_aload_n (q := 38) C dX7_readRow_37 rfl rfl rfl ?_ 
        refine pv_iload_n (q := 39) C dX7_readRow_38 rfl rfl rfl ?_ 
        refine pv_callVi (q := 42) C hKl (c_X7_vacant l X D27 P _ (by omega)) tw_1065 k6 (by decide) rfl mm_X7_vacant ⟨rfl, rfl⟩ (by rw [hKR]; exact ⟨Nat.le_of_ble_eq_true rfl, Nat.le_of_ble_eq_true rfl⟩) (by rw [hKR]; exact ⟨Nat.le_of_ble_eq_true rfl, Nat.le_of_ble_eq_true rfl⟩) rfl rfl rfl (Nat.le_of_ble_eq_true rfl) dX7_readRow_39 rfl (fun r39 D39 P39 hp39 => ?_) 
        rcases hp39 with ⟨⟨hy39, rfl⟩ | ⟨hn39, rfl⟩, rfl, rfl⟩
        · have hv : D 7 v4 = 0 := by rw [e27, pd_o _ _ _ (by decide)] at hy39; exact hy39
          refine pv_callVi (q := 45) C hKl (c_X7_happensY l X D27 P (by rw [e27, pd_k _ _ _ (by decide) (by decide)]; exact hd) (by rw [e27]; exact pd_g _ _ _)) tw_1240 k6 (by decide) rfl mm_X7_happens ⟨rfl, rfl⟩ (by rw [hKR]; exact ⟨Nat.le_of_ble_eq_true rfl, Nat.le_of_ble_eq_true rfl⟩) (by rw [hKR]; exact ⟨Nat.le_of_ble_eq_true rfl, Nat.le_of_ble_eq_true rfl⟩) rfl rfl rfl (Nat.le_of_ble_eq_true rfl) dX7_readRow_42 rfl (fun r42 D42 P42 hp42 => ?_) 
          rcases hp42 with ⟨⟨hC42, rfl, hH42⟩ | ⟨hC42, rfl, hH42⟩, rfl⟩
          · have eH : D42 = pd D (b27) 1 := hH42.trans e27
            rw [e27, pd_k _ _ _ (by decide) (by decide), pd_k _ _ _ (by decide) (by decide)] at hC42
            have r7 : D42 7 = D 7 := by rw [eH]; exact pd_o _ _ _ (by decide)
            have hrr := hrw hC42.1 hC42.2
            refine pv_if_eq (q := 48) (tgt := 59) C dX7_readRow_45 (by decide) rfl (fun h => absurd h (by decide)) (fun _ => ?_) 
            refine pv_aload_n (q := 49) C dX7_readRow_48 rfl rfl rfl ?_ 
            refine pv_iload_n (q := 50) C dX7_readRow_49 rfl rfl rfl ?_ 
            refine pv_iload_n (q := 51) C dX7_readRow_50 rfl rfl rfl ?_ 
            refine pv_iload (q := 53) C dX7_readRow_51 rfl rfl ?_ 
            refine pv_callVi (q := 56) C hKl (c_X7_goInsert l X D42 P _ (by omega) _ _ (by rw [r7]; exact hrr.1) (by rw [r7]; exact dl_le hrr.2 (by decide))) tw_1077 k6 (by decide) rfl mm_X7_goInsert ⟨rfl, rfl⟩ (by rw [hKR]; exact ⟨Nat.le_of_ble_eq_true rfl, Nat.le_of_ble_eq_true rfl⟩) (by rw [hKR]; exact ⟨Nat.le_of_ble_eq_true rfl, Nat.le_of_ble_eq_true rfl⟩) rfl rfl rfl (Nat.le_of_ble_eq_true rfl) dX7_readRow_53 rfl (fun r53 D53 P53 hp53 => ?_) 
            obtain ⟨rfl, hR53, rfl⟩ := hp53
            refine pv_goto (tgt := 60) C dX7_readRow_56 (by decide) ?_ 
            exact pv_iret C (⟨by rw [hR53, r7, eH]; exact pres_go (p := (105, v4, r15, r27)) (by unfold pRow; rw [hN4]; dsimp only; rw [if_pos rfl, hG15]; (try dsimp only); rw [hA27]) hC42.1 hC42.2 (by unfold canP; rw [if_pos rfl]; exact decide_eq_true hv) (by unfold goP; rw [if_pos rfl]), rfl⟩) (by decide) (by decide) dX7_readRow_60
          · have eH : D42 = pd D (b27) 1 := hH42.trans e27
            rw [e27, pd_k _ _ _ (by decide) (by decide), pd_k _ _ _ (by decide) (by decide)] at hC42
            refine pv_if_eq (q := 48) (tgt := 59) C dX7_readRow_45 (by decide) rfl (fun _ => ?_) (fun h => absurd h (by decide)) 
            refine pv_iconst (q := 60) (v := 0) C dX7_readRow_59 rfl (by decide) ?_ 
            exact pv_iret C (⟨by rw [eH]; exact pres_skip (by unfold pRow; rw [hN4]; dsimp only; rw [if_pos rfl, hG15]; (try dsimp only); rw [hA27]) hC42, rfl⟩) (by decide) (by decide) dX7_readRow_60
        · have hv : ¬ D 7 v4 = 0 := by rw [e27, pd_o _ _ _ (by decide)] at hn39; exact hn39
          refine pv_callVi (q := 45) C hKl (c_X7_happensZ l X D27 P (by rw [e27, pd_k _ _ _ (by decide) (by decide)]; exact hd) (by rw [e27]; exact pd_g _ _ _)) tw_1240 k6 (by decide) rfl mm_X7_happens ⟨rfl, rfl⟩ (by rw [hKR]; exact ⟨Nat.le_of_ble_eq_true rfl, Nat.le_of_ble_eq_true rfl⟩) (by rw [hKR]; exact ⟨Nat.le_of_ble_eq_true rfl, Nat.le_of_ble_eq_true rfl⟩) rfl rfl rfl (Nat.le_of_ble_eq_true rfl) dX7_readRow_42 rfl (fun r42 D42 P42 hp42 => ?_) 
          rcases hp42 with ⟨⟨hC42, rfl, hH42⟩ | ⟨hC42, rfl, hH42⟩, rfl⟩
          · have eH : D42 = up2 (pd D (b27) 1) 6 13 1 := by rw [hH42, e27]
            rw [e27, pd_k _ _ _ (by decide) (by decide), pd_k _ _ _ (by decide) (by decide)] at hC42
            refine pv_if_eq (q := 48) (tgt := 59) C dX7_readRow_45 (by decide) rfl (fun _ => ?_) (fun h => absurd h (by decide)) 
            refine pv_iconst (q := 60) (v := 0) C dX7_readRow_59 rfl (by decide) ?_ 
            exact pv_iret C (⟨by rw [eH]; exact pres_no (p := (105, v4, r15, r27)) (by unfold pRow; rw [hN4]; dsimp only; rw [if_pos rfl, hG15]; (try dsimp only); rw [hA27]) hC42.1 hC42.2 (by unfold canP; rw [if_pos rfl]; exact decide_eq_false hv), rfl⟩) (by decide) (by decide) dX7_readRow_60
          · have eH : D42 = pd D (b27) 1 := hH42.trans e27
            rw [e27, pd_k _ _ _ (by decide) (by decide), pd_k _ _ _ (by decide) (by decide)] at hC42
            refine pv_if_eq (q := 48) (tgt := 59) C dX7_readRow_45 (by decide) rfl (fun _ => ?_) (fun h => absurd h (by decide)) 
            refine pv_iconst (q := 60) (v := 0) C dX7_readRow_59 rfl (by decide) ?_ 
            exact pv_iret C (⟨by rw [eH]; exact pres_skip (by unfold pRow; rw [hN4]; dsimp only; rw [if_pos rfl, hG15]; (try dsimp only); rw [hA27]) hC42, rfl⟩) (by decide) (by decide) dX7_readRow_60
      · have e27 : D27 = pd D b27 0 := by rw [hR27, e15, pd_pd]
        rw [x15] at hA27
        refine pv_goto (tgt := 34) C dX7_readRow_30 (by decide) ?_ 
        refine pv_istore (q := 36) C dX7_readRow_34 rfl (Nat.le_of_ble_eq_true rfl) rfl ?_ 
        refine pv_aload_n (q := 37) C dX7_readRow_36 rfl rfl rfl ?_ 
        refine pv_aload_n (q := 38) C dX7_readRow_37 rfl rfl rfl ?_ 
        refine pv_iload_n (q := 39) C dX7_readRow_38 rfl rfl rfl ?_ 
        refine pv_callVi (q := 42) C hKl (c_X7_vacant l X D27 P _ (by omega)) tw_1065 k6 (by decide) rfl mm_X7_vacant ⟨rfl, rfl⟩ (by rw [hKR]; exact ⟨Nat.le_of_ble_eq_true rfl, Nat.le_of_ble_eq_true rfl⟩) (by rw [hKR]; exact ⟨Nat.le_of_ble_eq_true rfl, Nat.le_of_ble_eq_true rfl⟩) rfl rfl rfl (Nat.le_of_ble_eq_true rfl) dX7_readRow_39 rfl (fun r39 D39 P39 hp39 => ?_) 
        rcases hp39 with ⟨⟨hy39, rfl⟩ | ⟨hn39, rfl⟩, rfl, rfl⟩
        · have hv : D 7 v4 = 0 := by rw [e27, pd_o _ _ _ (by decide)] at hy39; exact hy39
          refine pv_callVi (q := 45) C hKl (c_X7_happensN l X D27 P _ (by rw [e27]; exact pd_g _ _ _)) tw_1240 k6 (by decide) rfl mm_X7_happens ⟨rfl, rfl⟩ (by rw [hKR]; exact ⟨Nat.le_of_ble_eq_true rfl, Nat.le_of_ble_eq_true rfl⟩) (by rw [hKR]; exact ⟨Nat.le_of_ble_eq_true rfl, Nat.le_of_ble_eq_true rfl⟩) rfl rfl rfl (Nat.le_of_ble_eq_true rfl) dX7_readRow_42 rfl (fun r42 D42 P42 hp42 => ?_) 
          obtain ⟨rfl, hH42, rfl⟩ := hp42
          have eH : D42 = pd D (b27) 0 := hH42.trans e27
          refine pv_if_eq (q := 48) (tgt := 59) C dX7_readRow_45 (by decide) rfl (fun _ => ?_) (fun h => absurd h (by decide)) 
          refine pv_iconst (q := 60) (v := 0) C dX7_readRow_59 rfl (by decide) ?_ 
          exact pv_iret C (⟨by rw [eH]; exact pres_none (by unfold pRow; rw [hN4]; dsimp only; rw [if_pos rfl, hG15]; (try dsimp only); rw [hA27]), rfl⟩) (by decide) (by decide) dX7_readRow_60
        · have hv : ¬ D 7 v4 = 0 := by rw [e27, pd_o _ _ _ (by decide)] at hn39; exact hn39
          refine pv_callVi (q := 45) C hKl (c_X7_happensN l X D27 P _ (by rw [e27]; exact pd_g _ _ _)) tw_1240 k6 (by decide) rfl mm_X7_happens ⟨rfl, rfl⟩ (by rw [hKR]; exact ⟨Nat.le_of_ble_eq_true rfl, Nat.le_of_ble_eq_true rfl⟩) (by rw [hKR]; exact ⟨Nat.le_of_ble_eq_true rfl, Nat.le_of_ble_eq_true rfl⟩) rfl rfl rfl (Nat.le_of_ble_eq_true rfl) dX7_readRow_42 rfl (fun r42 D42 P42 hp42 => ?_) 
          obtain ⟨rfl, hH42, rfl⟩ := hp42
          have eH : D42 = pd D (b27) 0 := hH42.trans e27
          refine pv_if_eq (q := 48) (tgt := 59) C dX7_readRow_45 (by decide) rfl (fun _ => ?_) (fun h => absurd h (by decide)) 
          refine pv_iconst (q := 60) (v := 0) C dX7_readRow_59 rfl (by decide) ?_ 
          exact pv_iret C (⟨by rw [eH]; exact pres_none (by unfold pRow; rw [hN4]; dsimp only; rw [if_pos rfl, hG15]; (try dsimp only); rw [hA27]), rfl⟩) (by decide) (by decide) dX7_readRow_60
    · have e15 : D15 = pd D b4 0 := by rw [hR15, e4, pd_pd]
      rw [x4] at hG15
      refine pv_istore_n (q := 19) C dX7_readRow_18 rfl rfl (Nat.le_of_ble_eq_true rfl) rfl ?_ 
      refine pv_aload_n (q := 20) C dX7_readRow_19 rfl rfl rfl ?_ 
      refine pg_7_11 (q := 23) C k6 tw_1006 dX7_readRow_20 rfl ?_ 
      rw [show D15 6 11 = 0 by rw [e15]; exact pd_g _ _ _]
      refine pv_if_eq (q := 26) (tgt := 33) C dX7_readRow_23 (by decide) rfl (fun _ => ?_) (fun h => absurd h (by decide)) 
      refine pv_iconst (q := 34) (v := 0) C dX7_readRow_33 rfl (by decide) ?_ 
      refine pv_istore (q := 36) C dX7_readRow_34 rfl (Nat.le_of_ble_eq_true rfl) rfl ?_ 
      refine pv_aload_n (q := 37) C dX7_readRow_36 rfl rfl rfl ?_ 
      refine pv_aload_n (q := 38) C dX7_readRow_37 rfl rfl rfl ?_ 
      refine pv_iload_n (q := 39) C dX7_readRow_38 rfl rfl rfl ?_ 
      refine pv_callVi (q := 42) C hKl (c_X7_vacant l X D15 P _ (by omega)) tw_1065 k6 (by decide) rfl mm_X7_vacant ⟨rfl, rfl⟩ (by rw [hKR]; exact ⟨Nat.le_of_ble_eq_true rfl, Nat.le_of_ble_eq_true rfl⟩) (by rw [hKR]; exact ⟨Nat.le_of_ble_eq_true rfl, Nat.le_of_ble_eq_true rfl⟩) rfl rfl rfl (Nat.le_of_ble_eq_true rfl) dX7_readRow_39 rfl (fun r39 D39 P39 hp39 => ?_) 
      rcases hp39 with ⟨⟨hy39, rfl⟩ | ⟨hn39, rfl⟩, rfl, rfl⟩
      · have hv : D 7 v4 = 0 := by rw [e15, pd_o _ _ _ (by decide)] at hy39; exact hy39
        refine pv_callVi (q := 45) C hKl (c_X7_happensN l X D15 P _ (by rw [e15]; exact pd_g _ _ _)) tw_1240 k6 (by decide) rfl mm_X7_happens ⟨rfl, rfl⟩ (by rw [hKR]; exact ⟨Nat.le_of_ble_eq_true rfl, Nat.le_of_ble_eq_true rfl⟩) (by rw [hKR]; exact ⟨Nat.le_of_ble_eq_true rfl, Nat.le_of_ble_eq_true rfl⟩) rfl rfl rfl (Nat.le_of_ble_eq_true rfl) dX7_readRow_42 rfl (fun r42 D42 P42 hp42 => ?_) 
        obtain ⟨rfl, hH42, rfl⟩ := hp42
        have eH : D42 = pd D (b4) 0 := hH42.trans e15
        refine pv_if_eq (q := 48) (tgt := 59) C dX7_readRow_45 (by decide) rfl (fun _ => ?_) (fun h => absurd h (by decide)) 
        refine pv_iconst (q := 60) (v := 0) C dX7_readRow_59 rfl (by decide) ?_ 
        exact pv_iret C (⟨by rw [eH]; exact pres_none (by unfold pRow; rw [hN4]; dsimp only; rw [if_pos rfl, hG15]), rfl⟩) (by decide) (by decide) dX7_readRow_60
      · have hv : ¬ D 7 v4 = 0 := by rw [e15, pd_o _ _ _ (by decide)] at hn39; exact hn39
        refine pv_callVi (q := 45) C hKl (c_X7_happensN l X D15 P _ (by rw [e15]; exact pd_g _ _ _)) tw_1240 k6 (by decide) rfl mm_X7_happens ⟨rfl, rfl⟩ (by rw [hKR]; exact ⟨Nat.le_of_ble_eq_true rfl, Nat.le_of_ble_eq_true rfl⟩) (by rw [hKR]; exact ⟨Nat.le_of_ble_eq_true rfl, Nat.le_of_ble_eq_true rfl⟩) rfl rfl rfl (Nat.le_of_ble_eq_true rfl) dX7_readRow_42 rfl (fun r42 D42 P42 hp42 => ?_) 
        obtain ⟨rfl, hH42, rfl⟩ := hp42
        have eH : D42 = pd D (b4) 0 := hH42.trans e15
        refine pv_if_eq (q := 48) (tgt := 59) C dX7_readRow_45 (by decide) rfl (fun _ => ?_) (fun h => absurd h (by decide)) 
        refine pv_iconst (q := 60) (v := 0) C dX7_readRow_59 rfl (by decide) ?_ 
        exact pv_iret C (⟨by rw [eH]; exact pres_none (by unfold pRow; rw [hN4]; dsimp only; rw [if_pos rfl, hG15]), rfl⟩) (by decide) (by decide) dX7_readRow_60
  · have e4 : D4 = pd D a 0 := hR4
    have w4 : txt D4 n a := by rw [hR4]; exact txt_pd ht ht.2.2.2 0
    refine pv_istore_n (q := 8) C dX7_readRow_7 rfl rfl (Nat.le_of_ble_eq_true rfl) rfl ?_ 
    refine pv_iload_n (q := 9) C dX7_readRow_8 rfl rfl rfl ?_ 
    refine pv_bipush (q := 11) (v := 105) C dX7_readRow_9 rfl (by decide) ?_ 
    refine pv_icmp_ne (q := 14) (tgt := 61) C dX7_readRow_11 (by decide) rfl (fun h => absurd h (by decide)) (fun _ => ?_) 
    refine pv_aload_n (q := 15) C dX7_readRow_14 rfl rfl rfl ?_ 
    refine pv_callVi (q := 18) C hKl (c_X7_letter0 l X D4 P n a w4 (by rw [e4]; exact pd_g _ _ _)) tw_1232 k6 (by decide) rfl mm_X7_letter ⟨rfl, rfl⟩ (by rw [hKR]; exact ⟨Nat.le_of_ble_eq_true rfl, Nat.le_of_ble_eq_true rfl⟩) (by rw [hKR]; exact ⟨Nat.le_of_ble_eq_true rfl, Nat.le_of_ble_eq_true rfl⟩) rfl rfl rfl (Nat.le_of_ble_eq_true rfl) dX7_readRow_15 rfl (fun r15 D15 P15 hp15 => ?_) 
    obtain ⟨rfl, hR15, rfl⟩ := hp15
    have e15 : D15 = pd D a 0 := by rw [hR15, e4, pd_pd]
    refine pv_istore_n (q := 19) C dX7_readRow_18 rfl rfl (Nat.le_of_ble_eq_true rfl) rfl ?_ 
    refine pv_aload_n (q := 20) C dX7_readRow_19 rfl rfl rfl ?_ 
    refine pg_7_11 (q := 23) C k6 tw_1006 dX7_readRow_20 rfl ?_ 
    rw [show D15 6 11 = 0 by rw [e15]; exact pd_g _ _ _]
    refine pv_if_eq (q := 26) (tgt := 33) C dX7_readRow_23 (by decide) rfl (fun _ => ?_) (fun h => absurd h (by decide)) 
    refine pv_iconst (q := 34) (v := 0) C dX7_readRow_33 rfl (by decide) ?_ 
    refine pv_istore (q := 36) C dX7_readRow_34 rfl (Nat.le_of_ble_eq_true rfl) rfl ?_ 
    refine pv_aload_n (q := 37) C dX7_readRow_36 rfl rfl rfl ?_ 
    refine pv_aload_n (q := 38) C dX7_readRow_37 rfl rfl rfl ?_ 
    refine pv_iload_n (q := 39) C dX7_readRow_38 rfl rfl rfl ?_ 
    refine pv_callVi (q := 42) C hKl (c_X7_vacant l X D15 P _ (by omega)) tw_1065 k6 (by decide) rfl mm_X7_vacant ⟨rfl, rfl⟩ (by rw [hKR]; exact ⟨Nat.le_of_ble_eq_true rfl, Nat.le_of_ble_eq_true rfl⟩) (by rw [hKR]; exact ⟨Nat.le_of_ble_eq_true rfl, Nat.le_of_ble_eq_true rfl⟩) rfl rfl rfl (Nat.le_of_ble_eq_true rfl) dX7_readRow_39 rfl (fun r39 D39 P39 hp39 => ?_) 
    rcases hp39 with ⟨⟨hy39, rfl⟩ | ⟨hn39, rfl⟩, rfl, rfl⟩
    · have hv : D 7 0 = 0 := by rw [e15, pd_o _ _ _ (by decide)] at hy39; exact hy39
      refine pv_callVi (q := 45) C hKl (c_X7_happensN l X D15 P _ (by rw [e15]; exact pd_g _ _ _)) tw_1240 k6 (by decide) rfl mm_X7_happens ⟨rfl, rfl⟩ (by rw [hKR]; exact ⟨Nat.le_of_ble_eq_true rfl, Nat.le_of_ble_eq_true rfl⟩) (by rw [hKR]; exact ⟨Nat.le_of_ble_eq_true rfl, Nat.le_of_ble_eq_true rfl⟩) rfl rfl rfl (Nat.le_of_ble_eq_true rfl) dX7_readRow_42 rfl (fun r42 D42 P42 hp42 => ?_) 
      obtain ⟨rfl, hH42, rfl⟩ := hp42
      have eH : D42 = pd D (a) 0 := hH42.trans e15
      refine pv_if_eq (q := 48) (tgt := 59) C dX7_readRow_45 (by decide) rfl (fun _ => ?_) (fun h => absurd h (by decide)) 
      refine pv_iconst (q := 60) (v := 0) C dX7_readRow_59 rfl (by decide) ?_ 
      exact pv_iret C (⟨by rw [eH]; exact pres_none (by unfold pRow; rw [hN4]), rfl⟩) (by decide) (by decide) dX7_readRow_60
    · have hv : ¬ D 7 0 = 0 := by rw [e15, pd_o _ _ _ (by decide)] at hn39; exact hn39
      refine pv_callVi (q := 45) C hKl (c_X7_happensN l X D15 P _ (by rw [e15]; exact pd_g _ _ _)) tw_1240 k6 (by decide) rfl mm_X7_happens ⟨rfl, rfl⟩ (by rw [hKR]; exact ⟨Nat.le_of_ble_eq_true rfl, Nat.le_of_ble_eq_true rfl⟩) (by rw [hKR]; exact ⟨Nat.le_of_ble_eq_true rfl, Nat.le_of_ble_eq_true rfl⟩) rfl rfl rfl (Nat.le_of_ble_eq_true rfl) dX7_readRow_42 rfl (fun r42 D42 P42 hp42 => ?_) 
      obtain ⟨rfl, hH42, rfl⟩ := hp42
      have eH : D42 = pd D (a) 0 := hH42.trans e15
      refine pv_if_eq (q := 48) (tgt := 59) C dX7_readRow_45 (by decide) rfl (fun _ => ?_) (fun h => absurd h (by decide)) 
      refine pv_iconst (q := 60) (v := 0) C dX7_readRow_59 rfl (by decide) ?_ 
      exact pv_iret C (⟨by rw [eH]; exact pres_none (by unfold pRow; rw [hN4]), rfl⟩) (by decide) (by decide) dX7_readRow_60
set_option maxRecDepth 100000 in
set_option maxHeartbeats 4000000 in
theorem c_X7_readRow103 (l : Launch) (X : XT) (D : DT) (P : PT) (n a : Nat) (ht : txt D n a) (hd : D 6 12 = 0 ∨ D 6 12 = 1) (hg : D 6 11 = 1) (hrw : RH D 2)  : CG l X yX7_readRow (.code yX7_readRow cX7_readRow 5 (some .int) :: AW) ({ frames := 5, cells := 0, slots := 0, locals := 180 } : Room) [.ref (X.2.2 6), .int 103] (qI X (fun r D' P' => D' = pres D (pRow (D 12) n 103 a) ∧ P = P')) D P 0 0 := by
  refine cg_of (by decide +kernel) (Nat.le_of_ble_eq_true rfl) ?_
  intro K hKl hKR C
  refine PV_lv (lv' := [some (.ref (X.2.2 6)), some (.int 103), none, none, none]) rfl ?_
  refine pv_aload_n (q := 1) C dX7_readRow_0 rfl rfl rfl ?_ 
  refine pv_iconst (q := 2) (v := 0) C dX7_readRow_1 rfl (by decide) ?_ 
  refine pv_bipush (q := 4) (v := 15) C dX7_readRow_2 rfl (by decide) ?_ 
  refine pv_callVi (q := 7) C hKl (c_X7_number0 l X D P n a (ht) 15 (by decide) (hg)) tw_1227 k6 (by decide) rfl mm_X7_number ⟨rfl, rfl⟩ (by rw [hKR]; exact ⟨Nat.le_of_ble_eq_true rfl, Nat.le_of_ble_eq_true rfl⟩) (by rw [hKR]; exact ⟨Nat.le_of_ble_eq_true rfl, Nat.le_of_ble_eq_true rfl⟩) rfl rfl rfl (Nat.le_of_ble_eq_true rfl) dX7_readRow_4 rfl (fun r4 D4 P4 hp4 => ?_) 
  rcases hp4 with ⟨⟨v4, b4, hN4, hb4, hv4, rfl, hR4⟩ | ⟨hN4, rfl, hR4⟩, rfl⟩
  · have e4 : D4 = pd D b4 1 := hR4
    have x4 : D4 12 = D 12 := by rw [hR4]; exact pd_o _ _ _ (by decide)
    have w4 : txt D4 n b4 := by rw [hR4]; exact txt_pd ht hb4 1
    refine pv_istore_n (q := 8) C dX7_readRow_7 rfl rfl (Nat.le_of_ble_eq_true rfl) rfl ?_ 
    refine pv_iload_n (q := 9) C dX7_readRow_8 rfl rfl rfl ?_ 
    refine pv_bipush (q := 11) (v := 105) C dX7_readRow_9 rfl (by decide) ?_ 
    refine pv_icmp_ne (q := 14) (tgt := 61) C dX7_readRow_11 (by decide) rfl (fun _ => ?_) (fun h => absurd h (by decide)) 
    refine pv_iload_n (q := 62) C dX7_readRow_61 rfl rfl rfl ?_ 
    refine pv_bipush (q := 64) (v := 103) C dX7_readRow_62 rfl (by decide) ?_ 
    refine pv_icmp_ne (q := 67) (tgt := 103) C dX7_readRow_64 (by decide) rfl (fun h => absurd h (by decide)) (fun _ => ?_) 
    refine pv_aload_n (q := 68) C dX7_readRow_67 rfl rfl rfl ?_ 
    refine pv_callVi (q := 71) C hKl (c_X7_letter1 l X D4 P n b4 w4 (by rw [e4]; exact pd_g _ _ _)) tw_1232 k6 (by decide) rfl mm_X7_letter ⟨rfl, rfl⟩ (by rw [hKR]; exact ⟨Nat.le_of_ble_eq_true rfl, Nat.le_of_ble_eq_true rfl⟩) (by rw [hKR]; exact ⟨Nat.le_of_ble_eq_true rfl, Nat.le_of_ble_eq_true rfl⟩) rfl rfl rfl (Nat.le_of_ble_eq_true rfl) dX7_readRow_68 rfl (fun r68 D68 P68 hp68 => ?_) 
    rcases hp68 with ⟨⟨hG68, hb68, hg68, hR68⟩ | ⟨hG68, hR68⟩, rfl⟩
    · have e68 : D68 = pd D (b4 + 1) 1 := by rw [hR68, e4, pd_pd]
      rw [x4] at hG68
      have x68 : D68 12 = D 12 := by rw [e68]; exact pd_o _ _ _ (by decide)
      have w68 : txt D68 n (b4 + 1) := by rw [e68]; exact txt_pd ht hb68 1
      refine pv_istore_n (q := 72) C dX7_readRow_71 rfl rfl (Nat.le_of_ble_eq_true rfl) rfl ?_ 
      refine pv_aload_n (q := 73) C dX7_readRow_72 rfl rfl rfl ?_ 
      refine pv_aload_n (q := 74) C dX7_readRow_73 rfl rfl rfl ?_ 
      refine pv_iload_n (q := 75) C dX7_readRow_74 rfl rfl rfl ?_ 
      refine pv_callVi (q := 78) C hKl (c_X7_vacant l X D68 P _ (by omega)) tw_1065 k6 (by decide) rfl mm_X7_vacant ⟨rfl, rfl⟩ (by rw [hKR]; exact ⟨Nat.le_of_ble_eq_true rfl, Nat.le_of_ble_eq_true rfl⟩) (by rw [hKR]; exact ⟨Nat.le_of_ble_eq_true rfl, Nat.le_of_ble_eq_true rfl⟩) rfl rfl rfl (Nat.le_of_ble_eq_true rfl) dX7_readRow_75 rfl (fun r75 D75 P75 hp75 => ?_) 
      rcases hp75 with ⟨⟨hy75, rfl⟩ | ⟨hn75, rfl⟩, rfl, rfl⟩
      · have hv : D 7 v4 = 0 := by rw [e68, pd_o _ _ _ (by decide)] at hy75; exact hy75
        refine pv_if_ne (q := 81) (tgt := 85) C dX7_readRow_78 (by decide) rfl (fun _ => ?_) (fun h => absurd h (by decide)) 
        refine pv_iconst (q := 86) (v := 0) C dX7_readRow_85 rfl (by decide) ?_ 
        refine pv_callVi (q := 89) C hKl (c_X7_happensZ l X D68 P (by rw [e68, pd_k _ _ _ (by decide) (by decide)]; exact hd) (by rw [e68]; exact pd_g _ _ _)) tw_1240 k6 (by decide) rfl mm_X7_happens ⟨rfl, rfl⟩ (by rw [hKR]; exact ⟨Nat.le_of_ble_eq_true rfl, Nat.le_of_ble_eq_true rfl⟩) (by rw [hKR]; exact ⟨Nat.le_of_ble_eq_true rfl, Nat.le_of_ble_eq_true rfl⟩) rfl rfl rfl (Nat.le_of_ble_eq_true rfl) dX7_readRow_86 rfl (fun r86 D86 P86 hp86 => ?_) 
        rcases hp86 with ⟨⟨hC86, rfl, hH86⟩ | ⟨hC86, rfl, hH86⟩, rfl⟩
        · have eH : D86 = up2 (pd D (b4 + 1) 1) 6 13 1 := by rw [hH86, e68]
          rw [e68, pd_k _ _ _ (by decide) (by decide), pd_k _ _ _ (by decide) (by decide)] at hC86
          refine pv_if_eq (q := 92) (tgt := 101) C dX7_readRow_89 (by decide) rfl (fun _ => ?_) (fun h => absurd h (by decide)) 
          refine pv_iconst (q := 102) (v := 0) C dX7_readRow_101 rfl (by decide) ?_ 
          exact pv_iret C (⟨by rw [eH]; exact pres_no (p := (103, v4, r68, 0)) (by unfold pRow; rw [hN4]; dsimp only; rw [if_neg (by decide), if_pos rfl, hG68]) hC86.1 hC86.2 (by unfold canP; dsimp only; rw [if_neg (by decide), if_pos (by decide)]; exact decide_eq_false (fun z => z hv)), rfl⟩) (by decide) (by decide) dX7_readRow_102
        · have eH : D86 = pd D (b4 + 1) 1 := hH86.trans e68
          rw [e68, pd_k _ _ _ (by decide) (by decide), pd_k _ _ _ (by decide) (by decide)] at hC86
          refine pv_if_eq (q := 92) (tgt := 101) C dX7_readRow_89 (by decide) rfl (fun _ => ?_) (fun h => absurd h (by decide)) 
          refine pv_iconst (q := 102) (v := 0) C dX7_readRow_101 rfl (by decide) ?_ 
          exact pv_iret C (⟨by rw [eH]; exact pres_skip (by unfold pRow; rw [hN4]; dsimp only; rw [if_neg (by decide), if_pos rfl, hG68]) hC86, rfl⟩) (by decide) (by decide) dX7_readRow_102
      · have hv : ¬ D 7 v4 = 0 := by rw [e68, pd_o _ _ _ (by decide)] at hn75; exact hn75
        refine pv_if_ne (q := 81) (tgt := 85) C dX7_readRow_78 (by decide) rfl (fun h => absurd h (by decide)) (fun _ => ?_) 
        refine pv_iconst (q := 82) (v := 1) C dX7_readRow_81 rfl (by decide) ?_ 
        refine pv_goto (tgt := 86) C dX7_readRow_82 (by decide) ?_ 
        refine pv_callVi (q := 89) C hKl (c_X7_happensY l X D68 P (by rw [e68, pd_k _ _ _ (by decide) (by decide)]; exact hd) (by rw [e68]; exact pd_g _ _ _)) tw_1240 k6 (by decide) rfl mm_X7_happens ⟨rfl, rfl⟩ (by rw [hKR]; exact ⟨Nat.le_of_ble_eq_true rfl, Nat.le_of_ble_eq_true rfl⟩) (by rw [hKR]; exact ⟨Nat.le_of_ble_eq_true rfl, Nat.le_of_ble_eq_true rfl⟩) rfl rfl rfl (Nat.le_of_ble_eq_true rfl) dX7_readRow_86 rfl (fun r86 D86 P86 hp86 => ?_) 
        rcases hp86 with ⟨⟨hC86, rfl, hH86⟩ | ⟨hC86, rfl, hH86⟩, rfl⟩
        · have eH : D86 = pd D (b4 + 1) 1 := hH86.trans e68
          rw [e68, pd_k _ _ _ (by decide) (by decide), pd_k _ _ _ (by decide) (by decide)] at hC86
          have r7 : D86 7 = D 7 := by rw [eH]; exact pd_o _ _ _ (by decide)
          have hrr := hrw hC86.1 hC86.2
          refine pv_if_eq (q := 92) (tgt := 101) C dX7_readRow_89 (by decide) rfl (fun h => absurd h (by decide)) (fun _ => ?_) 
          refine pv_aload_n (q := 93) C dX7_readRow_92 rfl rfl rfl ?_ 
          refine pv_iload_n (q := 94) C dX7_readRow_93 rfl rfl rfl ?_ 
          refine pv_iload_n (q := 95) C dX7_readRow_94 rfl rfl rfl ?_ 
          refine pv_callVi (q := 98) C hKl (c_X7_goRegroup l X D86 P _ (by omega) _ (by rw [r7]; exact hrr.1) (by rw [r7]; exact hrr.2)) tw_1124 k6 (by decide) rfl mm_X7_goRegroup ⟨rfl, rfl⟩ (by rw [hKR]; exact ⟨Nat.le_of_ble_eq_true rfl, Nat.le_of_ble_eq_true rfl⟩) (by rw [hKR]; exact ⟨Nat.le_of_ble_eq_true rfl, Nat.le_of_ble_eq_true rfl⟩) rfl rfl rfl (Nat.le_of_ble_eq_true rfl) dX7_readRow_95 rfl (fun r95 D95 P95 hp95 => ?_) 
          obtain ⟨rfl, hR95, rfl⟩ := hp95
          refine pv_goto (tgt := 102) C dX7_readRow_98 (by decide) ?_ 
          exact pv_iret C (⟨by rw [hR95, r7, eH]; exact pres_go (p := (103, v4, r68, 0)) (by unfold pRow; rw [hN4]; dsimp only; rw [if_neg (by decide), if_pos rfl, hG68]) hC86.1 hC86.2 (by unfold canP; dsimp only; rw [if_neg (by decide), if_pos (by decide)]; exact decide_eq_true hv) (by unfold goP; dsimp only; rw [if_neg (by decide), if_pos rfl]), rfl⟩) (by decide) (by decide) dX7_readRow_102
        · have eH : D86 = pd D (b4 + 1) 1 := hH86.trans e68
          rw [e68, pd_k _ _ _ (by decide) (by decide), pd_k _ _ _ (by decide) (by decide)] at hC86
          refine pv_if_eq (q := 92) (tgt := 101) C dX7_readRow_89 (by decide) rfl (fun _ => ?_) (fun h => absurd h (by decide)) 
          refine pv_iconst (q := 102) (v := 0) C dX7_readRow_101 rfl (by decide) ?_ 
          exact pv_iret C (⟨by rw [eH]; exact pres_skip (by unfold pRow; rw [hN4]; dsimp only; rw [if_neg (by decide), if_pos rfl, hG68]) hC86, rfl⟩) (by decide) (by decide) dX7_readRow_102
    · have e68 : D68 = pd D b4 0 := by rw [hR68, e4, pd_pd]
      rw [x4] at hG68
      refine pv_istore_n (q := 72) C dX7_readRow_71 rfl rfl (Nat.le_of_ble_eq_true rfl) rfl ?_ 
      refine pv_aload_n (q := 73) C dX7_readRow_72 rfl rfl rfl ?_ 
      refine pv_aload_n (q := 74) C dX7_readRow_73 rfl rfl rfl ?_ 
      refine pv_iload_n (q := 75) C dX7_readRow_74 rfl rfl rfl ?_ 
      refine pv_callVi (q := 78) C hKl (c_X7_vacant l X D68 P _ (by omega)) tw_1065 k6 (by decide) rfl mm_X7_vacant ⟨rfl, rfl⟩ (by rw [hKR]; exact ⟨Nat.le_of_ble_eq_true rfl, Nat.le_of_ble_eq_true rfl⟩) (by rw [hKR]; exact ⟨Nat.le_of_ble_eq_true rfl, Nat.le_of_ble_eq_true rfl⟩) rfl rfl rfl (Nat.le_of_ble_eq_true rfl) dX7_readRow_75 rfl (fun r75 D75 P75 hp75 => ?_) 
      rcases hp75 with ⟨⟨hy75, rfl⟩ | ⟨hn75, rfl⟩, rfl, rfl⟩
      · have hv : D 7 v4 = 0 := by rw [e68, pd_o _ _ _ (by decide)] at hy75; exact hy75
        refine pv_if_ne (q := 81) (tgt := 85) C dX7_readRow_78 (by decide) rfl (fun _ => ?_) (fun h => absurd h (by decide)) 
        refine pv_iconst (q := 86) (v := 0) C dX7_readRow_85 rfl (by decide) ?_ 
        refine pv_callVi (q := 89) C hKl (c_X7_happensN l X D68 P _ (by rw [e68]; exact pd_g _ _ _)) tw_1240 k6 (by decide) rfl mm_X7_happens ⟨rfl, rfl⟩ (by rw [hKR]; exact ⟨Nat.le_of_ble_eq_true rfl, Nat.le_of_ble_eq_true rfl⟩) (by rw [hKR]; exact ⟨Nat.le_of_ble_eq_true rfl, Nat.le_of_ble_eq_true rfl⟩) rfl rfl rfl (Nat.le_of_ble_eq_true rfl) dX7_readRow_86 rfl (fun r86 D86 P86 hp86 => ?_) 
        obtain ⟨rfl, hH86, rfl⟩ := hp86
        have eH : D86 = pd D (b4) 0 := hH86.trans e68
        refine pv_if_eq (q := 92) (tgt := 101) C dX7_readRow_89 (by decide) rfl (fun _ => ?_) (fun h => absurd h (by decide)) 
        refine pv_iconst (q := 102) (v := 0) C dX7_readRow_101 rfl (by decide) ?_ 
        exact pv_iret C (⟨by rw [eH]; exact pres_none (by unfold pRow; rw [hN4]; dsimp only; rw [if_neg (by decide), if_pos rfl, hG68]), rfl⟩) (by decide) (by decide) dX7_readRow_102
      · have hv : ¬ D 7 v4 = 0 := by rw [e68, pd_o _ _ _ (by decide)] at hn75; exact hn75
        refine pv_if_ne (q := 81) (tgt := 85) C dX7_readRow_78 (by decide) rfl (fun h => absurd h (by decide)) (fun _ => ?_) 
        refine pv_iconst (q := 82) (v := 1) C dX7_readRow_81 rfl (by decide) ?_ 
        refine pv_goto (tgt := 86) C dX7_readRow_82 (by decide) ?_ 
        refine pv_callVi (q := 89) C hKl (c_X7_happensN l X D68 P _ (by rw [e68]; exact pd_g _ _ _)) tw_1240 k6 (by decide) rfl mm_X7_happens ⟨rfl, rfl⟩ (by rw [hKR]; exact ⟨Nat.le_of_ble_eq_true rfl, Nat.le_of_ble_eq_true rfl⟩) (by rw [hKR]; exact ⟨Nat.le_of_ble_eq_true rfl, Nat.le_of_ble_eq_true rfl⟩) rfl rfl rfl (Nat.le_of_ble_eq_true rfl) dX7_readRow_86 rfl (fun r86 D86 P86 hp86 => ?_) 
        obtain ⟨rfl, hH86, rfl⟩ := hp86
        have eH : D86 = pd D (b4) 0 := hH86.trans e68
        refine pv_if_eq (q := 92) (tgt := 101) C dX7_readRow_89 (by decide) rfl (fun _ => ?_) (fun h => absurd h (by decide)) 
        refine pv_iconst (q := 102) (v := 0) C dX7_readRow_101 rfl (by decide) ?_ 
        exact pv_iret C (⟨by rw [eH]; exact pres_none (by unfold pRow; rw [hN4]; dsimp only; rw [if_neg (by decide), if_pos rfl, hG68]), rfl⟩) (by decide) (by decide) dX7_readRow_102
  · have e4 : D4 = pd D a 0 := hR4
    have w4 : txt D4 n a := by rw [hR4]; exact txt_pd ht ht.2.2.2 0
    refine pv_istore_n (q := 8) C dX7_readRow_7 rfl rfl (Nat.le_of_ble_eq_true rfl) rfl ?_ 
    refine pv_iload_n (q := 9) C dX7_readRow_8 rfl rfl rfl ?_ 
    refine pv_bipush (q := 11) (v := 105) C dX7_readRow_9 rfl (by decide) ?_ 
    refine pv_icmp_ne (q := 14) (tgt := 61) C dX7_readRow_11 (by decide) rfl (fun _ => ?_) (fun h => absurd h (by decide)) 
    refine pv_iload_n (q := 62) C dX7_readRow_61 rfl rfl rfl ?_ 
    refine pv_bipush (q := 64) (v := 103) C dX7_readRow_62 rfl (by decide) ?_ 
    refine pv_icmp_ne (q := 67) (tgt := 103) C dX7_readRow_64 (by decide) rfl (fun h => absurd h (by decide)) (fun _ => ?_) 
    refine pv_aload_n (q := 68) C dX7_readRow_67 rfl rfl rfl ?_ 
    refine pv_callVi (q := 71) C hKl (c_X7_letter0 l X D4 P n a w4 (by rw [e4]; exact pd_g _ _ _)) tw_1232 k6 (by decide) rfl mm_X7_letter ⟨rfl, rfl⟩ (by rw [hKR]; exact ⟨Nat.le_of_ble_eq_true rfl, Nat.le_of_ble_eq_true rfl⟩) (by rw [hKR]; exact ⟨Nat.le_of_ble_eq_true rfl, Nat.le_of_ble_eq_true rfl⟩) rfl rfl rfl (Nat.le_of_ble_eq_true rfl) dX7_readRow_68 rfl (fun r68 D68 P68 hp68 => ?_) 
    obtain ⟨rfl, hR68, rfl⟩ := hp68
    have e68 : D68 = pd D a 0 := by rw [hR68, e4, pd_pd]
    refine pv_istore_n (q := 72) C dX7_readRow_71 rfl rfl (Nat.le_of_ble_eq_true rfl) rfl ?_ 
    refine pv_aload_n (q := 73) C dX7_readRow_72 rfl rfl rfl ?_ 
    refine pv_aload_n (q := 74) C dX7_readRow_73 rfl rfl rfl ?_ 
    refine pv_iload_n (q := 75) C dX7_readRow_74 rfl rfl rfl ?_ 
    refine pv_callVi (q := 78) C hKl (c_X7_vacant l X D68 P _ (by omega)) tw_1065 k6 (by decide) rfl mm_X7_vacant ⟨rfl, rfl⟩ (by rw [hKR]; exact ⟨Nat.le_of_ble_eq_true rfl, Nat.le_of_ble_eq_true rfl⟩) (by rw [hKR]; exact ⟨Nat.le_of_ble_eq_true rfl, Nat.le_of_ble_eq_true rfl⟩) rfl rfl rfl (Nat.le_of_ble_eq_true rfl) dX7_readRow_75 rfl (fun r75 D75 P75 hp75 => ?_) 
    rcases hp75 with ⟨⟨hy75, rfl⟩ | ⟨hn75, rfl⟩, rfl, rfl⟩
    · have hv : D 7 0 = 0 := by rw [e68, pd_o _ _ _ (by decide)] at hy75; exact hy75
      refine pv_if_ne (q := 81) (tgt := 85) C dX7_readRow_78 (by decide) rfl (fun _ => ?_) (fun h => absurd h (by decide)) 
      refine pv_iconst (q := 86) (v := 0) C dX7_readRow_85 rfl (by decide) ?_ 
      refine pv_callVi (q := 89) C hKl (c_X7_happensN l X D68 P _ (by rw [e68]; exact pd_g _ _ _)) tw_1240 k6 (by decide) rfl mm_X7_happens ⟨rfl, rfl⟩ (by rw [hKR]; exact ⟨Nat.le_of_ble_eq_true rfl, Nat.le_of_ble_eq_true rfl⟩) (by rw [hKR]; exact ⟨Nat.le_of_ble_eq_true rfl, Nat.le_of_ble_eq_true rfl⟩) rfl rfl rfl (Nat.le_of_ble_eq_true rfl) dX7_readRow_86 rfl (fun r86 D86 P86 hp86 => ?_) 
      obtain ⟨rfl, hH86, rfl⟩ := hp86
      have eH : D86 = pd D (a) 0 := hH86.trans e68
      refine pv_if_eq (q := 92) (tgt := 101) C dX7_readRow_89 (by decide) rfl (fun _ => ?_) (fun h => absurd h (by decide)) 
      refine pv_iconst (q := 102) (v := 0) C dX7_readRow_101 rfl (by decide) ?_ 
      exact pv_iret C (⟨by rw [eH]; exact pres_none (by unfold pRow; rw [hN4]), rfl⟩) (by decide) (by decide) dX7_readRow_102
    · have hv : ¬ D 7 0 = 0 := by rw [e68, pd_o _ _ _ (by decide)] at hn75; exact hn75
      refine pv_if_ne (q := 81) (tgt := 85) C dX7_readRow_78 (by decide) rfl (fun h => absurd h (by decide)) (fun _ => ?_) 
      refine pv_iconst (q := 82) (v := 1) C dX7_readRow_81 rfl (by decide) ?_ 
      refine pv_goto (tgt := 86) C dX7_readRow_82 (by decide) ?_ 
      refine pv_callVi (q := 89) C hKl (c_X7_happensN l X D68 P _ (by rw [e68]; exact pd_g _ _ _)) tw_1240 k6 (by decide) rfl mm_X7_happens ⟨rfl, rfl⟩ (by rw [hKR]; exact ⟨Nat.le_of_ble_eq_true rfl, Nat.le_of_ble_eq_true rfl⟩) (by rw [hKR]; exact ⟨Nat.le_of_ble_eq_true rfl, Nat.le_of_ble_eq_true rfl⟩) rfl rfl rfl (Nat.le_of_ble_eq_true rfl) dX7_readRow_86 rfl (fun r86 D86 P86 hp86 => ?_) 
      obtain ⟨rfl, hH86, rfl⟩ := hp86
      have eH : D86 = pd D (a) 0 := hH86.trans e68
      refine pv_if_eq (q := 92) (tgt := 101) C dX7_readRow_89 (by decide) rfl (fun _ => ?_) (fun h => absurd h (by decide)) 
      refine pv_iconst (q := 102) (v := 0) C dX7_readRow_101 rfl (by decide) ?_ 
      exact pv_iret C (⟨by rw [eH]; exact pres_none (by unfold pRow; rw [hN4]), rfl⟩) (by decide) (by decide) dX7_readRow_102
set_option maxRecDepth 100000 in
set_option maxHeartbeats 4000000 in
theorem c_X7_readRow117 (l : Launch) (X : XT) (D : DT) (P : PT) (n a : Nat) (ht : txt D n a) (hd : D 6 12 = 0 ∨ D 6 12 = 1) (hg : D 6 11 = 1) (hrw : RH D 2)  : CG l X yX7_readRow (.code yX7_readRow cX7_readRow 5 (some .int) :: AW) ({ frames := 5, cells := 0, slots := 0, locals := 180 } : Room) [.ref (X.2.2 6), .int 117] (qI X (fun r D' P' => D' = pres D (pRow (D 12) n 117 a) ∧ P = P')) D P 0 0 := by
  refine cg_of (by decide +kernel) (Nat.le_of_ble_eq_true rfl) ?_
  intro K hKl hKR C
  refine PV_lv (lv' := [some (.ref (X.2.2 6)), some (.int 117), none, none, none]) rfl ?_
  refine pv_aload_n (q := 1) C dX7_readRow_0 rfl rfl rfl ?_ 
  refine pv_iconst (q := 2) (v := 0) C dX7_readRow_1 rfl (by decide) ?_ 
  refine pv_bipush (q := 4) (v := 15) C dX7_readRow_2 rfl (by decide) ?_ 
  refine pv_callVi (q := 7) C hKl (c_X7_number0 l X D P n a (ht) 15 (by decide) (hg)) tw_1227 k6 (by decide) rfl mm_X7_number ⟨rfl, rfl⟩ (by rw [hKR]; exact ⟨Nat.le_of_ble_eq_true rfl, Nat.le_of_ble_eq_true rfl⟩) (by rw [hKR]; exact ⟨Nat.le_of_ble_eq_true rfl, Nat.le_of_ble_eq_true rfl⟩) rfl rfl rfl (Nat.le_of_ble_eq_true rfl) dX7_readRow_4 rfl (fun r4 D4 P4 hp4 => ?_) 
  rcases hp4 with ⟨⟨v4, b4, hN4, hb4, hv4, rfl, hR4⟩ | ⟨hN4, rfl, hR4⟩, rfl⟩
  · have e4 : D4 = pd D b4 1 := hR4
    have x4 : D4 12 = D 12 := by rw [hR4]; exact pd_o _ _ _ (by decide)
    have w4 : txt D4 n b4 := by rw [hR4]; exact txt_pd ht hb4 1
    refine pv_istore_n (q := 8) C dX7_readRow_7 rfl rfl (Nat.le_of_ble_eq_true rfl) rfl ?_ 
    refine pv_iload_n (q := 9) C dX7_readRow_8 rfl rfl rfl ?_ 
    refine pv_bipush (q := 11) (v := 105) C dX7_readRow_9 rfl (by decide) ?_ 
    refine pv_icmp_ne (q := 14) (tgt := 61) C dX7_readRow_11 (by decide) rfl (fun _ => ?_) (fun h => absurd h (by decide)) 
    refine pv_iload_n (q := 62) C dX7_readRow_61 rfl rfl rfl ?_ 
    refine pv_bipush (q := 64) (v := 103) C dX7_readRow_62 rfl (by decide) ?_ 
    refine pv_icmp_ne (q := 67) (tgt := 103) C dX7_readRow_64 (by decide) rfl (fun _ => ?_) (fun h => absurd h (by decide)) 
    refine pv_iload_n (q := 104) C dX7_readRow_103 rfl rfl rfl ?_ 
    refine pv_bipush (q := 106) (v := 117) C dX7_readRow_104 rfl (by decide) ?_ 
    refine pv_icmp_ne (q := 109) (tgt := 174) C dX7_readRow_106 (by decide) rfl (fun h => absurd h (by decide)) (fun _ => ?_) 
    refine pv_aload_n (q := 110) C dX7_readRow_109 rfl rfl rfl ?_ 
    refine pv_aload_n (q := 111) C dX7_readRow_110 rfl rfl rfl ?_ 
    refine pv_callVi (q := 114) C hKl (c_X7_here l X D4 P n b4 (w4)) tw_1215 k6 (by decide) rfl mm_X7_here ⟨rfl, rfl⟩ (by rw [hKR]; exact ⟨Nat.le_of_ble_eq_true rfl, Nat.le_of_ble_eq_true rfl⟩) (by rw [hKR]; exact ⟨Nat.le_of_ble_eq_true rfl, Nat.le_of_ble_eq_true rfl⟩) rfl rfl rfl (Nat.le_of_ble_eq_true rfl) dX7_readRow_111 rfl (fun r111 D111 P111 hp111 => ?_) 
    obtain ⟨rfl, rfl, rfl⟩ := hp111
    refine pv_bipush (q := 116) (v := 61) C dX7_readRow_114 rfl (by decide) ?_ 
    refine pv_icmp_ne (q := 119) (tgt := 123) C dX7_readRow_116 (by decide) rfl (fun c_116 => ?_) (fun c_116 => ?_) 
    · try rw [x4] at c_116
      refine pv_iconst (q := 124) (v := 0) C dX7_readRow_123 rfl (by decide) ?_ 
      refine pv_callVv (q := 127) C hKl (c_X7_take0 l X D4 P b4 (w4.2.2.1)) tw_1219 k6 (by decide) rfl mm_X7_take ⟨rfl, rfl⟩ (by rw [hKR]; exact ⟨Nat.le_of_ble_eq_true rfl, Nat.le_of_ble_eq_true rfl⟩) (by rw [hKR]; exact ⟨Nat.le_of_ble_eq_true rfl, Nat.le_of_ble_eq_true rfl⟩) rfl rfl rfl (Nat.le_of_ble_eq_true rfl) dX7_readRow_124 rfl (fun D124 P124 hp124 => ?_) 
      obtain ⟨hR124, rfl⟩ := hp124
      have e124 : D124 = pd D b4 0 := by rw [hR124, e4, pd_pd]
      refine pv_aload_n (q := 128) C dX7_readRow_127 rfl rfl rfl ?_ 
      refine pg_7_11 (q := 131) C k6 tw_1006 dX7_readRow_128 rfl ?_ 
      rw [show D124 6 11 = 0 by rw [e124]; exact pd_g _ _ _]
      refine pv_if_eq (q := 134) (tgt := 141) C dX7_readRow_131 (by decide) rfl (fun _ => ?_) (fun h => absurd h (by decide)) 
      refine pv_iconst (q := 142) (v := 0) C dX7_readRow_141 rfl (by decide) ?_ 
      refine pv_istore_n (q := 143) C dX7_readRow_142 rfl rfl (Nat.le_of_ble_eq_true rfl) rfl ?_ 
      refine pv_aload_n (q := 144) C dX7_readRow_143 rfl rfl rfl ?_ 
      refine pv_aload_n (q := 145) C dX7_readRow_144 rfl rfl rfl ?_ 
      refine pv_iload_n (q := 146) C dX7_readRow_145 rfl rfl rfl ?_ 
      refine pv_callVi (q := 149) C hKl (c_X7_vacant l X D124 P _ (by omega)) tw_1065 k6 (by decide) rfl mm_X7_vacant ⟨rfl, rfl⟩ (by rw [hKR]; exact ⟨Nat.le_of_ble_eq_true rfl, Nat.le_of_ble_eq_true rfl⟩) (by rw [hKR]; exact ⟨Nat.le_of_ble_eq_true rfl, Nat.le_of_ble_eq_true rfl⟩) rfl rfl rfl (Nat.le_of_ble_eq_true rfl) dX7_readRow_146 rfl (fun r146 D146 P146 hp146 => ?_) 
      rcases hp146 with ⟨⟨hy146, rfl⟩ | ⟨hn146, rfl⟩, rfl, rfl⟩
      · have hv : D 7 v4 = 0 := by rw [e124, pd_o _ _ _ (by decide)] at hy146; exact hy146
        refine pv_if_ne (q := 152) (tgt := 156) C dX7_readRow_149 (by decide) rfl (fun _ => ?_) (fun h => absurd h (by decide)) 
        refine pv_iconst (q := 157) (v := 0) C dX7_readRow_156 rfl (by decide) ?_ 
        refine pv_callVi (q := 160) C hKl (c_X7_happensN l X D124 P _ (by rw [e124]; exact pd_g _ _ _)) tw_1240 k6 (by decide) rfl mm_X7_happens ⟨rfl, rfl⟩ (by rw [hKR]; exact ⟨Nat.le_of_ble_eq_true rfl, Nat.le_of_ble_eq_true rfl⟩) (by rw [hKR]; exact ⟨Nat.le_of_ble_eq_true rfl, Nat.le_of_ble_eq_true rfl⟩) rfl rfl rfl (Nat.le_of_ble_eq_true rfl) dX7_readRow_157 rfl (fun r157 D157 P157 hp157 => ?_) 
        obtain ⟨rfl, hH157, rfl⟩ := hp157
        have eH : D157 = pd D (b4) 0 := hH157.trans e124
        refine pv_if_eq (q := 163) (tgt := 172) C dX7_readRow_160 (by decide) rfl (fun _ => ?_) (fun h => absurd h (by decide)) 
        refine pv_iconst (q := 173) (v := 0) C dX7_readRow_172 rfl (by decide) ?_ 
        exact pv_iret C (⟨by rw [eH]; exact pres_none (by unfold pRow; rw [hN4]; dsimp only; rw [if_neg (by decide), if_neg (by decide), if_pos rfl, if_neg c_116]), rfl⟩) (by decide) (by decide) dX7_readRow_173
      · have hv : ¬ D 7 v4 = 0 := by rw [e124, pd_o _ _ _ (by decide)] at hn146; exact hn146
        refine pv_if_ne (q := 152) (tgt := 156) C dX7_readRow_149 (by decide) rfl (fun h => absurd h (by decide)) (fun _ => ?_) 
        refine pv_iconst (q := 153) (v := 1) C dX7_readRow_152 rfl (by decide) ?_ 
        refine pv_goto (tgt := 157) C dX7_readRow_153 (by decide) ?_ 
        refine pv_callVi (q := 160) C hKl (c_X7_happensN l X D124 P _ (by rw [e124]; exact pd_g _ _ _)) tw_1240 k6 (by decide) rfl mm_X7_happens ⟨rfl, rfl⟩ (by rw [hKR]; exact ⟨Nat.le_of_ble_eq_true rfl, Nat.le_of_ble_eq_true rfl⟩) (by rw [hKR]; exact ⟨Nat.le_of_ble_eq_true rfl, Nat.le_of_ble_eq_true rfl⟩) rfl rfl rfl (Nat.le_of_ble_eq_true rfl) dX7_readRow_157 rfl (fun r157 D157 P157 hp157 => ?_) 
        obtain ⟨rfl, hH157, rfl⟩ := hp157
        have eH : D157 = pd D (b4) 0 := hH157.trans e124
        refine pv_if_eq (q := 163) (tgt := 172) C dX7_readRow_160 (by decide) rfl (fun _ => ?_) (fun h => absurd h (by decide)) 
        refine pv_iconst (q := 173) (v := 0) C dX7_readRow_172 rfl (by decide) ?_ 
        exact pv_iret C (⟨by rw [eH]; exact pres_none (by unfold pRow; rw [hN4]; dsimp only; rw [if_neg (by decide), if_neg (by decide), if_pos rfl, if_neg c_116]), rfl⟩) (by decide) (by decide) dX7_readRow_173
    · try rw [x4] at c_116
      refine pv_iconst (q := 120) (v := 1) C dX7_readRow_119 rfl (by decide) ?_ 
      refine pv_goto (tgt := 124) C dX7_readRow_120 (by decide) ?_ 
      refine pv_callVv (q := 127) C hKl (c_X7_take1 l X D4 P b4 (w4.2.2.1) (by rw [e4]; exact pd_g _ _ _)) tw_1219 k6 (by decide) rfl mm_X7_take ⟨rfl, rfl⟩ (by rw [hKR]; exact ⟨Nat.le_of_ble_eq_true rfl, Nat.le_of_ble_eq_true rfl⟩) (by rw [hKR]; exact ⟨Nat.le_of_ble_eq_true rfl, Nat.le_of_ble_eq_true rfl⟩) rfl rfl rfl (Nat.le_of_ble_eq_true rfl) dX7_readRow_124 rfl (fun D124 P124 hp124 => ?_) 
      obtain ⟨hR124, rfl⟩ := hp124
      have e124 : D124 = pd D (b4 + 1) 1 := by rw [hR124, e4, pd_pd]
      have x124 : D124 12 = D 12 := by rw [e124]; exact pd_o _ _ _ (by decide)
      have w124 : txt D124 n (b4 + 1) := by rw [e124]; exact txt_pd ht (hr_lt (f := D 12) (by rw [c_116]; decide)) 1
      refine pv_aload_n (q := 128) C dX7_readRow_127 rfl rfl rfl ?_ 
      refine pg_7_11 (q := 131) C k6 tw_1006 dX7_readRow_128 rfl ?_ 
      rw [show D124 6 11 = 1 by rw [e124]; exact pd_g _ _ _]
      refine pv_if_eq (q := 134) (tgt := 141) C dX7_readRow_131 (by decide) rfl (fun h => absurd h (by decide)) (fun _ => ?_) 
      refine pv_aload_n (q := 135) C dX7_readRow_134 rfl rfl rfl ?_ 
      refine pv_callVi (q := 138) C hKl (c_X7_amount l X D124 P n (b4 + 1) w124 (by rw [e124]; exact pd_g _ _ _)) tw_1236 k6 (by decide) rfl mm_X7_amount ⟨rfl, rfl⟩ (by rw [hKR]; exact ⟨Nat.le_of_ble_eq_true rfl, Nat.le_of_ble_eq_true rfl⟩) (by rw [hKR]; exact ⟨Nat.le_of_ble_eq_true rfl, Nat.le_of_ble_eq_true rfl⟩) rfl rfl rfl (Nat.le_of_ble_eq_true rfl) dX7_readRow_135 rfl (fun r135 D135 P135 hp135 => ?_) 
      rcases hp135 with ⟨⟨b135, hA135, hb135, hR135⟩ | ⟨b135, hb135, hA135, hR135⟩, rfl⟩
      · have e135 : D135 = pd D b135 1 := by rw [hR135, e124, pd_pd]
        rw [x124] at hA135
        refine pv_goto (tgt := 142) C dX7_readRow_138 (by decide) ?_ 
        refine pv_istore_n (q := 143) C dX7_readRow_142 rfl rfl (Nat.le_of_ble_eq_true rfl) rfl ?_ 
        refine pv_aload_n (q := 144) C dX7_readRow_143 rfl rfl rfl ?_ 
        refine pv_aload_n (q := 145) C dX7_readRow_144 rfl rfl rfl ?_ 
        refine pv_iload_n (q := 146) C dX7_readRow_145 rfl rfl rfl ?_ 
        refine pv_callVi (q := 149) C hKl (c_X7_vacant l X D135 P _ (by omega)) tw_1065 k6 (by decide) rfl mm_X7_vacant ⟨rfl, rfl⟩ (by rw [hKR]; exact ⟨Nat.le_of_ble_eq_true rfl, Nat.le_of_ble_eq_true rfl⟩) (by rw [hKR]; exact ⟨Nat.le_of_ble_eq_true rfl, Nat.le_of_ble_eq_true rfl⟩) rfl rfl rfl (Nat.le_of_ble_eq_true rfl) dX7_readRow_146 rfl (fun r146 D146 P146 hp146 => ?_) 
        rcases hp146 with ⟨⟨hy146, rfl⟩ | ⟨hn146, rfl⟩, rfl, rfl⟩
        · have hv : D 7 v4 = 0 := by rw [e135, pd_o _ _ _ (by decide)] at hy146; exact hy146
          refine pv_if_ne (q := 152) (tgt := 156) C dX7_readRow_149 (by decide) rfl (fun _ => ?_) (fun h => absurd h (by decide)) 
          refine pv_iconst (q := 157) (v := 0) C dX7_readRow_156 rfl (by decide) ?_ 
          refine pv_callVi (q := 160) C hKl (c_X7_happensZ l X D135 P (by rw [e135, pd_k _ _ _ (by decide) (by decide)]; exact hd) (by rw [e135]; exact pd_g _ _ _)) tw_1240 k6 (by decide) rfl mm_X7_happens ⟨rfl, rfl⟩ (by rw [hKR]; exact ⟨Nat.le_of_ble_eq_true rfl, Nat.le_of_ble_eq_true rfl⟩) (by rw [hKR]; exact ⟨Nat.le_of_ble_eq_true rfl, Nat.le_of_ble_eq_true rfl⟩) rfl rfl rfl (Nat.le_of_ble_eq_true rfl) dX7_readRow_157 rfl (fun r157 D157 P157 hp157 => ?_) 
          rcases hp157 with ⟨⟨hC157, rfl, hH157⟩ | ⟨hC157, rfl, hH157⟩, rfl⟩
          · have eH : D157 = up2 (pd D (b135) 1) 6 13 1 := by rw [hH157, e135]
            rw [e135, pd_k _ _ _ (by decide) (by decide), pd_k _ _ _ (by decide) (by decide)] at hC157
            refine pv_if_eq (q := 163) (tgt := 172) C dX7_readRow_160 (by decide) rfl (fun _ => ?_) (fun h => absurd h (by decide)) 
            refine pv_iconst (q := 173) (v := 0) C dX7_readRow_172 rfl (by decide) ?_ 
            exact pv_iret C (⟨by rw [eH]; exact pres_no (p := (117, v4, 0, r135)) (by unfold pRow; rw [hN4]; dsimp only; rw [if_neg (by decide), if_neg (by decide), if_pos rfl, if_pos c_116]; (try dsimp only); rw [hA135]) hC157.1 hC157.2 (by unfold canP; dsimp only; rw [if_neg (by decide), if_pos (by decide)]; exact decide_eq_false (fun z => z hv)), rfl⟩) (by decide) (by decide) dX7_readRow_173
          · have eH : D157 = pd D (b135) 1 := hH157.trans e135
            rw [e135, pd_k _ _ _ (by decide) (by decide), pd_k _ _ _ (by decide) (by decide)] at hC157
            refine pv_if_eq (q := 163) (tgt := 172) C dX7_readRow_160 (by decide) rfl (fun _ => ?_) (fun h => absurd h (by decide)) 
            refine pv_iconst (q := 173) (v := 0) C dX7_readRow_172 rfl (by decide) ?_ 
            exact pv_iret C (⟨by rw [eH]; exact pres_skip (by unfold pRow; rw [hN4]; dsimp only; rw [if_neg (by decide), if_neg (by decide), if_pos rfl, if_pos c_116]; (try dsimp only); rw [hA135]) hC157, rfl⟩) (by decide) (by decide) dX7_readRow_173
        · have hv : ¬ D 7 v4 = 0 := by rw [e135, pd_o _ _ _ (by decide)] at hn146; exact hn146
          refine pv_if_ne (q := 152) (tgt := 156) C dX7_readRow_149 (by decide) rfl (fun h => absurd h (by decide)) (fun _ => ?_) 
          refine pv_iconst (q := 153) (v := 1) C dX7_readRow_152 rfl (by decide) ?_ 
          refine pv_goto (tgt := 157) C dX7_readRow_153 (by decide) ?_ 
          refine pv_callVi (q := 160) C hKl (c_X7_happensY l X D135 P (by rw [e135, pd_k _ _ _ (by decide) (by decide)]; exact hd) (by rw [e135]; exact pd_g _ _ _)) tw_1240 k6 (by decide) rfl mm_X7_happens ⟨rfl, rfl⟩ (by rw [hKR]; exact ⟨Nat.le_of_ble_eq_true rfl, Nat.le_of_ble_eq_true rfl⟩) (by rw [hKR]; exact ⟨Nat.le_of_ble_eq_true rfl, Nat.le_of_ble_eq_true rfl⟩) rfl rfl rfl (Nat.le_of_ble_eq_true rfl) dX7_readRow_157 rfl (fun r157 D157 P157 hp157 => ?_) 
          rcases hp157 with ⟨⟨hC157, rfl, hH157⟩ | ⟨hC157, rfl, hH157⟩, rfl⟩
          · have eH : D157 = pd D (b135) 1 := hH157.trans e135
            rw [e135, pd_k _ _ _ (by decide) (by decide), pd_k _ _ _ (by decide) (by decide)] at hC157
            have r7 : D157 7 = D 7 := by rw [eH]; exact pd_o _ _ _ (by decide)
            have hrr := hrw hC157.1 hC157.2
            refine pv_if_eq (q := 163) (tgt := 172) C dX7_readRow_160 (by decide) rfl (fun h => absurd h (by decide)) (fun _ => ?_) 
            refine pv_aload_n (q := 164) C dX7_readRow_163 rfl rfl rfl ?_ 
            refine pv_iload_n (q := 165) C dX7_readRow_164 rfl rfl rfl ?_ 
            refine pv_iload_n (q := 166) C dX7_readRow_165 rfl rfl rfl ?_ 
            refine pv_callVi (q := 169) C hKl (c_X7_goChange l X D157 P _ (by omega) _ (by rw [r7]; exact hrr.1) (by rw [r7]; exact hrr.2)) tw_1116 k6 (by decide) rfl mm_X7_goChange ⟨rfl, rfl⟩ (by rw [hKR]; exact ⟨Nat.le_of_ble_eq_true rfl, Nat.le_of_ble_eq_true rfl⟩) (by rw [hKR]; exact ⟨Nat.le_of_ble_eq_true rfl, Nat.le_of_ble_eq_true rfl⟩) rfl rfl rfl (Nat.le_of_ble_eq_true rfl) dX7_readRow_166 rfl (fun r166 D166 P166 hp166 => ?_) 
            obtain ⟨rfl, hR166, rfl⟩ := hp166
            refine pv_goto (tgt := 173) C dX7_readRow_169 (by decide) ?_ 
            exact pv_iret C (⟨by rw [hR166, r7, eH]; exact pres_go (p := (117, v4, 0, r135)) (by unfold pRow; rw [hN4]; dsimp only; rw [if_neg (by decide), if_neg (by decide), if_pos rfl, if_pos c_116]; (try dsimp only); rw [hA135]) hC157.1 hC157.2 (by unfold canP; dsimp only; rw [if_neg (by decide), if_pos (by decide)]; exact decide_eq_true hv) (by unfold goP; dsimp only; rw [if_neg (by decide), if_neg (by decide), if_pos rfl]), rfl⟩) (by decide) (by decide) dX7_readRow_173
          · have eH : D157 = pd D (b135) 1 := hH157.trans e135
            rw [e135, pd_k _ _ _ (by decide) (by decide), pd_k _ _ _ (by decide) (by decide)] at hC157
            refine pv_if_eq (q := 163) (tgt := 172) C dX7_readRow_160 (by decide) rfl (fun _ => ?_) (fun h => absurd h (by decide)) 
            refine pv_iconst (q := 173) (v := 0) C dX7_readRow_172 rfl (by decide) ?_ 
            exact pv_iret C (⟨by rw [eH]; exact pres_skip (by unfold pRow; rw [hN4]; dsimp only; rw [if_neg (by decide), if_neg (by decide), if_pos rfl, if_pos c_116]; (try dsimp only); rw [hA135]) hC157, rfl⟩) (by decide) (by decide) dX7_readRow_173
      · have e135 : D135 = pd D b135 0 := by rw [hR135, e124, pd_pd]
        rw [x124] at hA135
        refine pv_goto (tgt := 142) C dX7_readRow_138 (by decide) ?_ 
        refine pv_istore_n (q := 143) C dX7_readRow_142 rfl rfl (Nat.le_of_ble_eq_true rfl) rfl ?_ 
        refine pv_aload_n (q := 144) C dX7_readRow_143 rfl rfl rfl ?_ 
        refine pv_aload_n (q := 145) C dX7_readRow_144 rfl rfl rfl ?_ 
        refine pv_iload_n (q := 146) C dX7_readRow_145 rfl rfl rfl ?_ 
        refine pv_callVi (q := 149) C hKl (c_X7_vacant l X D135 P _ (by omega)) tw_1065 k6 (by decide) rfl mm_X7_vacant ⟨rfl, rfl⟩ (by rw [hKR]; exact ⟨Nat.le_of_ble_eq_true rfl, Nat.le_of_ble_eq_true rfl⟩) (by rw [hKR]; exact ⟨Nat.le_of_ble_eq_true rfl, Nat.le_of_ble_eq_true rfl⟩) rfl rfl rfl (Nat.le_of_ble_eq_true rfl) dX7_readRow_146 rfl (fun r146 D146 P146 hp146 => ?_) 
        rcases hp146 with ⟨⟨hy146, rfl⟩ | ⟨hn146, rfl⟩, rfl, rfl⟩
        · have hv : D 7 v4 = 0 := by rw [e135, pd_o _ _ _ (by decide)] at hy146; exact hy146
          refine pv_if_ne (q := 152) (tgt := 156) C dX7_readRow_149 (by decide) rfl (fun _ => ?_) (fun h => absurd h (by decide)) 
          refine pv_iconst (q := 157) (v := 0) C dX7_readRow_156 rfl (by decide) ?_ 
          refine pv_callVi (q := 160) C hKl (c_X7_happensN l X D135 P _ (by rw [e135]; exact pd_g _ _ _)) tw_1240 k6 (by decide) rfl mm_X7_happens ⟨rfl, rfl⟩ (by rw [hKR]; exact ⟨Nat.le_of_ble_eq_true rfl, Nat.le_of_ble_eq_true rfl⟩) (by rw [hKR]; exact ⟨Nat.le_of_ble_eq_true rfl, Nat.le_of_ble_eq_true rfl⟩) rfl rfl rfl (Nat.le_of_ble_eq_true rfl) dX7_readRow_157 rfl (fun r157 D157 P157 hp157 => ?_) 
          obtain ⟨rfl, hH157, rfl⟩ := hp157
          have eH : D157 = pd D (b135) 0 := hH157.trans e135
          refine pv_if_eq (q := 163) (tgt := 172) C dX7_readRow_160 (by decide) rfl (fun _ => ?_) (fun h => absurd h (by decide)) 
          refine pv_iconst (q := 173) (v := 0) C dX7_readRow_172 rfl (by decide) ?_ 
          exact pv_iret C (⟨by rw [eH]; exact pres_none (by unfold pRow; rw [hN4]; dsimp only; rw [if_neg (by decide), if_neg (by decide), if_pos rfl, if_pos c_116]; (try dsimp only); rw [hA135]), rfl⟩) (by decide) (by decide) dX7_readRow_173
        · have hv : ¬ D 7 v4 = 0 := by rw [e135, pd_o _ _ _ (by decide)] at hn146; exact hn146
          refine pv_if_ne (q := 152) (tgt := 156) C dX7_readRow_149 (by decide) rfl (fun h => absurd h (by decide)) (fun _ => ?_) 
          refine pv_iconst (q := 153) (v := 1) C dX7_readRow_152 rfl (by decide) ?_ 
          refine pv_goto (tgt := 157) C dX7_readRow_153 (by decide) ?_ 
          refine pv_callVi (q := 160) C hKl (c_X7_happensN l X D135 P _ (by rw [e135]; exact pd_g _ _ _)) tw_1240 k6 (by decide) rfl mm_X7_happens ⟨rfl, rfl⟩ (by rw [hKR]; exact ⟨Nat.le_of_ble_eq_true rfl, Nat.le_of_ble_eq_true rfl⟩) (by rw [hKR]; exact ⟨Nat.le_of_ble_eq_true rfl, Nat.le_of_ble_eq_true rfl⟩) rfl rfl rfl (Nat.le_of_ble_eq_true rfl) dX7_readRow_157 rfl (fun r157 D157 P157 hp157 => ?_) 
          obtain ⟨rfl, hH157, rfl⟩ := hp157
          have eH : D157 = pd D (b135) 0 := hH157.trans e135
          refine pv_if_eq (q := 163) (tgt := 172) C dX7_readRow_160 (by decide) rfl (fun _ => ?_) (fun h => absurd h (by decide)) 
          refine pv_iconst (q := 173) (v := 0) C dX7_readRow_172 rfl (by decide) ?_ 
          exact pv_iret C (⟨by rw [eH]; exact pres_none (by unfold pRow; rw [hN4]; dsimp only; rw [if_neg (by decide), if_neg (by decide), if_pos rfl, if_pos c_116]; (try dsimp only); rw [hA135]), rfl⟩) (by decide) (by decide) dX7_readRow_173
  · have e4 : D4 = pd D a 0 := hR4
    have w4 : txt D4 n a := by rw [hR4]; exact txt_pd ht ht.2.2.2 0
    refine pv_istore_n (q := 8) C dX7_readRow_7 rfl rfl (Nat.le_of_ble_eq_true rfl) rfl ?_ 
    refine pv_iload_n (q := 9) C dX7_readRow_8 rfl rfl rfl ?_ 
    refine pv_bipush (q := 11) (v := 105) C dX7_readRow_9 rfl (by decide) ?_ 
    refine pv_icmp_ne (q := 14) (tgt := 61) C dX7_readRow_11 (by decide) rfl (fun _ => ?_) (fun h => absurd h (by decide)) 
    refine pv_iload_n (q := 62) C dX7_readRow_61 rfl rfl rfl ?_ 
    refine pv_bipush (q := 64) (v := 103) C dX7_readRow_62 rfl (by decide) ?_ 
    refine pv_icmp_ne (q := 67) (tgt := 103) C dX7_readRow_64 (by decide) rfl (fun _ => ?_) (fun h => absurd h (by decide)) 
    refine pv_iload_n (q := 104) C dX7_readRow_103 rfl rfl rfl ?_ 
    refine pv_bipush (q := 106) (v := 117) C dX7_readRow_104 rfl (by decide) ?_ 
    refine pv_icmp_ne (q := 109) (tgt := 174) C dX7_readRow_106 (by decide) rfl (fun h => absurd h (by decide)) (fun _ => ?_) 
    refine pv_aload_n (q := 110) C dX7_readRow_109 rfl rfl rfl ?_ 
    refine pv_aload_n (q := 111) C dX7_readRow_110 rfl rfl rfl ?_ 
    refine pv_callVi (q := 114) C hKl (c_X7_here l X D4 P n a (w4)) tw_1215 k6 (by decide) rfl mm_X7_here ⟨rfl, rfl⟩ (by rw [hKR]; exact ⟨Nat.le_of_ble_eq_true rfl, Nat.le_of_ble_eq_true rfl⟩) (by rw [hKR]; exact ⟨Nat.le_of_ble_eq_true rfl, Nat.le_of_ble_eq_true rfl⟩) rfl rfl rfl (Nat.le_of_ble_eq_true rfl) dX7_readRow_111 rfl (fun r111 D111 P111 hp111 => ?_) 
    obtain ⟨rfl, rfl, rfl⟩ := hp111
    refine pv_bipush (q := 116) (v := 61) C dX7_readRow_114 rfl (by decide) ?_ 
    refine pv_icmp_ne (q := 119) (tgt := 123) C dX7_readRow_116 (by decide) rfl (fun c_116 => ?_) (fun c_116 => ?_) 
    · try rw [x4] at c_116
      refine pv_iconst (q := 124) (v := 0) C dX7_readRow_123 rfl (by decide) ?_ 
      refine pv_callVv (q := 127) C hKl (c_X7_takeN l X D4 P a (w4.2.2.1) (by rw [e4]; exact pd_g _ _ _) _) tw_1219 k6 (by decide) rfl mm_X7_take ⟨rfl, rfl⟩ (by rw [hKR]; exact ⟨Nat.le_of_ble_eq_true rfl, Nat.le_of_ble_eq_true rfl⟩) (by rw [hKR]; exact ⟨Nat.le_of_ble_eq_true rfl, Nat.le_of_ble_eq_true rfl⟩) rfl rfl rfl (Nat.le_of_ble_eq_true rfl) dX7_readRow_124 rfl (fun D124 P124 hp124 => ?_) 
      obtain ⟨hR124, rfl⟩ := hp124
      have e124 : D124 = pd D a 0 := by rw [hR124, e4, pd_pd]
      refine pv_aload_n (q := 128) C dX7_readRow_127 rfl rfl rfl ?_ 
      refine pg_7_11 (q := 131) C k6 tw_1006 dX7_readRow_128 rfl ?_ 
      rw [show D124 6 11 = 0 by rw [e124]; exact pd_g _ _ _]
      refine pv_if_eq (q := 134) (tgt := 141) C dX7_readRow_131 (by decide) rfl (fun _ => ?_) (fun h => absurd h (by decide)) 
      refine pv_iconst (q := 142) (v := 0) C dX7_readRow_141 rfl (by decide) ?_ 
      refine pv_istore_n (q := 143) C dX7_readRow_142 rfl rfl (Nat.le_of_ble_eq_true rfl) rfl ?_ 
      refine pv_aload_n (q := 144) C dX7_readRow_143 rfl rfl rfl ?_ 
      refine pv_aload_n (q := 145) C dX7_readRow_144 rfl rfl rfl ?_ 
      refine pv_iload_n (q := 146) C dX7_readRow_145 rfl rfl rfl ?_ 
      refine pv_callVi (q := 149) C hKl (c_X7_vacant l X D124 P _ (by omega)) tw_1065 k6 (by decide) rfl mm_X7_vacant ⟨rfl, rfl⟩ (by rw [hKR]; exact ⟨Nat.le_of_ble_eq_true rfl, Nat.le_of_ble_eq_true rfl⟩) (by rw [hKR]; exact ⟨Nat.le_of_ble_eq_true rfl, Nat.le_of_ble_eq_true rfl⟩) rfl rfl rfl (Nat.le_of_ble_eq_true rfl) dX7_readRow_146 rfl (fun r146 D146 P146 hp146 => ?_) 
      rcases hp146 with ⟨⟨hy146, rfl⟩ | ⟨hn146, rfl⟩, rfl, rfl⟩
      · have hv : D 7 0 = 0 := by rw [e124, pd_o _ _ _ (by decide)] at hy146; exact hy146
        refine pv_if_ne (q := 152) (tgt := 156) C dX7_readRow_149 (by decide) rfl (fun _ => ?_) (fun h => absurd h (by decide)) 
        refine pv_iconst (q := 157) (v := 0) C dX7_readRow_156 rfl (by decide) ?_ 
        refine pv_callVi (q := 160) C hKl (c_X7_happensN l X D124 P _ (by rw [e124]; exact pd_g _ _ _)) tw_1240 k6 (by decide) rfl mm_X7_happens ⟨rfl, rfl⟩ (by rw [hKR]; exact ⟨Nat.le_of_ble_eq_true rfl, Nat.le_of_ble_eq_true rfl⟩) (by rw [hKR]; exact ⟨Nat.le_of_ble_eq_true rfl, Nat.le_of_ble_eq_true rfl⟩) rfl rfl rfl (Nat.le_of_ble_eq_true rfl) dX7_readRow_157 rfl (fun r157 D157 P157 hp157 => ?_) 
        obtain ⟨rfl, hH157, rfl⟩ := hp157
        have eH : D157 = pd D (a) 0 := hH157.trans e124
        refine pv_if_eq (q := 163) (tgt := 172) C dX7_readRow_160 (by decide) rfl (fun _ => ?_) (fun h => absurd h (by decide)) 
        refine pv_iconst (q := 173) (v := 0) C dX7_readRow_172 rfl (by decide) ?_ 
        exact pv_iret C (⟨by rw [eH]; exact pres_none (by unfold pRow; rw [hN4]), rfl⟩) (by decide) (by decide) dX7_readRow_173
      · have hv : ¬ D 7 0 = 0 := by rw [e124, pd_o _ _ _ (by decide)] at hn146; exact hn146
        refine pv_if_ne (q := 152) (tgt := 156) C dX7_readRow_149 (by decide) rfl (fun h => absurd h (by decide)) (fun _ => ?_) 
        refine pv_iconst (q := 153) (v := 1) C dX7_readRow_152 rfl (by decide) ?_ 
        refine pv_goto (tgt := 157) C dX7_readRow_153 (by decide) ?_ 
        refine pv_callVi (q := 160) C hKl (c_X7_happensN l X D124 P _ (by rw [e124]; exact pd_g _ _ _)) tw_1240 k6 (by decide) rfl mm_X7_happens ⟨rfl, rfl⟩ (by rw [hKR]; exact ⟨Nat.le_of_ble_eq_true rfl, Nat.le_of_ble_eq_true rfl⟩) (by rw [hKR]; exact ⟨Nat.le_of_ble_eq_true rfl, Nat.le_of_ble_eq_true rfl⟩) rfl rfl rfl (Nat.le_of_ble_eq_true rfl) dX7_readRow_157 rfl (fun r157 D157 P157 hp157 => ?_) 
        obtain ⟨rfl, hH157, rfl⟩ := hp157
        have eH : D157 = pd D (a) 0 := hH157.trans e124
        refine pv_if_eq (q := 163) (tgt := 172) C dX7_readRow_160 (by decide) rfl (fun _ => ?_) (fun h => absurd h (by decide)) 
        refine pv_iconst (q := 173) (v := 0) C dX7_readRow_172 rfl (by decide) ?_ 
        exact pv_iret C (⟨by rw [eH]; exact pres_none (by unfold pRow; rw [hN4]), rfl⟩) (by decide) (by decide) dX7_readRow_173
    · try rw [x4] at c_116
      refine pv_iconst (q := 120) (v := 1) C dX7_readRow_119 rfl (by decide) ?_ 
      refine pv_goto (tgt := 124) C dX7_readRow_120 (by decide) ?_ 
      refine pv_callVv (q := 127) C hKl (c_X7_takeN l X D4 P a (w4.2.2.1) (by rw [e4]; exact pd_g _ _ _) _) tw_1219 k6 (by decide) rfl mm_X7_take ⟨rfl, rfl⟩ (by rw [hKR]; exact ⟨Nat.le_of_ble_eq_true rfl, Nat.le_of_ble_eq_true rfl⟩) (by rw [hKR]; exact ⟨Nat.le_of_ble_eq_true rfl, Nat.le_of_ble_eq_true rfl⟩) rfl rfl rfl (Nat.le_of_ble_eq_true rfl) dX7_readRow_124 rfl (fun D124 P124 hp124 => ?_) 
      obtain ⟨hR124, rfl⟩ := hp124
      have e124 : D124 = pd D a 0 := by rw [hR124, e4, pd_pd]
      refine pv_aload_n (q := 128) C dX7_readRow_127 rfl rfl rfl ?_ 
      refine pg_7_11 (q := 131) C k6 tw_1006 dX7_readRow_128 rfl ?_ 
      rw [show D124 6 11 = 0 by rw [e124]; exact pd_g _ _ _]
      refine pv_if_eq (q := 134) (tgt := 141) C dX7_readRow_131 (by decide) rfl (fun _ => ?_) (fun h => absurd h (by decide)) 
      refine pv_iconst (q := 142) (v := 0) C dX7_readRow_141 rfl (by decide) ?_ 
      refine pv_istore_n (q := 143) C dX7_readRow_142 rfl rfl (Nat.le_of_ble_eq_true rfl) rfl ?_ 
      refine pv_aload_n (q := 144) C dX7_readRow_143 rfl rfl rfl ?_ 
      refine pv_aload_n (q := 145) C dX7_readRow_144 rfl rfl rfl ?_ 
      refine pv_iload_n (q := 146) C dX7_readRow_145 rfl rfl rfl ?_ 
      refine pv_callVi (q := 149) C hKl (c_X7_vacant l X D124 P _ (by omega)) tw_1065 k6 (by decide) rfl mm_X7_vacant ⟨rfl, rfl⟩ (by rw [hKR]; exact ⟨Nat.le_of_ble_eq_true rfl, Nat.le_of_ble_eq_true rfl⟩) (by rw [hKR]; exact ⟨Nat.le_of_ble_eq_true rfl, Nat.le_of_ble_eq_true rfl⟩) rfl rfl rfl (Nat.le_of_ble_eq_true rfl) dX7_readRow_146 rfl (fun r146 D146 P146 hp146 => ?_) 
      rcases hp146 with ⟨⟨hy146, rfl⟩ | ⟨hn146, rfl⟩, rfl, rfl⟩
      · have hv : D 7 0 = 0 := by rw [e124, pd_o _ _ _ (by decide)] at hy146; exact hy146
        refine pv_if_ne (q := 152) (tgt := 156) C dX7_readRow_149 (by decide) rfl (fun _ => ?_) (fun h => absurd h (by decide)) 
        refine pv_iconst (q := 157) (v := 0) C dX7_readRow_156 rfl (by decide) ?_ 
        refine pv_callVi (q := 160) C hKl (c_X7_happensN l X D124 P _ (by rw [e124]; exact pd_g _ _ _)) tw_1240 k6 (by decide) rfl mm_X7_happens ⟨rfl, rfl⟩ (by rw [hKR]; exact ⟨Nat.le_of_ble_eq_true rfl, Nat.le_of_ble_eq_true rfl⟩) (by rw [hKR]; exact ⟨Nat.le_of_ble_eq_true rfl, Nat.le_of_ble_eq_true rfl⟩) rfl rfl rfl (Nat.le_of_ble_eq_true rfl) dX7_readRow_157 rfl (fun r157 D157 P157 hp157 => ?_) 
        obtain ⟨rfl, hH157, rfl⟩ := hp157
        have eH : D157 = pd D (a) 0 := hH157.trans e124
        refine pv_if_eq (q := 163) (tgt := 172) C dX7_readRow_160 (by decide) rfl (fun _ => ?_) (fun h => absurd h (by decide)) 
        refine pv_iconst (q := 173) (v := 0) C dX7_readRow_172 rfl (by decide) ?_ 
        exact pv_iret C (⟨by rw [eH]; exact pres_none (by unfold pRow; rw [hN4]), rfl⟩) (by decide) (by decide) dX7_readRow_173
      · have hv : ¬ D 7 0 = 0 := by rw [e124, pd_o _ _ _ (by decide)] at hn146; exact hn146
        refine pv_if_ne (q := 152) (tgt := 156) C dX7_readRow_149 (by decide) rfl (fun h => absurd h (by decide)) (fun _ => ?_) 
        refine pv_iconst (q := 153) (v := 1) C dX7_readRow_152 rfl (by decide) ?_ 
        refine pv_goto (tgt := 157) C dX7_readRow_153 (by decide) ?_ 
        refine pv_callVi (q := 160) C hKl (c_X7_happensN l X D124 P _ (by rw [e124]; exact pd_g _ _ _)) tw_1240 k6 (by decide) rfl mm_X7_happens ⟨rfl, rfl⟩ (by rw [hKR]; exact ⟨Nat.le_of_ble_eq_true rfl, Nat.le_of_ble_eq_true rfl⟩) (by rw [hKR]; exact ⟨Nat.le_of_ble_eq_true rfl, Nat.le_of_ble_eq_true rfl⟩) rfl rfl rfl (Nat.le_of_ble_eq_true rfl) dX7_readRow_157 rfl (fun r157 D157 P157 hp157 => ?_) 
        obtain ⟨rfl, hH157, rfl⟩ := hp157
        have eH : D157 = pd D (a) 0 := hH157.trans e124
        refine pv_if_eq (q := 163) (tgt := 172) C dX7_readRow_160 (by decide) rfl (fun _ => ?_) (fun h => absurd h (by decide)) 
        refine pv_iconst (q := 173) (v := 0) C dX7_readRow_172 rfl (by decide) ?_ 
        exact pv_iret C (⟨by rw [eH]; exact pres_none (by unfold pRow; rw [hN4]), rfl⟩) (by decide) (by decide) dX7_readRow_173
set_option maxRecDepth 100000 in
set_option maxHeartbeats 4000000 in
theorem c_X7_readRow120 (l : Launch) (X : XT) (D : DT) (P : PT) (n a : Nat) (ht : txt D n a) (hd : D 6 12 = 0 ∨ D 6 12 = 1) (hg : D 6 11 = 1) (hrw : RH D 2)  : CG l X yX7_readRow (.code yX7_readRow cX7_readRow 5 (some .int) :: AW) ({ frames := 5, cells := 0, slots := 0, locals := 180 } : Room) [.ref (X.2.2 6), .int 120] (qI X (fun r D' P' => D' = pres D (pRow (D 12) n 120 a) ∧ P = P')) D P 0 0 := by
  refine cg_of (by decide +kernel) (Nat.le_of_ble_eq_true rfl) ?_
  intro K hKl hKR C
  refine PV_lv (lv' := [some (.ref (X.2.2 6)), some (.int 120), none, none, none]) rfl ?_
  refine pv_aload_n (q := 1) C dX7_readRow_0 rfl rfl rfl ?_ 
  refine pv_iconst (q := 2) (v := 0) C dX7_readRow_1 rfl (by decide) ?_ 
  refine pv_bipush (q := 4) (v := 15) C dX7_readRow_2 rfl (by decide) ?_ 
  refine pv_callVi (q := 7) C hKl (c_X7_number0 l X D P n a (ht) 15 (by decide) (hg)) tw_1227 k6 (by decide) rfl mm_X7_number ⟨rfl, rfl⟩ (by rw [hKR]; exact ⟨Nat.le_of_ble_eq_true rfl, Nat.le_of_ble_eq_true rfl⟩) (by rw [hKR]; exact ⟨Nat.le_of_ble_eq_true rfl, Nat.le_of_ble_eq_true rfl⟩) rfl rfl rfl (Nat.le_of_ble_eq_true rfl) dX7_readRow_4 rfl (fun r4 D4 P4 hp4 => ?_) 
  rcases hp4 with ⟨⟨v4, b4, hN4, hb4, hv4, rfl, hR4⟩ | ⟨hN4, rfl, hR4⟩, rfl⟩
  · have e4 : D4 = pd D b4 1 := hR4
    have x4 : D4 12 = D 12 := by rw [hR4]; exact pd_o _ _ _ (by decide)
    have w4 : txt D4 n b4 := by rw [hR4]; exact txt_pd ht hb4 1
    refine pv_istore_n (q := 8) C dX7_readRow_7 rfl rfl (Nat.le_of_ble_eq_true rfl) rfl ?_ 
    refine pv_iload_n (q := 9) C dX7_readRow_8 rfl rfl rfl ?_ 
    refine pv_bipush (q := 11) (v := 105) C dX7_readRow_9 rfl (by decide) ?_ 
    refine pv_icmp_ne (q := 14) (tgt := 61) C dX7_readRow_11 (by decide) rfl (fun _ => ?_) (fun h => absurd h (by decide)) 
    refine pv_iload_n (q := 62) C dX7_readRow_61 rfl rfl rfl ?_ 
    refine pv_bipush (q := 64) (v := 103) C dX7_readRow_62 rfl (by decide) ?_ 
    refine pv_icmp_ne (q := 67) (tgt := 103) C dX7_readRow_64 (by decide) rfl (fun _ => ?_) (fun h => absurd h (by decide)) 
    refine pv_iload_n (q := 104) C dX7_readRow_103 rfl rfl rfl ?_ 
    refine pv_bipush (q := 106) (v := 117) C dX7_readRow_104 rfl (by decide) ?_ 
    refine pv_icmp_ne (q := 109) (tgt := 174) C dX7_readRow_106 (by decide) rfl (fun _ => ?_) (fun h => absurd h (by decide)) 
    refine pv_aload_n (q := 175) C dX7_readRow_174 rfl rfl rfl ?_ 
    refine pv_aload_n (q := 176) C dX7_readRow_175 rfl rfl rfl ?_ 
    refine pv_iload_n (q := 177) C dX7_readRow_176 rfl rfl rfl ?_ 
    refine pv_callVi (q := 180) C hKl (c_X7_vacant l X D4 P _ (by omega)) tw_1065 k6 (by decide) rfl mm_X7_vacant ⟨rfl, rfl⟩ (by rw [hKR]; exact ⟨Nat.le_of_ble_eq_true rfl, Nat.le_of_ble_eq_true rfl⟩) (by rw [hKR]; exact ⟨Nat.le_of_ble_eq_true rfl, Nat.le_of_ble_eq_true rfl⟩) rfl rfl rfl (Nat.le_of_ble_eq_true rfl) dX7_readRow_177 rfl (fun r177 D177 P177 hp177 => ?_) 
    rcases hp177 with ⟨⟨hy177, rfl⟩ | ⟨hn177, rfl⟩, rfl, rfl⟩
    · have hv : D 7 v4 = 0 := by rw [e4, pd_o _ _ _ (by decide)] at hy177; exact hy177
      refine pv_if_ne (q := 183) (tgt := 187) C dX7_readRow_180 (by decide) rfl (fun _ => ?_) (fun h => absurd h (by decide)) 
      refine pv_iconst (q := 188) (v := 0) C dX7_readRow_187 rfl (by decide) ?_ 
      refine pv_callVi (q := 191) C hKl (c_X7_happensZ l X D4 P (by rw [e4, pd_k _ _ _ (by decide) (by decide)]; exact hd) (by rw [e4]; exact pd_g _ _ _)) tw_1240 k6 (by decide) rfl mm_X7_happens ⟨rfl, rfl⟩ (by rw [hKR]; exact ⟨Nat.le_of_ble_eq_true rfl, Nat.le_of_ble_eq_true rfl⟩) (by rw [hKR]; exact ⟨Nat.le_of_ble_eq_true rfl, Nat.le_of_ble_eq_true rfl⟩) rfl rfl rfl (Nat.le_of_ble_eq_true rfl) dX7_readRow_188 rfl (fun r188 D188 P188 hp188 => ?_) 
      rcases hp188 with ⟨⟨hC188, rfl, hH188⟩ | ⟨hC188, rfl, hH188⟩, rfl⟩
      · have eH : D188 = up2 (pd D (b4) 1) 6 13 1 := by rw [hH188, e4]
        rw [e4, pd_k _ _ _ (by decide) (by decide), pd_k _ _ _ (by decide) (by decide)] at hC188
        refine pv_if_eq (q := 194) (tgt := 202) C dX7_readRow_191 (by decide) rfl (fun _ => ?_) (fun h => absurd h (by decide)) 
        refine pv_iconst (q := 203) (v := 0) C dX7_readRow_202 rfl (by decide) ?_ 
        exact pv_iret C (⟨by rw [eH]; exact pres_no (p := (120, v4, 0, 0)) (by unfold pRow; rw [hN4]; dsimp only; rw [if_neg (by decide), if_neg (by decide), if_neg (by decide)]) hC188.1 hC188.2 (by unfold canP; dsimp only; rw [if_neg (by decide), if_pos (by decide)]; exact decide_eq_false (fun z => z hv)), rfl⟩) (by decide) (by decide) dX7_readRow_203
      · have eH : D188 = pd D (b4) 1 := hH188.trans e4
        rw [e4, pd_k _ _ _ (by decide) (by decide), pd_k _ _ _ (by decide) (by decide)] at hC188
        refine pv_if_eq (q := 194) (tgt := 202) C dX7_readRow_191 (by decide) rfl (fun _ => ?_) (fun h => absurd h (by decide)) 
        refine pv_iconst (q := 203) (v := 0) C dX7_readRow_202 rfl (by decide) ?_ 
        exact pv_iret C (⟨by rw [eH]; exact pres_skip (by unfold pRow; rw [hN4]; dsimp only; rw [if_neg (by decide), if_neg (by decide), if_neg (by decide)]) hC188, rfl⟩) (by decide) (by decide) dX7_readRow_203
    · have hv : ¬ D 7 v4 = 0 := by rw [e4, pd_o _ _ _ (by decide)] at hn177; exact hn177
      refine pv_if_ne (q := 183) (tgt := 187) C dX7_readRow_180 (by decide) rfl (fun h => absurd h (by decide)) (fun _ => ?_) 
      refine pv_iconst (q := 184) (v := 1) C dX7_readRow_183 rfl (by decide) ?_ 
      refine pv_goto (tgt := 188) C dX7_readRow_184 (by decide) ?_ 
      refine pv_callVi (q := 191) C hKl (c_X7_happensY l X D4 P (by rw [e4, pd_k _ _ _ (by decide) (by decide)]; exact hd) (by rw [e4]; exact pd_g _ _ _)) tw_1240 k6 (by decide) rfl mm_X7_happens ⟨rfl, rfl⟩ (by rw [hKR]; exact ⟨Nat.le_of_ble_eq_true rfl, Nat.le_of_ble_eq_true rfl⟩) (by rw [hKR]; exact ⟨Nat.le_of_ble_eq_true rfl, Nat.le_of_ble_eq_true rfl⟩) rfl rfl rfl (Nat.le_of_ble_eq_true rfl) dX7_readRow_188 rfl (fun r188 D188 P188 hp188 => ?_) 
      rcases hp188 with ⟨⟨hC188, rfl, hH188⟩ | ⟨hC188, rfl, hH188⟩, rfl⟩
      · have eH : D188 = pd D (b4) 1 := hH188.trans e4
        rw [e4, pd_k _ _ _ (by decide) (by decide), pd_k _ _ _ (by decide) (by decide)] at hC188
        have r7 : D188 7 = D 7 := by rw [eH]; exact pd_o _ _ _ (by decide)
        have hrr := hrw hC188.1 hC188.2
        refine pv_if_eq (q := 194) (tgt := 202) C dX7_readRow_191 (by decide) rfl (fun h => absurd h (by decide)) (fun _ => ?_) 
        refine pv_aload_n (q := 195) C dX7_readRow_194 rfl rfl rfl ?_ 
        refine pv_iload_n (q := 196) C dX7_readRow_195 rfl rfl rfl ?_ 
        refine pv_callVi (q := 199) C hKl (c_X7_goDelete l X D188 P _ (by omega) (by rw [r7]; exact hrr.1) (by rw [r7]; exact dl_le hrr.2 (by decide))) tw_1136 k6 (by decide) rfl mm_X7_goDelete ⟨rfl, rfl⟩ (by rw [hKR]; exact ⟨Nat.le_of_ble_eq_true rfl, Nat.le_of_ble_eq_true rfl⟩) (by rw [hKR]; exact ⟨Nat.le_of_ble_eq_true rfl, Nat.le_of_ble_eq_true rfl⟩) rfl rfl rfl (Nat.le_of_ble_eq_true rfl) dX7_readRow_196 rfl (fun r196 D196 P196 hp196 => ?_) 
        obtain ⟨rfl, hR196, rfl⟩ := hp196
        refine pv_goto (tgt := 203) C dX7_readRow_199 (by decide) ?_ 
        exact pv_iret C (⟨by rw [hR196, r7, eH]; exact pres_go (p := (120, v4, 0, 0)) (by unfold pRow; rw [hN4]; dsimp only; rw [if_neg (by decide), if_neg (by decide), if_neg (by decide)]) hC188.1 hC188.2 (by unfold canP; dsimp only; rw [if_neg (by decide), if_pos (by decide)]; exact decide_eq_true hv) (by unfold goP; dsimp only; rw [if_neg (by decide), if_neg (by decide), if_neg (by decide), if_pos rfl]), rfl⟩) (by decide) (by decide) dX7_readRow_203
      · have eH : D188 = pd D (b4) 1 := hH188.trans e4
        rw [e4, pd_k _ _ _ (by decide) (by decide), pd_k _ _ _ (by decide) (by decide)] at hC188
        refine pv_if_eq (q := 194) (tgt := 202) C dX7_readRow_191 (by decide) rfl (fun _ => ?_) (fun h => absurd h (by decide)) 
        refine pv_iconst (q := 203) (v := 0) C dX7_readRow_202 rfl (by decide) ?_ 
        exact pv_iret C (⟨by rw [eH]; exact pres_skip (by unfold pRow; rw [hN4]; dsimp only; rw [if_neg (by decide), if_neg (by decide), if_neg (by decide)]) hC188, rfl⟩) (by decide) (by decide) dX7_readRow_203
  · have e4 : D4 = pd D a 0 := hR4
    have w4 : txt D4 n a := by rw [hR4]; exact txt_pd ht ht.2.2.2 0
    refine pv_istore_n (q := 8) C dX7_readRow_7 rfl rfl (Nat.le_of_ble_eq_true rfl) rfl ?_ 
    refine pv_iload_n (q := 9) C dX7_readRow_8 rfl rfl rfl ?_ 
    refine pv_bipush (q := 11) (v := 105) C dX7_readRow_9 rfl (by decide) ?_ 
    refine pv_icmp_ne (q := 14) (tgt := 61) C dX7_readRow_11 (by decide) rfl (fun _ => ?_) (fun h => absurd h (by decide)) 
    refine pv_iload_n (q := 62) C dX7_readRow_61 rfl rfl rfl ?_ 
    refine pv_bipush (q := 64) (v := 103) C dX7_readRow_62 rfl (by decide) ?_ 
    refine pv_icmp_ne (q := 67) (tgt := 103) C dX7_readRow_64 (by decide) rfl (fun _ => ?_) (fun h => absurd h (by decide)) 
    refine pv_iload_n (q := 104) C dX7_readRow_103 rfl rfl rfl ?_ 
    refine pv_bipush (q := 106) (v := 117) C dX7_readRow_104 rfl (by decide) ?_ 
    refine pv_icmp_ne (q := 109) (tgt := 174) C dX7_readRow_106 (by decide) rfl (fun _ => ?_) (fun h => absurd h (by decide)) 
    refine pv_aload_n (q := 175) C dX7_readRow_174 rfl rfl rfl ?_ 
    refine pv_aload_n (q := 176) C dX7_readRow_175 rfl rfl rfl ?_ 
    refine pv_iload_n (q := 177) C dX7_readRow_176 rfl rfl rfl ?_ 
    refine pv_callVi (q := 180) C hKl (c_X7_vacant l X D4 P _ (by omega)) tw_1065 k6 (by decide) rfl mm_X7_vacant ⟨rfl, rfl⟩ (by rw [hKR]; exact ⟨Nat.le_of_ble_eq_true rfl, Nat.le_of_ble_eq_true rfl⟩) (by rw [hKR]; exact ⟨Nat.le_of_ble_eq_true rfl, Nat.le_of_ble_eq_true rfl⟩) rfl rfl rfl (Nat.le_of_ble_eq_true rfl) dX7_readRow_177 rfl (fun r177 D177 P177 hp177 => ?_) 
    rcases hp177 with ⟨⟨hy177, rfl⟩ | ⟨hn177, rfl⟩, rfl, rfl⟩
    · have hv : D 7 0 = 0 := by rw [e4, pd_o _ _ _ (by decide)] at hy177; exact hy177
      refine pv_if_ne (q := 183) (tgt := 187) C dX7_readRow_180 (by decide) rfl (fun _ => ?_) (fun h => absurd h (by decide)) 
      refine pv_iconst (q := 188) (v := 0) C dX7_readRow_187 rfl (by decide) ?_ 
      refine pv_callVi (q := 191) C hKl (c_X7_happensN l X D4 P _ (by rw [e4]; exact pd_g _ _ _)) tw_1240 k6 (by decide) rfl mm_X7_happens ⟨rfl, rfl⟩ (by rw [hKR]; exact ⟨Nat.le_of_ble_eq_true rfl, Nat.le_of_ble_eq_true rfl⟩) (by rw [hKR]; exact ⟨Nat.le_of_ble_eq_true rfl, Nat.le_of_ble_eq_true rfl⟩) rfl rfl rfl (Nat.le_of_ble_eq_true rfl) dX7_readRow_188 rfl (fun r188 D188 P188 hp188 => ?_) 
      obtain ⟨rfl, hH188, rfl⟩ := hp188
      have eH : D188 = pd D (a) 0 := hH188.trans e4
      refine pv_if_eq (q := 194) (tgt := 202) C dX7_readRow_191 (by decide) rfl (fun _ => ?_) (fun h => absurd h (by decide)) 
      refine pv_iconst (q := 203) (v := 0) C dX7_readRow_202 rfl (by decide) ?_ 
      exact pv_iret C (⟨by rw [eH]; exact pres_none (by unfold pRow; rw [hN4]), rfl⟩) (by decide) (by decide) dX7_readRow_203
    · have hv : ¬ D 7 0 = 0 := by rw [e4, pd_o _ _ _ (by decide)] at hn177; exact hn177
      refine pv_if_ne (q := 183) (tgt := 187) C dX7_readRow_180 (by decide) rfl (fun h => absurd h (by decide)) (fun _ => ?_) 
      refine pv_iconst (q := 184) (v := 1) C dX7_readRow_183 rfl (by decide) ?_ 
      refine pv_goto (tgt := 188) C dX7_readRow_184 (by decide) ?_ 
      refine pv_callVi (q := 191) C hKl (c_X7_happensN l X D4 P _ (by rw [e4]; exact pd_g _ _ _)) tw_1240 k6 (by decide) rfl mm_X7_happens ⟨rfl, rfl⟩ (by rw [hKR]; exact ⟨Nat.le_of_ble_eq_true rfl, Nat.le_of_ble_eq_true rfl⟩) (by rw [hKR]; exact ⟨Nat.le_of_ble_eq_true rfl, Nat.le_of_ble_eq_true rfl⟩) rfl rfl rfl (Nat.le_of_ble_eq_true rfl) dX7_readRow_188 rfl (fun r188 D188 P188 hp188 => ?_) 
      obtain ⟨rfl, hH188, rfl⟩ := hp188
      have eH : D188 = pd D (a) 0 := hH188.trans e4
      refine pv_if_eq (q := 194) (tgt := 202) C dX7_readRow_191 (by decide) rfl (fun _ => ?_) (fun h => absurd h (by decide)) 
      refine pv_iconst (q := 203) (v := 0) C dX7_readRow_202 rfl (by decide) ?_ 
      exact pv_iret C (⟨by rw [eH]; exact pres_none (by unfold pRow; rw [hN4]), rfl⟩) (by decide) (by decide) dX7_readRow_203
set_option maxRecDepth 100000 in
set_option maxHeartbeats 4000000 in
theorem c_X7_readPart (l : Launch) (X : XT) (D : DT) (P : PT) (n a : Nat) (ht : txt D n a) (hd : D 6 12 = 0 ∨ D 6 12 = 1) (hg : D 6 11 = 1) (hrw : RH D 2)  : CG l X yX7_readPart (.code yX7_readPart cX7_readPart 4 (some .int) :: AW) ({ frames := 6, cells := 0, slots := 0, locals := 216 } : Room) [.ref (X.2.2 6)] (qI X (fun r D' P' => D' = pres D (pPart (D 12) n a) ∧ P = P')) D P 0 0 := by
  refine cg_of (by decide +kernel) (Nat.le_of_ble_eq_true rfl) ?_
  intro K hKl hKR C
  refine PV_lv (lv' := [some (.ref (X.2.2 6)), none, none, none]) rfl ?_
  refine pv_aload_n (q := 1) C dX7_readPart_0 rfl rfl rfl ?_ 
  refine pv_callVi (q := 4) C hKl (c_X7_here l X D P n a (ht)) tw_1215 k6 (by decide) rfl mm_X7_here ⟨rfl, rfl⟩ (by rw [hKR]; exact ⟨Nat.le_of_ble_eq_true rfl, Nat.le_of_ble_eq_true rfl⟩) (by rw [hKR]; exact ⟨Nat.le_of_ble_eq_true rfl, Nat.le_of_ble_eq_true rfl⟩) rfl rfl rfl (Nat.le_of_ble_eq_true rfl) dX7_readPart_1 rfl (fun r1 D1 P1 hp1 => ?_) 
  obtain ⟨rfl, rfl, rfl⟩ := hp1
  refine pv_istore_n (q := 5) C dX7_readPart_4 rfl rfl (Nat.le_of_ble_eq_true rfl) rfl ?_ 
  refine pv_iload_n (q := 6) C dX7_readPart_5 rfl rfl rfl ?_ 
  refine pv_bipush (q := 8) (v := 105) C dX7_readPart_6 rfl (by decide) ?_ 
  refine pv_icmp_eq (q := 11) (tgt := 29) C dX7_readPart_8 (by decide) rfl (fun c_8 => ?_) (fun c_8 => ?_) 
  · rw [c_8]
    refine pv_iconst (q := 30) (v := 1) C dX7_readPart_29 rfl (by decide) ?_ 
    refine pv_goto (tgt := 34) C dX7_readPart_30 (by decide) ?_ 
    refine pv_istore_n (q := 35) C dX7_readPart_34 rfl rfl (Nat.le_of_ble_eq_true rfl) rfl ?_ 
    refine pv_aload_n (q := 36) C dX7_readPart_35 rfl rfl rfl ?_ 
    refine pv_iload_n (q := 37) C dX7_readPart_36 rfl rfl rfl ?_ 
    refine pv_if_ne (q := 40) (tgt := 64) C dX7_readPart_37 (by decide) rfl (fun _ => ?_) (fun h => absurd h (by decide)) 
    refine pv_iconst (q := 65) (v := 1) C dX7_readPart_64 rfl (by decide) ?_ 
    refine pv_goto (tgt := 69) C dX7_readPart_65 (by decide) ?_ 
    refine pv_callVv (q := 72) C hKl (c_X7_take1 l X D P a (ht.2.2.1) (hg)) tw_1219 k6 (by decide) rfl mm_X7_take ⟨rfl, rfl⟩ (by rw [hKR]; exact ⟨Nat.le_of_ble_eq_true rfl, Nat.le_of_ble_eq_true rfl⟩) (by rw [hKR]; exact ⟨Nat.le_of_ble_eq_true rfl, Nat.le_of_ble_eq_true rfl⟩) rfl rfl rfl (Nat.le_of_ble_eq_true rfl) dX7_readPart_69 rfl (fun D69 P69 hp69 => ?_) 
    obtain ⟨hR69, rfl⟩ := hp69
    have e69 : D69 = pd D (a + 1) 1 := hR69
    have x69 : D69 12 = D 12 := by rw [hR69]; exact pd_o _ _ _ (by decide)
    have w69 : txt D69 n (a + 1) := by rw [hR69]; exact txt_pd ht (hr_lt (f := D 12) (by rw [c_8]; decide)) 1
    refine pv_aload_n (q := 73) C dX7_readPart_72 rfl rfl rfl ?_ 
    refine pg_7_11 (q := 76) C k6 tw_1006 dX7_readPart_73 rfl ?_ 
    rw [show D69 6 11 = 1 by rw [e69]; exact pd_g _ _ _]
    refine pv_if_eq (q := 79) (tgt := 83) C dX7_readPart_76 (by decide) rfl (fun h => absurd h (by decide)) (fun _ => ?_) 
    refine pv_iload_n (q := 80) C dX7_readPart_79 rfl rfl rfl ?_ 
    refine pv_if_eq (q := 83) (tgt := 100) C dX7_readPart_80 (by decide) rfl (fun h => absurd h (by decide)) (fun _ => ?_) 
    refine pv_aload_n (q := 84) C dX7_readPart_83 rfl rfl rfl ?_ 
    refine pg_7_11 (q := 87) C k6 tw_1006 dX7_readPart_84 rfl ?_ 
    rw [show D69 6 11 = 1 by rw [e69]; exact pd_g _ _ _]
    refine pv_if_eq (q := 90) (tgt := 98) C dX7_readPart_87 (by decide) rfl (fun h => absurd h (by decide)) (fun _ => ?_) 
    refine pv_aload_n (q := 91) C dX7_readPart_90 rfl rfl rfl ?_ 
    refine pv_iload_n (q := 92) C dX7_readPart_91 rfl rfl rfl ?_ 
    refine pv_callVi (q := 95) C hKl (c_X7_readRow105 l X D69 P n (a + 1) w69 (by rw [e69, pd_k _ _ _ (by decide) (by decide)]; exact hd) (by rw [e69]; exact pd_g _ _ _) (by rw [e69]; exact RH_pd hrw)) tw_1223 k6 (by decide) rfl mm_X7_readRow ⟨rfl, rfl⟩ (by rw [hKR]; exact ⟨Nat.le_of_ble_eq_true rfl, Nat.le_of_ble_eq_true rfl⟩) (by rw [hKR]; exact ⟨Nat.le_of_ble_eq_true rfl, Nat.le_of_ble_eq_true rfl⟩) rfl rfl rfl (Nat.le_of_ble_eq_true rfl) dX7_readPart_92 rfl (fun r92 D92 P92 hp92 => ?_) 
    obtain ⟨hR92, rfl⟩ := hp92
    have e92 : D92 = pres D (pPart (D 12) n a) := by
      rw [hR92, x69, e69, pres_pd]
      unfold pPart
      rw [c_8, if_pos (by decide)]
    refine pv_goto (tgt := 99) C dX7_readPart_95 (by decide) ?_ 
    exact pv_iret C (⟨e92, rfl⟩) (by decide) (by decide) dX7_readPart_99
  · refine pv_iload_n (q := 12) C dX7_readPart_11 rfl rfl rfl ?_
    refine pv_bipush (q := 14) (v := 117) C dX7_readPart_12 rfl (by decide) ?_ 
    refine pv_icmp_eq (q := 17) (tgt := 29) C dX7_readPart_14 (by decide) rfl (fun c_14 => ?_) (fun c_14 => ?_) 
    · rw [c_14]
      refine pv_iconst (q := 30) (v := 1) C dX7_readPart_29 rfl (by decide) ?_ 
      refine pv_goto (tgt := 34) C dX7_readPart_30 (by decide) ?_ 
      refine pv_istore_n (q := 35) C dX7_readPart_34 rfl rfl (Nat.le_of_ble_eq_true rfl) rfl ?_ 
      refine pv_aload_n (q := 36) C dX7_readPart_35 rfl rfl rfl ?_ 
      refine pv_iload_n (q := 37) C dX7_readPart_36 rfl rfl rfl ?_ 
      refine pv_if_ne (q := 40) (tgt := 64) C dX7_readPart_37 (by decide) rfl (fun _ => ?_) (fun h => absurd h (by decide)) 
      refine pv_iconst (q := 65) (v := 1) C dX7_readPart_64 rfl (by decide) ?_ 
      refine pv_goto (tgt := 69) C dX7_readPart_65 (by decide) ?_ 
      refine pv_callVv (q := 72) C hKl (c_X7_take1 l X D P a (ht.2.2.1) (hg)) tw_1219 k6 (by decide) rfl mm_X7_take ⟨rfl, rfl⟩ (by rw [hKR]; exact ⟨Nat.le_of_ble_eq_true rfl, Nat.le_of_ble_eq_true rfl⟩) (by rw [hKR]; exact ⟨Nat.le_of_ble_eq_true rfl, Nat.le_of_ble_eq_true rfl⟩) rfl rfl rfl (Nat.le_of_ble_eq_true rfl) dX7_readPart_69 rfl (fun D69 P69 hp69 => ?_) 
      obtain ⟨hR69, rfl⟩ := hp69
      have e69 : D69 = pd D (a + 1) 1 := hR69
      have x69 : D69 12 = D 12 := by rw [hR69]; exact pd_o _ _ _ (by decide)
      have w69 : txt D69 n (a + 1) := by rw [hR69]; exact txt_pd ht (hr_lt (f := D 12) (by rw [c_14]; decide)) 1
      refine pv_aload_n (q := 73) C dX7_readPart_72 rfl rfl rfl ?_ 
      refine pg_7_11 (q := 76) C k6 tw_1006 dX7_readPart_73 rfl ?_ 
      rw [show D69 6 11 = 1 by rw [e69]; exact pd_g _ _ _]
      refine pv_if_eq (q := 79) (tgt := 83) C dX7_readPart_76 (by decide) rfl (fun h => absurd h (by decide)) (fun _ => ?_) 
      refine pv_iload_n (q := 80) C dX7_readPart_79 rfl rfl rfl ?_ 
      refine pv_if_eq (q := 83) (tgt := 100) C dX7_readPart_80 (by decide) rfl (fun h => absurd h (by decide)) (fun _ => ?_) 
      refine pv_aload_n (q := 84) C dX7_readPart_83 rfl rfl rfl ?_ 
      refine pg_7_11 (q := 87) C k6 tw_1006 dX7_readPart_84 rfl ?_ 
      rw [show D69 6 11 = 1 by rw [e69]; exact pd_g _ _ _]
      refine pv_if_eq (q := 90) (tgt := 98) C dX7_readPart_87 (by decide) rfl (fun h => absurd h (by decide)) (fun _ => ?_) 
      refine pv_aload_n (q := 91) C dX7_readPart_90 rfl rfl rfl ?_ 
      refine pv_iload_n (q := 92) C dX7_readPart_91 rfl rfl rfl ?_ 
      refine pv_callVi (q := 95) C hKl (c_X7_readRow117 l X D69 P n (a + 1) w69 (by rw [e69, pd_k _ _ _ (by decide) (by decide)]; exact hd) (by rw [e69]; exact pd_g _ _ _) (by rw [e69]; exact RH_pd hrw)) tw_1223 k6 (by decide) rfl mm_X7_readRow ⟨rfl, rfl⟩ (by rw [hKR]; exact ⟨Nat.le_of_ble_eq_true rfl, Nat.le_of_ble_eq_true rfl⟩) (by rw [hKR]; exact ⟨Nat.le_of_ble_eq_true rfl, Nat.le_of_ble_eq_true rfl⟩) rfl rfl rfl (Nat.le_of_ble_eq_true rfl) dX7_readPart_92 rfl (fun r92 D92 P92 hp92 => ?_) 
      obtain ⟨hR92, rfl⟩ := hp92
      have e92 : D92 = pres D (pPart (D 12) n a) := by
        rw [hR92, x69, e69, pres_pd]
        unfold pPart
        rw [c_14, if_pos (by decide)]
      refine pv_goto (tgt := 99) C dX7_readPart_95 (by decide) ?_ 
      exact pv_iret C (⟨e92, rfl⟩) (by decide) (by decide) dX7_readPart_99
    · refine pv_iload_n (q := 18) C dX7_readPart_17 rfl rfl rfl ?_
      refine pv_bipush (q := 20) (v := 103) C dX7_readPart_18 rfl (by decide) ?_ 
      refine pv_icmp_eq (q := 23) (tgt := 29) C dX7_readPart_20 (by decide) rfl (fun c_20 => ?_) (fun c_20 => ?_) 
      · rw [c_20]
        refine pv_iconst (q := 30) (v := 1) C dX7_readPart_29 rfl (by decide) ?_ 
        refine pv_goto (tgt := 34) C dX7_readPart_30 (by decide) ?_ 
        refine pv_istore_n (q := 35) C dX7_readPart_34 rfl rfl (Nat.le_of_ble_eq_true rfl) rfl ?_ 
        refine pv_aload_n (q := 36) C dX7_readPart_35 rfl rfl rfl ?_ 
        refine pv_iload_n (q := 37) C dX7_readPart_36 rfl rfl rfl ?_ 
        refine pv_if_ne (q := 40) (tgt := 64) C dX7_readPart_37 (by decide) rfl (fun _ => ?_) (fun h => absurd h (by decide)) 
        refine pv_iconst (q := 65) (v := 1) C dX7_readPart_64 rfl (by decide) ?_ 
        refine pv_goto (tgt := 69) C dX7_readPart_65 (by decide) ?_ 
        refine pv_callVv (q := 72) C hKl (c_X7_take1 l X D P a (ht.2.2.1) (hg)) tw_1219 k6 (by decide) rfl mm_X7_take ⟨rfl, rfl⟩ (by rw [hKR]; exact ⟨Nat.le_of_ble_eq_true rfl, Nat.le_of_ble_eq_true rfl⟩) (by rw [hKR]; exact ⟨Nat.le_of_ble_eq_true rfl, Nat.le_of_ble_eq_true rfl⟩) rfl rfl rfl (Nat.le_of_ble_eq_true rfl) dX7_readPart_69 rfl (fun D69 P69 hp69 => ?_) 
        obtain ⟨hR69, rfl⟩ := hp69
        have e69 : D69 = pd D (a + 1) 1 := hR69
        have x69 : D69 12 = D 12 := by rw [hR69]; exact pd_o _ _ _ (by decide)
        have w69 : txt D69 n (a + 1) := by rw [hR69]; exact txt_pd ht (hr_lt (f := D 12) (by rw [c_20]; decide)) 1
        refine pv_aload_n (q := 73) C dX7_readPart_72 rfl rfl rfl ?_ 
        refine pg_7_11 (q := 76) C k6 tw_1006 dX7_readPart_73 rfl ?_ 
        rw [show D69 6 11 = 1 by rw [e69]; exact pd_g _ _ _]
        refine pv_if_eq (q := 79) (tgt := 83) C dX7_readPart_76 (by decide) rfl (fun h => absurd h (by decide)) (fun _ => ?_) 
        refine pv_iload_n (q := 80) C dX7_readPart_79 rfl rfl rfl ?_ 
        refine pv_if_eq (q := 83) (tgt := 100) C dX7_readPart_80 (by decide) rfl (fun h => absurd h (by decide)) (fun _ => ?_) 
        refine pv_aload_n (q := 84) C dX7_readPart_83 rfl rfl rfl ?_ 
        refine pg_7_11 (q := 87) C k6 tw_1006 dX7_readPart_84 rfl ?_ 
        rw [show D69 6 11 = 1 by rw [e69]; exact pd_g _ _ _]
        refine pv_if_eq (q := 90) (tgt := 98) C dX7_readPart_87 (by decide) rfl (fun h => absurd h (by decide)) (fun _ => ?_) 
        refine pv_aload_n (q := 91) C dX7_readPart_90 rfl rfl rfl ?_ 
        refine pv_iload_n (q := 92) C dX7_readPart_91 rfl rfl rfl ?_ 
        refine pv_callVi (q := 95) C hKl (c_X7_readRow103 l X D69 P n (a + 1) w69 (by rw [e69, pd_k _ _ _ (by decide) (by decide)]; exact hd) (by rw [e69]; exact pd_g _ _ _) (by rw [e69]; exact RH_pd hrw)) tw_1223 k6 (by decide) rfl mm_X7_readRow ⟨rfl, rfl⟩ (by rw [hKR]; exact ⟨Nat.le_of_ble_eq_true rfl, Nat.le_of_ble_eq_true rfl⟩) (by rw [hKR]; exact ⟨Nat.le_of_ble_eq_true rfl, Nat.le_of_ble_eq_true rfl⟩) rfl rfl rfl (Nat.le_of_ble_eq_true rfl) dX7_readPart_92 rfl (fun r92 D92 P92 hp92 => ?_) 
        obtain ⟨hR92, rfl⟩ := hp92
        have e92 : D92 = pres D (pPart (D 12) n a) := by
          rw [hR92, x69, e69, pres_pd]
          unfold pPart
          rw [c_20, if_pos (by decide)]
        refine pv_goto (tgt := 99) C dX7_readPart_95 (by decide) ?_ 
        exact pv_iret C (⟨e92, rfl⟩) (by decide) (by decide) dX7_readPart_99
      · refine pv_iload_n (q := 24) C dX7_readPart_23 rfl rfl rfl ?_
        refine pv_bipush (q := 26) (v := 120) C dX7_readPart_24 rfl (by decide) ?_ 
        refine pv_icmp_ne (q := 29) (tgt := 33) C dX7_readPart_26 (by decide) rfl (fun c_26 => ?_) (fun c_26 => ?_) 
        · refine pv_iconst (q := 34) (v := 0) C dX7_readPart_33 rfl (by decide) ?_
          refine pv_istore_n (q := 35) C dX7_readPart_34 rfl rfl (Nat.le_of_ble_eq_true rfl) rfl ?_ 
          refine pv_aload_n (q := 36) C dX7_readPart_35 rfl rfl rfl ?_ 
          refine pv_iload_n (q := 37) C dX7_readPart_36 rfl rfl rfl ?_ 
          refine pv_if_ne (q := 40) (tgt := 64) C dX7_readPart_37 (by decide) rfl (fun h => absurd h (by decide)) (fun _ => ?_) 
          refine pv_iload_n (q := 41) C dX7_readPart_40 rfl rfl rfl ?_ 
          refine pv_bipush (q := 43) (v := 116) C dX7_readPart_41 rfl (by decide) ?_ 
          refine pv_icmp_eq (q := 46) (tgt := 64) C dX7_readPart_43 (by decide) rfl (fun c_43 => ?_) (fun c_43 => ?_) 
          · rw [c_43]
            refine pv_iconst (q := 65) (v := 1) C dX7_readPart_64 rfl (by decide) ?_ 
            refine pv_goto (tgt := 69) C dX7_readPart_65 (by decide) ?_ 
            refine pv_callVv (q := 72) C hKl (c_X7_take1 l X D P a (ht.2.2.1) (hg)) tw_1219 k6 (by decide) rfl mm_X7_take ⟨rfl, rfl⟩ (by rw [hKR]; exact ⟨Nat.le_of_ble_eq_true rfl, Nat.le_of_ble_eq_true rfl⟩) (by rw [hKR]; exact ⟨Nat.le_of_ble_eq_true rfl, Nat.le_of_ble_eq_true rfl⟩) rfl rfl rfl (Nat.le_of_ble_eq_true rfl) dX7_readPart_69 rfl (fun D69 P69 hp69 => ?_) 
            obtain ⟨hR69, rfl⟩ := hp69
            have e69 : D69 = pd D (a + 1) 1 := hR69
            have x69 : D69 12 = D 12 := by rw [hR69]; exact pd_o _ _ _ (by decide)
            have w69 : txt D69 n (a + 1) := by rw [hR69]; exact txt_pd ht (hr_lt (f := D 12) (by rw [c_43]; decide)) 1
            refine pv_aload_n (q := 73) C dX7_readPart_72 rfl rfl rfl ?_ 
            refine pg_7_11 (q := 76) C k6 tw_1006 dX7_readPart_73 rfl ?_ 
            rw [show D69 6 11 = 1 by rw [e69]; exact pd_g _ _ _]
            refine pv_if_eq (q := 79) (tgt := 83) C dX7_readPart_76 (by decide) rfl (fun h => absurd h (by decide)) (fun _ => ?_) 
            refine pv_iload_n (q := 80) C dX7_readPart_79 rfl rfl rfl ?_ 
            refine pv_if_eq (q := 83) (tgt := 100) C dX7_readPart_80 (by decide) rfl (fun _ => ?_) (fun h => absurd h (by decide)) 
            refine pv_iload_n (q := 101) C dX7_readPart_100 rfl rfl rfl ?_ 
            refine pv_bipush (q := 103) (v := 116) C dX7_readPart_101 rfl (by decide) ?_ 
            refine pv_icmp_ne (q := 106) (tgt := 132) C dX7_readPart_103 (by decide) rfl (fun h => absurd h (by decide)) (fun _ => ?_) 
            refine pv_aload_n (q := 107) C dX7_readPart_106 rfl rfl rfl ?_ 
            refine pv_iconst (q := 108) (v := 1) C dX7_readPart_107 rfl (by decide) ?_ 
            refine pv_bipush (q := 110) (v := 30) C dX7_readPart_108 rfl (by decide) ?_ 
            refine pv_callVi (q := 113) C hKl (c_X7_number1 l X D69 P n (a + 1) w69 30 (by decide) (by rw [e69]; exact pd_g _ _ _)) tw_1227 k6 (by decide) rfl mm_X7_number ⟨rfl, rfl⟩ (by rw [hKR]; exact ⟨Nat.le_of_ble_eq_true rfl, Nat.le_of_ble_eq_true rfl⟩) (by rw [hKR]; exact ⟨Nat.le_of_ble_eq_true rfl, Nat.le_of_ble_eq_true rfl⟩) rfl rfl rfl (Nat.le_of_ble_eq_true rfl) dX7_readPart_110 rfl (fun r110 D110 P110 hp110 => ?_) 
            rcases hp110 with ⟨⟨v, b, hN, hb, hv, rfl, hR110⟩ | ⟨hN, rfl, hR110⟩, rfl⟩
            · have e110 : D110 = pd D b 1 := by rw [hR110, e69, pd_pd]
              rw [x69] at hN
              refine pv_istore_n (q := 114) C dX7_readPart_113 rfl rfl (Nat.le_of_ble_eq_true rfl) rfl ?_ 
              refine pv_aload_n (q := 115) C dX7_readPart_114 rfl rfl rfl ?_ 
              refine pv_iconst (q := 116) (v := 1) C dX7_readPart_115 rfl (by decide) ?_ 
              refine pv_callVi (q := 119) C hKl (c_X7_happensY l X D110 P (by rw [e110, pd_k _ _ _ (by decide) (by decide)]; exact hd) (by rw [e110]; exact pd_g _ _ _)) tw_1240 k6 (by decide) rfl mm_X7_happens ⟨rfl, rfl⟩ (by rw [hKR]; exact ⟨Nat.le_of_ble_eq_true rfl, Nat.le_of_ble_eq_true rfl⟩) (by rw [hKR]; exact ⟨Nat.le_of_ble_eq_true rfl, Nat.le_of_ble_eq_true rfl⟩) rfl rfl rfl (Nat.le_of_ble_eq_true rfl) dX7_readPart_116 rfl (fun r116 D116 P116 hp116 => ?_) 
              rcases hp116 with ⟨⟨hC116, rfl, hH116⟩ | ⟨hC116, rfl, hH116⟩, rfl⟩
              · have eH : D116 = pd D (b) 1 := hH116.trans e110
                rw [e110, pd_k _ _ _ (by decide) (by decide), pd_k _ _ _ (by decide) (by decide)] at hC116
                have r7 : D116 7 = D 7 := by rw [eH]; exact pd_o _ _ _ (by decide)
                have hrr := hrw hC116.1 hC116.2
                refine pv_if_eq (q := 122) (tgt := 130) C dX7_readPart_119 (by decide) rfl (fun h => absurd h (by decide)) (fun _ => ?_) 
                refine pv_aload_n (q := 123) C dX7_readPart_122 rfl rfl rfl ?_ 
                refine pv_iload_n (q := 124) C dX7_readPart_123 rfl rfl rfl ?_ 
                refine pv_callVi (q := 127) C hKl (c_X7_goPass l X D116 P _ (by omega) (by rw [r7]; exact hrr.1)) tw_1189 k6 (by decide) rfl mm_X7_goPass ⟨rfl, rfl⟩ (by rw [hKR]; exact ⟨Nat.le_of_ble_eq_true rfl, Nat.le_of_ble_eq_true rfl⟩) (by rw [hKR]; exact ⟨Nat.le_of_ble_eq_true rfl, Nat.le_of_ble_eq_true rfl⟩) rfl rfl rfl (Nat.le_of_ble_eq_true rfl) dX7_readPart_124 rfl (fun r124 D124 P124 hp124 => ?_) 
                obtain ⟨rfl, hR124, rfl⟩ := hp124
                refine pv_goto (tgt := 131) C dX7_readPart_127 (by decide) ?_ 
                exact pv_iret C (⟨by rw [hR124, r7, eH]; exact pres_go (p := (116, v, 0, 0)) (by unfold pPart; rw [c_43, if_neg (by decide), if_pos rfl, hN]) hC116.1 hC116.2 (by rfl) (by unfold goP; dsimp only; rw [if_neg (by decide), if_neg (by decide), if_neg (by decide), if_neg (by decide), if_pos rfl]), rfl⟩) (by decide) (by decide) dX7_readPart_131
              · have eH : D116 = pd D (b) 1 := hH116.trans e110
                rw [e110, pd_k _ _ _ (by decide) (by decide), pd_k _ _ _ (by decide) (by decide)] at hC116
                refine pv_if_eq (q := 122) (tgt := 130) C dX7_readPart_119 (by decide) rfl (fun _ => ?_) (fun h => absurd h (by decide)) 
                refine pv_iconst (q := 131) (v := 0) C dX7_readPart_130 rfl (by decide) ?_ 
                exact pv_iret C (⟨by rw [eH]; exact pres_skip (by unfold pPart; rw [c_43, if_neg (by decide), if_pos rfl, hN]) hC116, rfl⟩) (by decide) (by decide) dX7_readPart_131
            · have e110 : D110 = pd D (a + 1) 0 := by rw [hR110, e69, pd_pd]
              rw [x69] at hN
              refine pv_istore_n (q := 114) C dX7_readPart_113 rfl rfl (Nat.le_of_ble_eq_true rfl) rfl ?_ 
              refine pv_aload_n (q := 115) C dX7_readPart_114 rfl rfl rfl ?_ 
              refine pv_iconst (q := 116) (v := 1) C dX7_readPart_115 rfl (by decide) ?_ 
              refine pv_callVi (q := 119) C hKl (c_X7_happensN l X D110 P _ (by rw [e110]; exact pd_g _ _ _)) tw_1240 k6 (by decide) rfl mm_X7_happens ⟨rfl, rfl⟩ (by rw [hKR]; exact ⟨Nat.le_of_ble_eq_true rfl, Nat.le_of_ble_eq_true rfl⟩) (by rw [hKR]; exact ⟨Nat.le_of_ble_eq_true rfl, Nat.le_of_ble_eq_true rfl⟩) rfl rfl rfl (Nat.le_of_ble_eq_true rfl) dX7_readPart_116 rfl (fun r116 D116 P116 hp116 => ?_) 
              obtain ⟨rfl, hH116, rfl⟩ := hp116
              have eH : D116 = pd D (a + 1) 0 := hH116.trans e110
              refine pv_if_eq (q := 122) (tgt := 130) C dX7_readPart_119 (by decide) rfl (fun _ => ?_) (fun h => absurd h (by decide)) 
              refine pv_iconst (q := 131) (v := 0) C dX7_readPart_130 rfl (by decide) ?_ 
              exact pv_iret C (⟨by rw [eH]; exact pres_none (by unfold pPart; rw [c_43, if_neg (by decide), if_pos rfl, hN]), rfl⟩) (by decide) (by decide) dX7_readPart_131
          · refine pv_iload_n (q := 47) C dX7_readPart_46 rfl rfl rfl ?_
            refine pv_bipush (q := 49) (v := 122) C dX7_readPart_47 rfl (by decide) ?_ 
            refine pv_icmp_eq (q := 52) (tgt := 64) C dX7_readPart_49 (by decide) rfl (fun c_49 => ?_) (fun c_49 => ?_) 
            · rw [c_49]
              refine pv_iconst (q := 65) (v := 1) C dX7_readPart_64 rfl (by decide) ?_ 
              refine pv_goto (tgt := 69) C dX7_readPart_65 (by decide) ?_ 
              refine pv_callVv (q := 72) C hKl (c_X7_take1 l X D P a (ht.2.2.1) (hg)) tw_1219 k6 (by decide) rfl mm_X7_take ⟨rfl, rfl⟩ (by rw [hKR]; exact ⟨Nat.le_of_ble_eq_true rfl, Nat.le_of_ble_eq_true rfl⟩) (by rw [hKR]; exact ⟨Nat.le_of_ble_eq_true rfl, Nat.le_of_ble_eq_true rfl⟩) rfl rfl rfl (Nat.le_of_ble_eq_true rfl) dX7_readPart_69 rfl (fun D69 P69 hp69 => ?_) 
              obtain ⟨hR69, rfl⟩ := hp69
              have e69 : D69 = pd D (a + 1) 1 := hR69
              have x69 : D69 12 = D 12 := by rw [hR69]; exact pd_o _ _ _ (by decide)
              have w69 : txt D69 n (a + 1) := by rw [hR69]; exact txt_pd ht (hr_lt (f := D 12) (by rw [c_49]; decide)) 1
              refine pv_aload_n (q := 73) C dX7_readPart_72 rfl rfl rfl ?_ 
              refine pg_7_11 (q := 76) C k6 tw_1006 dX7_readPart_73 rfl ?_ 
              rw [show D69 6 11 = 1 by rw [e69]; exact pd_g _ _ _]
              refine pv_if_eq (q := 79) (tgt := 83) C dX7_readPart_76 (by decide) rfl (fun h => absurd h (by decide)) (fun _ => ?_) 
              refine pv_iload_n (q := 80) C dX7_readPart_79 rfl rfl rfl ?_ 
              refine pv_if_eq (q := 83) (tgt := 100) C dX7_readPart_80 (by decide) rfl (fun _ => ?_) (fun h => absurd h (by decide)) 
              refine pv_iload_n (q := 101) C dX7_readPart_100 rfl rfl rfl ?_ 
              refine pv_bipush (q := 103) (v := 116) C dX7_readPart_101 rfl (by decide) ?_ 
              refine pv_icmp_ne (q := 106) (tgt := 132) C dX7_readPart_103 (by decide) rfl (fun _ => ?_) (fun h => absurd h (by decide)) 
              refine pv_aload_n (q := 133) C dX7_readPart_132 rfl rfl rfl ?_ 
              refine pv_iconst (q := 134) (v := 0) C dX7_readPart_133 rfl (by decide) ?_ 
              refine pv_iconst (q := 135) (v := 2) C dX7_readPart_134 rfl (by decide) ?_ 
              refine pv_callVi (q := 138) C hKl (c_X7_number0 l X D69 P n (a + 1) w69 2 (by decide) (by rw [e69]; exact pd_g _ _ _)) tw_1227 k6 (by decide) rfl mm_X7_number ⟨rfl, rfl⟩ (by rw [hKR]; exact ⟨Nat.le_of_ble_eq_true rfl, Nat.le_of_ble_eq_true rfl⟩) (by rw [hKR]; exact ⟨Nat.le_of_ble_eq_true rfl, Nat.le_of_ble_eq_true rfl⟩) rfl rfl rfl (Nat.le_of_ble_eq_true rfl) dX7_readPart_135 rfl (fun r135 D135 P135 hp135 => ?_) 
              rcases hp135 with ⟨⟨v, b, hN, hb, hv, rfl, hR135⟩ | ⟨hN, rfl, hR135⟩, rfl⟩
              · have e135 : D135 = pd D b 1 := by rw [hR135, e69, pd_pd]
                rw [x69] at hN
                refine pv_istore_n (q := 139) C dX7_readPart_138 rfl rfl (Nat.le_of_ble_eq_true rfl) rfl ?_ 
                refine pv_iload_n (q := 140) C dX7_readPart_139 rfl rfl rfl ?_ 
                refine pv_bipush (q := 142) (v := 122) C dX7_readPart_140 rfl (by decide) ?_ 
                refine pv_icmp_ne (q := 145) (tgt := 175) C dX7_readPart_142 (by decide) rfl (fun h => absurd h (by decide)) (fun _ => ?_) 
                refine pv_aload_n (q := 146) C dX7_readPart_145 rfl rfl rfl ?_ 
                refine pv_aload_n (q := 147) C dX7_readPart_146 rfl rfl rfl ?_ 
                refine pv_iload_n (q := 148) C dX7_readPart_147 rfl rfl rfl ?_ 
                refine pv_callVi (q := 151) C hKl (c_X7_naps l X D135 P _ (by omega)) tw_1089 k6 (by decide) rfl mm_X7_naps ⟨rfl, rfl⟩ (by rw [hKR]; exact ⟨Nat.le_of_ble_eq_true rfl, Nat.le_of_ble_eq_true rfl⟩) (by rw [hKR]; exact ⟨Nat.le_of_ble_eq_true rfl, Nat.le_of_ble_eq_true rfl⟩) rfl rfl rfl (Nat.le_of_ble_eq_true rfl) dX7_readPart_148 rfl (fun r148 D148 P148 hp148 => ?_) 
                rcases hp148 with ⟨⟨hy148, rfl⟩ | ⟨hn148, rfl⟩, rfl, rfl⟩
                · have hv2 : D 7 (32 + 38 * v + 32) = 1 := by rw [e135, pd_o _ _ _ (by decide)] at hy148; exact hy148
                  refine pv_if_ne (q := 154) (tgt := 158) C dX7_readPart_151 (by decide) rfl (fun _ => ?_) (fun h => absurd h (by decide)) 
                  refine pv_iconst (q := 159) (v := 0) C dX7_readPart_158 rfl (by decide) ?_ 
                  refine pv_callVi (q := 162) C hKl (c_X7_happensZ l X D135 P (by rw [e135, pd_k _ _ _ (by decide) (by decide)]; exact hd) (by rw [e135]; exact pd_g _ _ _)) tw_1240 k6 (by decide) rfl mm_X7_happens ⟨rfl, rfl⟩ (by rw [hKR]; exact ⟨Nat.le_of_ble_eq_true rfl, Nat.le_of_ble_eq_true rfl⟩) (by rw [hKR]; exact ⟨Nat.le_of_ble_eq_true rfl, Nat.le_of_ble_eq_true rfl⟩) rfl rfl rfl (Nat.le_of_ble_eq_true rfl) dX7_readPart_159 rfl (fun r159 D159 P159 hp159 => ?_) 
                  rcases hp159 with ⟨⟨hC159, rfl, hH159⟩ | ⟨hC159, rfl, hH159⟩, rfl⟩
                  · have eH : D159 = up2 (pd D (b) 1) 6 13 1 := by rw [hH159, e135]
                    rw [e135, pd_k _ _ _ (by decide) (by decide), pd_k _ _ _ (by decide) (by decide)] at hC159
                    refine pv_if_eq (q := 165) (tgt := 173) C dX7_readPart_162 (by decide) rfl (fun _ => ?_) (fun h => absurd h (by decide)) 
                    refine pv_iconst (q := 174) (v := 0) C dX7_readPart_173 rfl (by decide) ?_ 
                    exact pv_iret C (⟨by rw [eH]; exact pres_no (p := (122, v, 0, 0)) (by unfold pPart; rw [c_49, if_neg (by decide), if_neg (by decide), if_pos (by decide), hN]) hC159.1 hC159.2 (by unfold canP; dsimp only; rw [if_neg (by decide), if_neg (by decide), if_pos rfl]; exact decide_eq_false (fun z => z hv2)), rfl⟩) (by decide) (by decide) dX7_readPart_174
                  · have eH : D159 = pd D (b) 1 := hH159.trans e135
                    rw [e135, pd_k _ _ _ (by decide) (by decide), pd_k _ _ _ (by decide) (by decide)] at hC159
                    refine pv_if_eq (q := 165) (tgt := 173) C dX7_readPart_162 (by decide) rfl (fun _ => ?_) (fun h => absurd h (by decide)) 
                    refine pv_iconst (q := 174) (v := 0) C dX7_readPart_173 rfl (by decide) ?_ 
                    exact pv_iret C (⟨by rw [eH]; exact pres_skip (by unfold pPart; rw [c_49, if_neg (by decide), if_neg (by decide), if_pos (by decide), hN]) hC159, rfl⟩) (by decide) (by decide) dX7_readPart_174
                · have hv2 : ¬ D 7 (32 + 38 * v + 32) = 1 := by rw [e135, pd_o _ _ _ (by decide)] at hn148; exact hn148
                  refine pv_if_ne (q := 154) (tgt := 158) C dX7_readPart_151 (by decide) rfl (fun h => absurd h (by decide)) (fun _ => ?_) 
                  refine pv_iconst (q := 155) (v := 1) C dX7_readPart_154 rfl (by decide) ?_ 
                  refine pv_goto (tgt := 159) C dX7_readPart_155 (by decide) ?_ 
                  refine pv_callVi (q := 162) C hKl (c_X7_happensY l X D135 P (by rw [e135, pd_k _ _ _ (by decide) (by decide)]; exact hd) (by rw [e135]; exact pd_g _ _ _)) tw_1240 k6 (by decide) rfl mm_X7_happens ⟨rfl, rfl⟩ (by rw [hKR]; exact ⟨Nat.le_of_ble_eq_true rfl, Nat.le_of_ble_eq_true rfl⟩) (by rw [hKR]; exact ⟨Nat.le_of_ble_eq_true rfl, Nat.le_of_ble_eq_true rfl⟩) rfl rfl rfl (Nat.le_of_ble_eq_true rfl) dX7_readPart_159 rfl (fun r159 D159 P159 hp159 => ?_) 
                  rcases hp159 with ⟨⟨hC159, rfl, hH159⟩ | ⟨hC159, rfl, hH159⟩, rfl⟩
                  · have eH : D159 = pd D (b) 1 := hH159.trans e135
                    rw [e135, pd_k _ _ _ (by decide) (by decide), pd_k _ _ _ (by decide) (by decide)] at hC159
                    have r7 : D159 7 = D 7 := by rw [eH]; exact pd_o _ _ _ (by decide)
                    have hrr := hrw hC159.1 hC159.2
                    refine pv_if_eq (q := 165) (tgt := 173) C dX7_readPart_162 (by decide) rfl (fun h => absurd h (by decide)) (fun _ => ?_) 
                    refine pv_aload_n (q := 166) C dX7_readPart_165 rfl rfl rfl ?_ 
                    refine pv_iload_n (q := 167) C dX7_readPart_166 rfl rfl rfl ?_ 
                    refine pv_callVi (q := 170) C hKl (c_X7_goNap l X D159 P _ (by omega)) tw_1148 k6 (by decide) rfl mm_X7_goNap ⟨rfl, rfl⟩ (by rw [hKR]; exact ⟨Nat.le_of_ble_eq_true rfl, Nat.le_of_ble_eq_true rfl⟩) (by rw [hKR]; exact ⟨Nat.le_of_ble_eq_true rfl, Nat.le_of_ble_eq_true rfl⟩) rfl rfl rfl (Nat.le_of_ble_eq_true rfl) dX7_readPart_167 rfl (fun r167 D167 P167 hp167 => ?_) 
                    obtain ⟨rfl, hR167, rfl⟩ := hp167
                    refine pv_goto (tgt := 174) C dX7_readPart_170 (by decide) ?_ 
                    exact pv_iret C (⟨by rw [hR167, r7, eH]; exact pres_go (p := (122, v, 0, 0)) (by unfold pPart; rw [c_49, if_neg (by decide), if_neg (by decide), if_pos (by decide), hN]) hC159.1 hC159.2 (by unfold canP; dsimp only; rw [if_neg (by decide), if_neg (by decide), if_pos rfl]; exact decide_eq_true hv2) (by unfold goP; dsimp only; rw [if_neg (by decide), if_neg (by decide), if_neg (by decide), if_neg (by decide), if_neg (by decide), if_pos rfl]), rfl⟩) (by decide) (by decide) dX7_readPart_174
                  · have eH : D159 = pd D (b) 1 := hH159.trans e135
                    rw [e135, pd_k _ _ _ (by decide) (by decide), pd_k _ _ _ (by decide) (by decide)] at hC159
                    refine pv_if_eq (q := 165) (tgt := 173) C dX7_readPart_162 (by decide) rfl (fun _ => ?_) (fun h => absurd h (by decide)) 
                    refine pv_iconst (q := 174) (v := 0) C dX7_readPart_173 rfl (by decide) ?_ 
                    exact pv_iret C (⟨by rw [eH]; exact pres_skip (by unfold pPart; rw [c_49, if_neg (by decide), if_neg (by decide), if_pos (by decide), hN]) hC159, rfl⟩) (by decide) (by decide) dX7_readPart_174
              · have e135 : D135 = pd D (a + 1) 0 := by rw [hR135, e69, pd_pd]
                rw [x69] at hN
                refine pv_istore_n (q := 139) C dX7_readPart_138 rfl rfl (Nat.le_of_ble_eq_true rfl) rfl ?_ 
                refine pv_iload_n (q := 140) C dX7_readPart_139 rfl rfl rfl ?_ 
                refine pv_bipush (q := 142) (v := 122) C dX7_readPart_140 rfl (by decide) ?_ 
                refine pv_icmp_ne (q := 145) (tgt := 175) C dX7_readPart_142 (by decide) rfl (fun h => absurd h (by decide)) (fun _ => ?_) 
                refine pv_aload_n (q := 146) C dX7_readPart_145 rfl rfl rfl ?_ 
                refine pv_aload_n (q := 147) C dX7_readPart_146 rfl rfl rfl ?_ 
                refine pv_iload_n (q := 148) C dX7_readPart_147 rfl rfl rfl ?_ 
                refine pv_callVi (q := 151) C hKl (c_X7_naps l X D135 P _ (by omega)) tw_1089 k6 (by decide) rfl mm_X7_naps ⟨rfl, rfl⟩ (by rw [hKR]; exact ⟨Nat.le_of_ble_eq_true rfl, Nat.le_of_ble_eq_true rfl⟩) (by rw [hKR]; exact ⟨Nat.le_of_ble_eq_true rfl, Nat.le_of_ble_eq_true rfl⟩) rfl rfl rfl (Nat.le_of_ble_eq_true rfl) dX7_readPart_148 rfl (fun r148 D148 P148 hp148 => ?_) 
                rcases hp148 with ⟨⟨hy148, rfl⟩ | ⟨hn148, rfl⟩, rfl, rfl⟩
                · have hv2 : D 7 (32 + 38 * 0 + 32) = 1 := by rw [e135, pd_o _ _ _ (by decide)] at hy148; exact hy148
                  refine pv_if_ne (q := 154) (tgt := 158) C dX7_readPart_151 (by decide) rfl (fun _ => ?_) (fun h => absurd h (by decide)) 
                  refine pv_iconst (q := 159) (v := 0) C dX7_readPart_158 rfl (by decide) ?_ 
                  refine pv_callVi (q := 162) C hKl (c_X7_happensN l X D135 P _ (by rw [e135]; exact pd_g _ _ _)) tw_1240 k6 (by decide) rfl mm_X7_happens ⟨rfl, rfl⟩ (by rw [hKR]; exact ⟨Nat.le_of_ble_eq_true rfl, Nat.le_of_ble_eq_true rfl⟩) (by rw [hKR]; exact ⟨Nat.le_of_ble_eq_true rfl, Nat.le_of_ble_eq_true rfl⟩) rfl rfl rfl (Nat.le_of_ble_eq_true rfl) dX7_readPart_159 rfl (fun r159 D159 P159 hp159 => ?_) 
                  obtain ⟨rfl, hH159, rfl⟩ := hp159
                  have eH : D159 = pd D (a + 1) 0 := hH159.trans e135
                  refine pv_if_eq (q := 165) (tgt := 173) C dX7_readPart_162 (by decide) rfl (fun _ => ?_) (fun h => absurd h (by decide)) 
                  refine pv_iconst (q := 174) (v := 0) C dX7_readPart_173 rfl (by decide) ?_ 
                  exact pv_iret C (⟨by rw [eH]; exact pres_none (by unfold pPart; rw [c_49, if_neg (by decide), if_neg (by decide), if_pos (by decide), hN]), rfl⟩) (by decide) (by decide) dX7_readPart_174
                · have hv2 : ¬ D 7 (32 + 38 * 0 + 32) = 1 := by rw [e135, pd_o _ _ _ (by decide)] at hn148; exact hn148
                  refine pv_if_ne (q := 154) (tgt := 158) C dX7_readPart_151 (by decide) rfl (fun h => absurd h (by decide)) (fun _ => ?_) 
                  refine pv_iconst (q := 155) (v := 1) C dX7_readPart_154 rfl (by decide) ?_ 
                  refine pv_goto (tgt := 159) C dX7_readPart_155 (by decide) ?_ 
                  refine pv_callVi (q := 162) C hKl (c_X7_happensN l X D135 P _ (by rw [e135]; exact pd_g _ _ _)) tw_1240 k6 (by decide) rfl mm_X7_happens ⟨rfl, rfl⟩ (by rw [hKR]; exact ⟨Nat.le_of_ble_eq_true rfl, Nat.le_of_ble_eq_true rfl⟩) (by rw [hKR]; exact ⟨Nat.le_of_ble_eq_true rfl, Nat.le_of_ble_eq_true rfl⟩) rfl rfl rfl (Nat.le_of_ble_eq_true rfl) dX7_readPart_159 rfl (fun r159 D159 P159 hp159 => ?_) 
                  obtain ⟨rfl, hH159, rfl⟩ := hp159
                  have eH : D159 = pd D (a + 1) 0 := hH159.trans e135
                  refine pv_if_eq (q := 165) (tgt := 173) C dX7_readPart_162 (by decide) rfl (fun _ => ?_) (fun h => absurd h (by decide)) 
                  refine pv_iconst (q := 174) (v := 0) C dX7_readPart_173 rfl (by decide) ?_ 
                  exact pv_iret C (⟨by rw [eH]; exact pres_none (by unfold pPart; rw [c_49, if_neg (by decide), if_neg (by decide), if_pos (by decide), hN]), rfl⟩) (by decide) (by decide) dX7_readPart_174
            · refine pv_iload_n (q := 53) C dX7_readPart_52 rfl rfl rfl ?_
              refine pv_bipush (q := 55) (v := 119) C dX7_readPart_53 rfl (by decide) ?_ 
              refine pv_icmp_eq (q := 58) (tgt := 64) C dX7_readPart_55 (by decide) rfl (fun c_55 => ?_) (fun c_55 => ?_) 
              · rw [c_55]
                refine pv_iconst (q := 65) (v := 1) C dX7_readPart_64 rfl (by decide) ?_ 
                refine pv_goto (tgt := 69) C dX7_readPart_65 (by decide) ?_ 
                refine pv_callVv (q := 72) C hKl (c_X7_take1 l X D P a (ht.2.2.1) (hg)) tw_1219 k6 (by decide) rfl mm_X7_take ⟨rfl, rfl⟩ (by rw [hKR]; exact ⟨Nat.le_of_ble_eq_true rfl, Nat.le_of_ble_eq_true rfl⟩) (by rw [hKR]; exact ⟨Nat.le_of_ble_eq_true rfl, Nat.le_of_ble_eq_true rfl⟩) rfl rfl rfl (Nat.le_of_ble_eq_true rfl) dX7_readPart_69 rfl (fun D69 P69 hp69 => ?_) 
                obtain ⟨hR69, rfl⟩ := hp69
                have e69 : D69 = pd D (a + 1) 1 := hR69
                have x69 : D69 12 = D 12 := by rw [hR69]; exact pd_o _ _ _ (by decide)
                have w69 : txt D69 n (a + 1) := by rw [hR69]; exact txt_pd ht (hr_lt (f := D 12) (by rw [c_55]; decide)) 1
                refine pv_aload_n (q := 73) C dX7_readPart_72 rfl rfl rfl ?_ 
                refine pg_7_11 (q := 76) C k6 tw_1006 dX7_readPart_73 rfl ?_ 
                rw [show D69 6 11 = 1 by rw [e69]; exact pd_g _ _ _]
                refine pv_if_eq (q := 79) (tgt := 83) C dX7_readPart_76 (by decide) rfl (fun h => absurd h (by decide)) (fun _ => ?_) 
                refine pv_iload_n (q := 80) C dX7_readPart_79 rfl rfl rfl ?_ 
                refine pv_if_eq (q := 83) (tgt := 100) C dX7_readPart_80 (by decide) rfl (fun _ => ?_) (fun h => absurd h (by decide)) 
                refine pv_iload_n (q := 101) C dX7_readPart_100 rfl rfl rfl ?_ 
                refine pv_bipush (q := 103) (v := 116) C dX7_readPart_101 rfl (by decide) ?_ 
                refine pv_icmp_ne (q := 106) (tgt := 132) C dX7_readPart_103 (by decide) rfl (fun _ => ?_) (fun h => absurd h (by decide)) 
                refine pv_aload_n (q := 133) C dX7_readPart_132 rfl rfl rfl ?_ 
                refine pv_iconst (q := 134) (v := 0) C dX7_readPart_133 rfl (by decide) ?_ 
                refine pv_iconst (q := 135) (v := 2) C dX7_readPart_134 rfl (by decide) ?_ 
                refine pv_callVi (q := 138) C hKl (c_X7_number0 l X D69 P n (a + 1) w69 2 (by decide) (by rw [e69]; exact pd_g _ _ _)) tw_1227 k6 (by decide) rfl mm_X7_number ⟨rfl, rfl⟩ (by rw [hKR]; exact ⟨Nat.le_of_ble_eq_true rfl, Nat.le_of_ble_eq_true rfl⟩) (by rw [hKR]; exact ⟨Nat.le_of_ble_eq_true rfl, Nat.le_of_ble_eq_true rfl⟩) rfl rfl rfl (Nat.le_of_ble_eq_true rfl) dX7_readPart_135 rfl (fun r135 D135 P135 hp135 => ?_) 
                rcases hp135 with ⟨⟨v, b, hN, hb, hv, rfl, hR135⟩ | ⟨hN, rfl, hR135⟩, rfl⟩
                · have e135 : D135 = pd D b 1 := by rw [hR135, e69, pd_pd]
                  rw [x69] at hN
                  refine pv_istore_n (q := 139) C dX7_readPart_138 rfl rfl (Nat.le_of_ble_eq_true rfl) rfl ?_ 
                  refine pv_iload_n (q := 140) C dX7_readPart_139 rfl rfl rfl ?_ 
                  refine pv_bipush (q := 142) (v := 122) C dX7_readPart_140 rfl (by decide) ?_ 
                  refine pv_icmp_ne (q := 145) (tgt := 175) C dX7_readPart_142 (by decide) rfl (fun _ => ?_) (fun h => absurd h (by decide)) 
                  refine pv_iload_n (q := 176) C dX7_readPart_175 rfl rfl rfl ?_ 
                  refine pv_bipush (q := 178) (v := 119) C dX7_readPart_176 rfl (by decide) ?_ 
                  refine pv_icmp_ne (q := 181) (tgt := 203) C dX7_readPart_178 (by decide) rfl (fun h => absurd h (by decide)) (fun _ => ?_) 
                  refine pv_aload_n (q := 182) C dX7_readPart_181 rfl rfl rfl ?_ 
                  refine pv_aload_n (q := 183) C dX7_readPart_182 rfl rfl rfl ?_ 
                  refine pv_iload_n (q := 184) C dX7_readPart_183 rfl rfl rfl ?_ 
                  refine pv_callVi (q := 187) C hKl (c_X7_naps l X D135 P _ (by omega)) tw_1089 k6 (by decide) rfl mm_X7_naps ⟨rfl, rfl⟩ (by rw [hKR]; exact ⟨Nat.le_of_ble_eq_true rfl, Nat.le_of_ble_eq_true rfl⟩) (by rw [hKR]; exact ⟨Nat.le_of_ble_eq_true rfl, Nat.le_of_ble_eq_true rfl⟩) rfl rfl rfl (Nat.le_of_ble_eq_true rfl) dX7_readPart_184 rfl (fun r184 D184 P184 hp184 => ?_) 
                  rcases hp184 with ⟨⟨hy184, rfl⟩ | ⟨hn184, rfl⟩, rfl, rfl⟩
                  · have hv2 : D 7 (32 + 38 * v + 32) = 1 := by rw [e135, pd_o _ _ _ (by decide)] at hy184; exact hy184
                    refine pv_callVi (q := 190) C hKl (c_X7_happensY l X D135 P (by rw [e135, pd_k _ _ _ (by decide) (by decide)]; exact hd) (by rw [e135]; exact pd_g _ _ _)) tw_1240 k6 (by decide) rfl mm_X7_happens ⟨rfl, rfl⟩ (by rw [hKR]; exact ⟨Nat.le_of_ble_eq_true rfl, Nat.le_of_ble_eq_true rfl⟩) (by rw [hKR]; exact ⟨Nat.le_of_ble_eq_true rfl, Nat.le_of_ble_eq_true rfl⟩) rfl rfl rfl (Nat.le_of_ble_eq_true rfl) dX7_readPart_187 rfl (fun r187 D187 P187 hp187 => ?_) 
                    rcases hp187 with ⟨⟨hC187, rfl, hH187⟩ | ⟨hC187, rfl, hH187⟩, rfl⟩
                    · have eH : D187 = pd D (b) 1 := hH187.trans e135
                      rw [e135, pd_k _ _ _ (by decide) (by decide), pd_k _ _ _ (by decide) (by decide)] at hC187
                      have r7 : D187 7 = D 7 := by rw [eH]; exact pd_o _ _ _ (by decide)
                      have hrr := hrw hC187.1 hC187.2
                      refine pv_if_eq (q := 193) (tgt := 201) C dX7_readPart_190 (by decide) rfl (fun h => absurd h (by decide)) (fun _ => ?_) 
                      refine pv_aload_n (q := 194) C dX7_readPart_193 rfl rfl rfl ?_ 
                      refine pv_iload_n (q := 195) C dX7_readPart_194 rfl rfl rfl ?_ 
                      refine pv_callVi (q := 198) C hKl (c_X7_rouse l X D187 P _ (by omega)) tw_1104 k6 (by decide) rfl mm_X7_rouse ⟨rfl, rfl⟩ (by rw [hKR]; exact ⟨Nat.le_of_ble_eq_true rfl, Nat.le_of_ble_eq_true rfl⟩) (by rw [hKR]; exact ⟨Nat.le_of_ble_eq_true rfl, Nat.le_of_ble_eq_true rfl⟩) rfl rfl rfl (Nat.le_of_ble_eq_true rfl) dX7_readPart_195 rfl (fun r195 D195 P195 hp195 => ?_) 
                      obtain ⟨rfl, hR195, rfl⟩ := hp195
                      refine pv_goto (tgt := 202) C dX7_readPart_198 (by decide) ?_ 
                      exact pv_iret C (⟨by rw [hR195, r7, eH]; exact pres_go (p := (119, v, 0, 0)) (by unfold pPart; rw [c_55, if_neg (by decide), if_neg (by decide), if_pos (by decide), hN]) hC187.1 hC187.2 (by unfold canP; dsimp only; rw [if_neg (by decide), if_neg (by decide), if_neg (by decide), if_pos rfl]; exact decide_eq_true hv2) (by unfold goP; dsimp only; rw [if_neg (by decide), if_neg (by decide), if_neg (by decide), if_neg (by decide), if_neg (by decide), if_neg (by decide), if_pos rfl]), rfl⟩) (by decide) (by decide) dX7_readPart_202
                    · have eH : D187 = pd D (b) 1 := hH187.trans e135
                      rw [e135, pd_k _ _ _ (by decide) (by decide), pd_k _ _ _ (by decide) (by decide)] at hC187
                      refine pv_if_eq (q := 193) (tgt := 201) C dX7_readPart_190 (by decide) rfl (fun _ => ?_) (fun h => absurd h (by decide)) 
                      refine pv_iconst (q := 202) (v := 0) C dX7_readPart_201 rfl (by decide) ?_ 
                      exact pv_iret C (⟨by rw [eH]; exact pres_skip (by unfold pPart; rw [c_55, if_neg (by decide), if_neg (by decide), if_pos (by decide), hN]) hC187, rfl⟩) (by decide) (by decide) dX7_readPart_202
                  · have hv2 : ¬ D 7 (32 + 38 * v + 32) = 1 := by rw [e135, pd_o _ _ _ (by decide)] at hn184; exact hn184
                    refine pv_callVi (q := 190) C hKl (c_X7_happensZ l X D135 P (by rw [e135, pd_k _ _ _ (by decide) (by decide)]; exact hd) (by rw [e135]; exact pd_g _ _ _)) tw_1240 k6 (by decide) rfl mm_X7_happens ⟨rfl, rfl⟩ (by rw [hKR]; exact ⟨Nat.le_of_ble_eq_true rfl, Nat.le_of_ble_eq_true rfl⟩) (by rw [hKR]; exact ⟨Nat.le_of_ble_eq_true rfl, Nat.le_of_ble_eq_true rfl⟩) rfl rfl rfl (Nat.le_of_ble_eq_true rfl) dX7_readPart_187 rfl (fun r187 D187 P187 hp187 => ?_) 
                    rcases hp187 with ⟨⟨hC187, rfl, hH187⟩ | ⟨hC187, rfl, hH187⟩, rfl⟩
                    · have eH : D187 = up2 (pd D (b) 1) 6 13 1 := by rw [hH187, e135]
                      rw [e135, pd_k _ _ _ (by decide) (by decide), pd_k _ _ _ (by decide) (by decide)] at hC187
                      refine pv_if_eq (q := 193) (tgt := 201) C dX7_readPart_190 (by decide) rfl (fun _ => ?_) (fun h => absurd h (by decide)) 
                      refine pv_iconst (q := 202) (v := 0) C dX7_readPart_201 rfl (by decide) ?_ 
                      exact pv_iret C (⟨by rw [eH]; exact pres_no (p := (119, v, 0, 0)) (by unfold pPart; rw [c_55, if_neg (by decide), if_neg (by decide), if_pos (by decide), hN]) hC187.1 hC187.2 (by unfold canP; dsimp only; rw [if_neg (by decide), if_neg (by decide), if_neg (by decide), if_pos rfl]; exact decide_eq_false hv2), rfl⟩) (by decide) (by decide) dX7_readPart_202
                    · have eH : D187 = pd D (b) 1 := hH187.trans e135
                      rw [e135, pd_k _ _ _ (by decide) (by decide), pd_k _ _ _ (by decide) (by decide)] at hC187
                      refine pv_if_eq (q := 193) (tgt := 201) C dX7_readPart_190 (by decide) rfl (fun _ => ?_) (fun h => absurd h (by decide)) 
                      refine pv_iconst (q := 202) (v := 0) C dX7_readPart_201 rfl (by decide) ?_ 
                      exact pv_iret C (⟨by rw [eH]; exact pres_skip (by unfold pPart; rw [c_55, if_neg (by decide), if_neg (by decide), if_pos (by decide), hN]) hC187, rfl⟩) (by decide) (by decide) dX7_readPart_202
                · have e135 : D135 = pd D (a + 1) 0 := by rw [hR135, e69, pd_pd]
                  rw [x69] at hN
                  refine pv_istore_n (q := 139) C dX7_readPart_138 rfl rfl (Nat.le_of_ble_eq_true rfl) rfl ?_ 
                  refine pv_iload_n (q := 140) C dX7_readPart_139 rfl rfl rfl ?_ 
                  refine pv_bipush (q := 142) (v := 122) C dX7_readPart_140 rfl (by decide) ?_ 
                  refine pv_icmp_ne (q := 145) (tgt := 175) C dX7_readPart_142 (by decide) rfl (fun _ => ?_) (fun h => absurd h (by decide)) 
                  refine pv_iload_n (q := 176) C dX7_readPart_175 rfl rfl rfl ?_ 
                  refine pv_bipush (q := 178) (v := 119) C dX7_readPart_176 rfl (by decide) ?_ 
                  refine pv_icmp_ne (q := 181) (tgt := 203) C dX7_readPart_178 (by decide) rfl (fun h => absurd h (by decide)) (fun _ => ?_) 
                  refine pv_aload_n (q := 182) C dX7_readPart_181 rfl rfl rfl ?_ 
                  refine pv_aload_n (q := 183) C dX7_readPart_182 rfl rfl rfl ?_ 
                  refine pv_iload_n (q := 184) C dX7_readPart_183 rfl rfl rfl ?_ 
                  refine pv_callVi (q := 187) C hKl (c_X7_naps l X D135 P _ (by omega)) tw_1089 k6 (by decide) rfl mm_X7_naps ⟨rfl, rfl⟩ (by rw [hKR]; exact ⟨Nat.le_of_ble_eq_true rfl, Nat.le_of_ble_eq_true rfl⟩) (by rw [hKR]; exact ⟨Nat.le_of_ble_eq_true rfl, Nat.le_of_ble_eq_true rfl⟩) rfl rfl rfl (Nat.le_of_ble_eq_true rfl) dX7_readPart_184 rfl (fun r184 D184 P184 hp184 => ?_) 
                  rcases hp184 with ⟨⟨hy184, rfl⟩ | ⟨hn184, rfl⟩, rfl, rfl⟩
                  · have hv2 : D 7 (32 + 38 * 0 + 32) = 1 := by rw [e135, pd_o _ _ _ (by decide)] at hy184; exact hy184
                    refine pv_callVi (q := 190) C hKl (c_X7_happensN l X D135 P _ (by rw [e135]; exact pd_g _ _ _)) tw_1240 k6 (by decide) rfl mm_X7_happens ⟨rfl, rfl⟩ (by rw [hKR]; exact ⟨Nat.le_of_ble_eq_true rfl, Nat.le_of_ble_eq_true rfl⟩) (by rw [hKR]; exact ⟨Nat.le_of_ble_eq_true rfl, Nat.le_of_ble_eq_true rfl⟩) rfl rfl rfl (Nat.le_of_ble_eq_true rfl) dX7_readPart_187 rfl (fun r187 D187 P187 hp187 => ?_) 
                    obtain ⟨rfl, hH187, rfl⟩ := hp187
                    have eH : D187 = pd D (a + 1) 0 := hH187.trans e135
                    refine pv_if_eq (q := 193) (tgt := 201) C dX7_readPart_190 (by decide) rfl (fun _ => ?_) (fun h => absurd h (by decide)) 
                    refine pv_iconst (q := 202) (v := 0) C dX7_readPart_201 rfl (by decide) ?_ 
                    exact pv_iret C (⟨by rw [eH]; exact pres_none (by unfold pPart; rw [c_55, if_neg (by decide), if_neg (by decide), if_pos (by decide), hN]), rfl⟩) (by decide) (by decide) dX7_readPart_202
                  · have hv2 : ¬ D 7 (32 + 38 * 0 + 32) = 1 := by rw [e135, pd_o _ _ _ (by decide)] at hn184; exact hn184
                    refine pv_callVi (q := 190) C hKl (c_X7_happensN l X D135 P _ (by rw [e135]; exact pd_g _ _ _)) tw_1240 k6 (by decide) rfl mm_X7_happens ⟨rfl, rfl⟩ (by rw [hKR]; exact ⟨Nat.le_of_ble_eq_true rfl, Nat.le_of_ble_eq_true rfl⟩) (by rw [hKR]; exact ⟨Nat.le_of_ble_eq_true rfl, Nat.le_of_ble_eq_true rfl⟩) rfl rfl rfl (Nat.le_of_ble_eq_true rfl) dX7_readPart_187 rfl (fun r187 D187 P187 hp187 => ?_) 
                    obtain ⟨rfl, hH187, rfl⟩ := hp187
                    have eH : D187 = pd D (a + 1) 0 := hH187.trans e135
                    refine pv_if_eq (q := 193) (tgt := 201) C dX7_readPart_190 (by decide) rfl (fun _ => ?_) (fun h => absurd h (by decide)) 
                    refine pv_iconst (q := 202) (v := 0) C dX7_readPart_201 rfl (by decide) ?_ 
                    exact pv_iret C (⟨by rw [eH]; exact pres_none (by unfold pPart; rw [c_55, if_neg (by decide), if_neg (by decide), if_pos (by decide), hN]), rfl⟩) (by decide) (by decide) dX7_readPart_202
              · refine pv_iload_n (q := 59) C dX7_readPart_58 rfl rfl rfl ?_
                refine pv_bipush (q := 61) (v := 114) C dX7_readPart_59 rfl (by decide) ?_ 
                refine pv_icmp_ne (q := 64) (tgt := 68) C dX7_readPart_61 (by decide) rfl (fun c_61 => ?_) (fun c_61 => ?_) 
                · refine pv_iconst (q := 69) (v := 0) C dX7_readPart_68 rfl (by decide) ?_
                  refine pv_callVv (q := 72) C hKl (c_X7_take0 l X D P a (ht.2.2.1)) tw_1219 k6 (by decide) rfl mm_X7_take ⟨rfl, rfl⟩ (by rw [hKR]; exact ⟨Nat.le_of_ble_eq_true rfl, Nat.le_of_ble_eq_true rfl⟩) (by rw [hKR]; exact ⟨Nat.le_of_ble_eq_true rfl, Nat.le_of_ble_eq_true rfl⟩) rfl rfl rfl (Nat.le_of_ble_eq_true rfl) dX7_readPart_69 rfl (fun D69 P69 hp69 => ?_) 
                  obtain ⟨hR69, rfl⟩ := hp69
                  have e69 : D69 = pd D a 0 := hR69
                  refine pv_aload_n (q := 73) C dX7_readPart_72 rfl rfl rfl ?_ 
                  refine pg_7_11 (q := 76) C k6 tw_1006 dX7_readPart_73 rfl ?_ 
                  rw [show D69 6 11 = 0 by rw [e69]; exact pd_g _ _ _]
                  refine pv_if_eq (q := 79) (tgt := 83) C dX7_readPart_76 (by decide) rfl (fun _ => ?_) (fun h => absurd h (by decide)) 
                  refine pv_aload_n (q := 84) C dX7_readPart_83 rfl rfl rfl ?_ 
                  refine pg_7_11 (q := 87) C k6 tw_1006 dX7_readPart_84 rfl ?_ 
                  rw [show D69 6 11 = 0 by rw [e69]; exact pd_g _ _ _]
                  refine pv_if_eq (q := 90) (tgt := 98) C dX7_readPart_87 (by decide) rfl (fun _ => ?_) (fun h => absurd h (by decide)) 
                  refine pv_iconst (q := 99) (v := 0) C dX7_readPart_98 rfl (by decide) ?_ 
                  exact pv_iret C (⟨by rw [e69]; exact pres_none (by unfold pPart; rw [if_neg (by simp only [not_or]; exact ⟨c_8, c_14, c_20, c_26⟩), if_neg c_43, if_neg (by simp only [not_or]; exact ⟨c_49, c_55, c_61⟩)]), rfl⟩) (by decide) (by decide) dX7_readPart_99
                · rw [c_61]
                  refine pv_iconst (q := 65) (v := 1) C dX7_readPart_64 rfl (by decide) ?_ 
                  refine pv_goto (tgt := 69) C dX7_readPart_65 (by decide) ?_ 
                  refine pv_callVv (q := 72) C hKl (c_X7_take1 l X D P a (ht.2.2.1) (hg)) tw_1219 k6 (by decide) rfl mm_X7_take ⟨rfl, rfl⟩ (by rw [hKR]; exact ⟨Nat.le_of_ble_eq_true rfl, Nat.le_of_ble_eq_true rfl⟩) (by rw [hKR]; exact ⟨Nat.le_of_ble_eq_true rfl, Nat.le_of_ble_eq_true rfl⟩) rfl rfl rfl (Nat.le_of_ble_eq_true rfl) dX7_readPart_69 rfl (fun D69 P69 hp69 => ?_) 
                  obtain ⟨hR69, rfl⟩ := hp69
                  have e69 : D69 = pd D (a + 1) 1 := hR69
                  have x69 : D69 12 = D 12 := by rw [hR69]; exact pd_o _ _ _ (by decide)
                  have w69 : txt D69 n (a + 1) := by rw [hR69]; exact txt_pd ht (hr_lt (f := D 12) (by rw [c_61]; decide)) 1
                  refine pv_aload_n (q := 73) C dX7_readPart_72 rfl rfl rfl ?_ 
                  refine pg_7_11 (q := 76) C k6 tw_1006 dX7_readPart_73 rfl ?_ 
                  rw [show D69 6 11 = 1 by rw [e69]; exact pd_g _ _ _]
                  refine pv_if_eq (q := 79) (tgt := 83) C dX7_readPart_76 (by decide) rfl (fun h => absurd h (by decide)) (fun _ => ?_) 
                  refine pv_iload_n (q := 80) C dX7_readPart_79 rfl rfl rfl ?_ 
                  refine pv_if_eq (q := 83) (tgt := 100) C dX7_readPart_80 (by decide) rfl (fun _ => ?_) (fun h => absurd h (by decide)) 
                  refine pv_iload_n (q := 101) C dX7_readPart_100 rfl rfl rfl ?_ 
                  refine pv_bipush (q := 103) (v := 116) C dX7_readPart_101 rfl (by decide) ?_ 
                  refine pv_icmp_ne (q := 106) (tgt := 132) C dX7_readPart_103 (by decide) rfl (fun _ => ?_) (fun h => absurd h (by decide)) 
                  refine pv_aload_n (q := 133) C dX7_readPart_132 rfl rfl rfl ?_ 
                  refine pv_iconst (q := 134) (v := 0) C dX7_readPart_133 rfl (by decide) ?_ 
                  refine pv_iconst (q := 135) (v := 2) C dX7_readPart_134 rfl (by decide) ?_ 
                  refine pv_callVi (q := 138) C hKl (c_X7_number0 l X D69 P n (a + 1) w69 2 (by decide) (by rw [e69]; exact pd_g _ _ _)) tw_1227 k6 (by decide) rfl mm_X7_number ⟨rfl, rfl⟩ (by rw [hKR]; exact ⟨Nat.le_of_ble_eq_true rfl, Nat.le_of_ble_eq_true rfl⟩) (by rw [hKR]; exact ⟨Nat.le_of_ble_eq_true rfl, Nat.le_of_ble_eq_true rfl⟩) rfl rfl rfl (Nat.le_of_ble_eq_true rfl) dX7_readPart_135 rfl (fun r135 D135 P135 hp135 => ?_) 
                  rcases hp135 with ⟨⟨v, b, hN, hb, hv, rfl, hR135⟩ | ⟨hN, rfl, hR135⟩, rfl⟩
                  · have e135 : D135 = pd D b 1 := by rw [hR135, e69, pd_pd]
                    rw [x69] at hN
                    refine pv_istore_n (q := 139) C dX7_readPart_138 rfl rfl (Nat.le_of_ble_eq_true rfl) rfl ?_ 
                    refine pv_iload_n (q := 140) C dX7_readPart_139 rfl rfl rfl ?_ 
                    refine pv_bipush (q := 142) (v := 122) C dX7_readPart_140 rfl (by decide) ?_ 
                    refine pv_icmp_ne (q := 145) (tgt := 175) C dX7_readPart_142 (by decide) rfl (fun _ => ?_) (fun h => absurd h (by decide)) 
                    refine pv_iload_n (q := 176) C dX7_readPart_175 rfl rfl rfl ?_ 
                    refine pv_bipush (q := 178) (v := 119) C dX7_readPart_176 rfl (by decide) ?_ 
                    refine pv_icmp_ne (q := 181) (tgt := 203) C dX7_readPart_178 (by decide) rfl (fun _ => ?_) (fun h => absurd h (by decide)) 
                    refine pv_aload_n (q := 204) C dX7_readPart_203 rfl rfl rfl ?_ 
                    refine pv_iconst (q := 205) (v := 1) C dX7_readPart_204 rfl (by decide) ?_ 
                    refine pv_callVi (q := 208) C hKl (c_X7_happensY l X D135 P (by rw [e135, pd_k _ _ _ (by decide) (by decide)]; exact hd) (by rw [e135]; exact pd_g _ _ _)) tw_1240 k6 (by decide) rfl mm_X7_happens ⟨rfl, rfl⟩ (by rw [hKR]; exact ⟨Nat.le_of_ble_eq_true rfl, Nat.le_of_ble_eq_true rfl⟩) (by rw [hKR]; exact ⟨Nat.le_of_ble_eq_true rfl, Nat.le_of_ble_eq_true rfl⟩) rfl rfl rfl (Nat.le_of_ble_eq_true rfl) dX7_readPart_205 rfl (fun r205 D205 P205 hp205 => ?_) 
                    rcases hp205 with ⟨⟨hC205, rfl, hH205⟩ | ⟨hC205, rfl, hH205⟩, rfl⟩
                    · have eH : D205 = pd D (b) 1 := hH205.trans e135
                      rw [e135, pd_k _ _ _ (by decide) (by decide), pd_k _ _ _ (by decide) (by decide)] at hC205
                      have r7 : D205 7 = D 7 := by rw [eH]; exact pd_o _ _ _ (by decide)
                      have hrr := hrw hC205.1 hC205.2
                      refine pv_if_eq (q := 211) (tgt := 219) C dX7_readPart_208 (by decide) rfl (fun h => absurd h (by decide)) (fun _ => ?_) 
                      refine pv_aload_n (q := 212) C dX7_readPart_211 rfl rfl rfl ?_ 
                      refine pv_iload_n (q := 213) C dX7_readPart_212 rfl rfl rfl ?_ 
                      refine pv_callVi (q := 216) C hKl (c_X7_goRefresh l X D205 P _ (by omega)) tw_1164 k6 (by decide) rfl mm_X7_goRefresh ⟨rfl, rfl⟩ (by rw [hKR]; exact ⟨Nat.le_of_ble_eq_true rfl, Nat.le_of_ble_eq_true rfl⟩) (by rw [hKR]; exact ⟨Nat.le_of_ble_eq_true rfl, Nat.le_of_ble_eq_true rfl⟩) rfl rfl rfl (Nat.le_of_ble_eq_true rfl) dX7_readPart_213 rfl (fun r213 D213 P213 hp213 => ?_) 
                      obtain ⟨rfl, hR213, rfl⟩ := hp213
                      refine pv_goto (tgt := 220) C dX7_readPart_216 (by decide) ?_ 
                      exact pv_iret C (⟨by rw [hR213, r7, eH]; exact pres_go (p := (114, v, 0, 0)) (by unfold pPart; rw [c_61, if_neg (by decide), if_neg (by decide), if_pos (by decide), hN]) hC205.1 hC205.2 (by rfl) (by unfold goP; dsimp only; rw [if_neg (by decide), if_neg (by decide), if_neg (by decide), if_neg (by decide), if_neg (by decide), if_neg (by decide), if_neg (by decide)]), rfl⟩) (by decide) (by decide) dX7_readPart_220
                    · have eH : D205 = pd D (b) 1 := hH205.trans e135
                      rw [e135, pd_k _ _ _ (by decide) (by decide), pd_k _ _ _ (by decide) (by decide)] at hC205
                      refine pv_if_eq (q := 211) (tgt := 219) C dX7_readPart_208 (by decide) rfl (fun _ => ?_) (fun h => absurd h (by decide)) 
                      refine pv_iconst (q := 220) (v := 0) C dX7_readPart_219 rfl (by decide) ?_ 
                      exact pv_iret C (⟨by rw [eH]; exact pres_skip (by unfold pPart; rw [c_61, if_neg (by decide), if_neg (by decide), if_pos (by decide), hN]) hC205, rfl⟩) (by decide) (by decide) dX7_readPart_220
                  · have e135 : D135 = pd D (a + 1) 0 := by rw [hR135, e69, pd_pd]
                    rw [x69] at hN
                    refine pv_istore_n (q := 139) C dX7_readPart_138 rfl rfl (Nat.le_of_ble_eq_true rfl) rfl ?_ 
                    refine pv_iload_n (q := 140) C dX7_readPart_139 rfl rfl rfl ?_ 
                    refine pv_bipush (q := 142) (v := 122) C dX7_readPart_140 rfl (by decide) ?_ 
                    refine pv_icmp_ne (q := 145) (tgt := 175) C dX7_readPart_142 (by decide) rfl (fun _ => ?_) (fun h => absurd h (by decide)) 
                    refine pv_iload_n (q := 176) C dX7_readPart_175 rfl rfl rfl ?_ 
                    refine pv_bipush (q := 178) (v := 119) C dX7_readPart_176 rfl (by decide) ?_ 
                    refine pv_icmp_ne (q := 181) (tgt := 203) C dX7_readPart_178 (by decide) rfl (fun _ => ?_) (fun h => absurd h (by decide)) 
                    refine pv_aload_n (q := 204) C dX7_readPart_203 rfl rfl rfl ?_ 
                    refine pv_iconst (q := 205) (v := 1) C dX7_readPart_204 rfl (by decide) ?_ 
                    refine pv_callVi (q := 208) C hKl (c_X7_happensN l X D135 P _ (by rw [e135]; exact pd_g _ _ _)) tw_1240 k6 (by decide) rfl mm_X7_happens ⟨rfl, rfl⟩ (by rw [hKR]; exact ⟨Nat.le_of_ble_eq_true rfl, Nat.le_of_ble_eq_true rfl⟩) (by rw [hKR]; exact ⟨Nat.le_of_ble_eq_true rfl, Nat.le_of_ble_eq_true rfl⟩) rfl rfl rfl (Nat.le_of_ble_eq_true rfl) dX7_readPart_205 rfl (fun r205 D205 P205 hp205 => ?_) 
                    obtain ⟨rfl, hH205, rfl⟩ := hp205
                    have eH : D205 = pd D (a + 1) 0 := hH205.trans e135
                    refine pv_if_eq (q := 211) (tgt := 219) C dX7_readPart_208 (by decide) rfl (fun _ => ?_) (fun h => absurd h (by decide)) 
                    refine pv_iconst (q := 220) (v := 0) C dX7_readPart_219 rfl (by decide) ?_ 
                    exact pv_iret C (⟨by rw [eH]; exact pres_none (by unfold pPart; rw [c_61, if_neg (by decide), if_neg (by decide), if_pos (by decide), hN]), rfl⟩) (by decide) (by decide) dX7_readPart_220
        · rw [c_26]
          refine pv_iconst (q := 30) (v := 1) C dX7_readPart_29 rfl (by decide) ?_ 
          refine pv_goto (tgt := 34) C dX7_readPart_30 (by decide) ?_ 
          refine pv_istore_n (q := 35) C dX7_readPart_34 rfl rfl (Nat.le_of_ble_eq_true rfl) rfl ?_ 
          refine pv_aload_n (q := 36) C dX7_readPart_35 rfl rfl rfl ?_ 
          refine pv_iload_n (q := 37) C dX7_readPart_36 rfl rfl rfl ?_ 
          refine pv_if_ne (q := 40) (tgt := 64) C dX7_readPart_37 (by decide) rfl (fun _ => ?_) (fun h => absurd h (by decide)) 
          refine pv_iconst (q := 65) (v := 1) C dX7_readPart_64 rfl (by decide) ?_ 
          refine pv_goto (tgt := 69) C dX7_readPart_65 (by decide) ?_ 
          refine pv_callVv (q := 72) C hKl (c_X7_take1 l X D P a (ht.2.2.1) (hg)) tw_1219 k6 (by decide) rfl mm_X7_take ⟨rfl, rfl⟩ (by rw [hKR]; exact ⟨Nat.le_of_ble_eq_true rfl, Nat.le_of_ble_eq_true rfl⟩) (by rw [hKR]; exact ⟨Nat.le_of_ble_eq_true rfl, Nat.le_of_ble_eq_true rfl⟩) rfl rfl rfl (Nat.le_of_ble_eq_true rfl) dX7_readPart_69 rfl (fun D69 P69 hp69 => ?_) 
          obtain ⟨hR69, rfl⟩ := hp69
          have e69 : D69 = pd D (a + 1) 1 := hR69
          have x69 : D69 12 = D 12 := by rw [hR69]; exact pd_o _ _ _ (by decide)
          have w69 : txt D69 n (a + 1) := by rw [hR69]; exact txt_pd ht (hr_lt (f := D 12) (by rw [c_26]; decide)) 1
          refine pv_aload_n (q := 73) C dX7_readPart_72 rfl rfl rfl ?_ 
          refine pg_7_11 (q := 76) C k6 tw_1006 dX7_readPart_73 rfl ?_ 
          rw [show D69 6 11 = 1 by rw [e69]; exact pd_g _ _ _]
          refine pv_if_eq (q := 79) (tgt := 83) C dX7_readPart_76 (by decide) rfl (fun h => absurd h (by decide)) (fun _ => ?_) 
          refine pv_iload_n (q := 80) C dX7_readPart_79 rfl rfl rfl ?_ 
          refine pv_if_eq (q := 83) (tgt := 100) C dX7_readPart_80 (by decide) rfl (fun h => absurd h (by decide)) (fun _ => ?_) 
          refine pv_aload_n (q := 84) C dX7_readPart_83 rfl rfl rfl ?_ 
          refine pg_7_11 (q := 87) C k6 tw_1006 dX7_readPart_84 rfl ?_ 
          rw [show D69 6 11 = 1 by rw [e69]; exact pd_g _ _ _]
          refine pv_if_eq (q := 90) (tgt := 98) C dX7_readPart_87 (by decide) rfl (fun h => absurd h (by decide)) (fun _ => ?_) 
          refine pv_aload_n (q := 91) C dX7_readPart_90 rfl rfl rfl ?_ 
          refine pv_iload_n (q := 92) C dX7_readPart_91 rfl rfl rfl ?_ 
          refine pv_callVi (q := 95) C hKl (c_X7_readRow120 l X D69 P n (a + 1) w69 (by rw [e69, pd_k _ _ _ (by decide) (by decide)]; exact hd) (by rw [e69]; exact pd_g _ _ _) (by rw [e69]; exact RH_pd hrw)) tw_1223 k6 (by decide) rfl mm_X7_readRow ⟨rfl, rfl⟩ (by rw [hKR]; exact ⟨Nat.le_of_ble_eq_true rfl, Nat.le_of_ble_eq_true rfl⟩) (by rw [hKR]; exact ⟨Nat.le_of_ble_eq_true rfl, Nat.le_of_ble_eq_true rfl⟩) rfl rfl rfl (Nat.le_of_ble_eq_true rfl) dX7_readPart_92 rfl (fun r92 D92 P92 hp92 => ?_) 
          obtain ⟨hR92, rfl⟩ := hp92
          have e92 : D92 = pres D (pPart (D 12) n a) := by
            rw [hR92, x69, e69, pres_pd]
            unfold pPart
            rw [c_26, if_pos (by decide)]
          refine pv_goto (tgt := 99) C dX7_readPart_95 (by decide) ?_ 
          exact pv_iret C (⟨e92, rfl⟩) (by decide) (by decide) dX7_readPart_99
