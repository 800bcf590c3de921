set_option maxRecDepth 100000 in
set_option maxHeartbeats 4000000 in
theorem c_Jxe99ae_isNaN_b9ae7 (l : Launch) (X : XT) (D : DT) (P : PT) (x : UInt64) (hx : FP.dcmp x x = some .eq) : CG l X yJxe99ae_isNaN_b9ae7 (.code yJxe99ae_isNaN_b9ae7 cJxe99ae_isNaN_b9ae7 2 (some .boolean) :: AW) ({ frames := 0, cells := 0, slots := 0, locals := 0 } : Room) [.double x] (qI X (fun r D' P' => r = 0 ∧ D = D' ∧ P = P')) D P 0 0 := by
  refine cg_of (by decide +kernel) (Nat.le_of_ble_eq_true rfl) ?_
  intro K hKl hKR C
  refine PV_lv (lv' := [some (.double x), none]) rfl ?_
  refine pv_dload_n (q := 1) C dJxe99ae_isNaN_b9ae7_0 rfl rfl rfl ?_ 
  refine pv_dload_n (q := 2) C dJxe99ae_isNaN_b9ae7_1 rfl rfl rfl ?_ 
  refine pv_dcmp (q := 3) C dJxe99ae_isNaN_b9ae7_2 rfl ?_ 
  rw [show Op.cmpValue (FP.dcmp x x) .l = 0 by rw [hx]; rfl]
  refine pv_if_eq (q := 6) (tgt := 10) C dJxe99ae_isNaN_b9ae7_3 (by decide) rfl (fun _ => ?_) (fun h => absurd h (by decide)) 
  refine pv_iconst (q := 11) (v := 0) C dJxe99ae_isNaN_b9ae7_10 rfl (by decide) ?_ 
  exact pv_zret C (Or.inl rfl) (⟨rfl, rfl, rfl⟩) (by decide) (by decide) dJxe99ae_isNaN_b9ae7_11
set_option maxRecDepth 100000 in
set_option maxHeartbeats 4000000 in
theorem c_Jxe99ae_doubleToLongBits_ccdee (l : Launch) (X : XT) (D : DT) (P : PT) (x : UInt64) (hx : FP.dcmp x x = some .eq) : CG l X yJxe99ae_doubleToLongBits_ccdee (.code yJxe99ae_doubleToLongBits_ccdee cJxe99ae_doubleToLongBits_ccdee 2 (some .long) :: AW) ({ frames := 1, cells := 0, slots := 0, locals := 36 } : Room) [.double x] (qL X (fun r D' P' => r = x.toInt64 ∧ D = D' ∧ P = P')) D P 0 0 := by
  refine cg_of (by decide +kernel) (Nat.le_of_ble_eq_true rfl) ?_
  intro K hKl hKR C
  refine PV_lv (lv' := [some (.double x), none]) rfl ?_
  refine pv_dload_n (q := 1) C dJxe99ae_doubleToLongBits_ccdee_0 rfl rfl rfl ?_ 
  refine pv_callSi (q := 4) C hKl (c_Jxe99ae_isNaN_b9ae7 l X D P _ hx) tw_1473 mm_Jxe99ae_isNaN_b9ae7 ⟨rfl, rfl⟩ (by rw [hKR]; exact ⟨Nat.le_of_ble_eq_true rfl, Nat.le_of_ble_eq_true rfl⟩) (by rw [hKR]; exact ⟨Nat.le_of_ble_eq_true rfl, Nat.le_of_ble_eq_true rfl⟩) rfl rfl rfl (Nat.le_of_ble_eq_true rfl) dJxe99ae_doubleToLongBits_ccdee_1 rfl (fun r1 D1 P1 hp1 => ?_) 
  obtain ⟨rfl, rfl, rfl⟩ := hp1
  refine pv_if_ne (q := 7) (tgt := 12) C dJxe99ae_doubleToLongBits_ccdee_4 (by decide) rfl (fun h => absurd h (by decide)) (fun _ => ?_) 
  refine pv_dload_n (q := 8) C dJxe99ae_doubleToLongBits_ccdee_7 rfl rfl rfl ?_ 
  refine pv_d2raw (q := 11) C tw_1476 (by rw [hKR]; exact ⟨Nat.le_of_ble_eq_true rfl, Nat.le_of_ble_eq_true rfl⟩) rfl dJxe99ae_doubleToLongBits_ccdee_8 rfl ?_ 
  exact pv_lret C (⟨rfl, rfl, rfl⟩) (by decide) (by decide) dJxe99ae_doubleToLongBits_ccdee_11
set_option maxRecDepth 100000 in
set_option maxHeartbeats 4000000 in
theorem c_X7_share (l : Launch) (X : XT) (D : DT) (P : PT) (hsk : shK (D 7)) : CG l X yX7_share (.code yX7_share cX7_share 2 (some .double) :: AW) ({ frames := 2, cells := 0, slots := 0, locals := 72 } : Room) [.ref (X.2.2 6)] (qD X (fun r D' P' => r = shr (D 7) ∧ D = D' ∧ P = P')) D P 0 0 := by
  refine cg_of (by decide +kernel) (Nat.le_of_ble_eq_true rfl) ?_
  intro K hKl hKR C
  refine PV_lv (lv' := [some (.ref (X.2.2 6)), none]) rfl ?_
  refine pv_aload_n (q := 1) C dX7_share_0 rfl rfl rfl ?_ 
  refine pv_iconst (q := 2) (v := 0) C dX7_share_1 rfl (by decide) ?_ 
  refine pv_callVi (q := 5) C hKl (c_X7_waits l X D P 0 (by decide)) tw_1100 k6 (by decide) rfl mm_X7_waits ⟨rfl, rfl⟩ (by rw [hKR]; exact ⟨Nat.le_of_ble_eq_true rfl, Nat.le_of_ble_eq_true rfl⟩) (by rw [hKR]; exact ⟨Nat.le_of_ble_eq_true rfl, Nat.le_of_ble_eq_true rfl⟩) rfl rfl rfl (Nat.le_of_ble_eq_true rfl) dX7_share_2 rfl (fun r2 D2 P2 hp2 => ?_) 
  obtain ⟨rfl, rfl, rfl⟩ := hp2
  refine pv_aload_n (q := 6) C dX7_share_5 rfl rfl rfl ?_ 
  refine pv_iconst (q := 7) (v := 1) C dX7_share_6 rfl (by decide) ?_ 
  refine pv_callVi (q := 10) C hKl (c_X7_waits l X D P 1 (by decide)) tw_1100 k6 (by decide) rfl mm_X7_waits ⟨rfl, rfl⟩ (by rw [hKR]; exact ⟨Nat.le_of_ble_eq_true rfl, Nat.le_of_ble_eq_true rfl⟩) (by rw [hKR]; exact ⟨Nat.le_of_ble_eq_true rfl, Nat.le_of_ble_eq_true rfl⟩) rfl rfl rfl (Nat.le_of_ble_eq_true rfl) dX7_share_7 rfl (fun r7 D7 P7 hp7 => ?_) 
  obtain ⟨rfl, rfl, rfl⟩ := hp7
  refine pv_iadd (q := 11) C dX7_share_10 rfl ?_ 
  refine pv_aload_n (q := 12) C dX7_share_11 rfl rfl rfl ?_ 
  refine pv_iconst (q := 13) (v := 2) C dX7_share_12 rfl (by decide) ?_ 
  refine pv_callVi (q := 16) C hKl (c_X7_waits l X D P 2 (by decide)) tw_1100 k6 (by decide) rfl mm_X7_waits ⟨rfl, rfl⟩ (by rw [hKR]; exact ⟨Nat.le_of_ble_eq_true rfl, Nat.le_of_ble_eq_true rfl⟩) (by rw [hKR]; exact ⟨Nat.le_of_ble_eq_true rfl, Nat.le_of_ble_eq_true rfl⟩) rfl rfl rfl (Nat.le_of_ble_eq_true rfl) dX7_share_13 rfl (fun r13 D13 P13 hp13 => ?_) 
  obtain ⟨rfl, rfl, rfl⟩ := hp13
  refine pv_iadd (q := 17) C dX7_share_16 rfl ?_ 
  refine pv_istore_n (q := 18) C dX7_share_17 rfl rfl (Nat.le_of_ble_eq_true rfl) rfl ?_ 
  refine pv_aload_n (q := 19) C dX7_share_18 rfl rfl rfl ?_ 
  refine pg_7_1 (q := 22) C k6 tw_996 dX7_share_19 rfl (fun k19 => ?_) 
  refine pv_sipush (q := 25) (v := 178) C dX7_share_22 rfl (by decide) ?_ 
  refine pv_iald (q := 26) (j := 178) C (iln_15 k19) rfl (by decide) dX7_share_25 rfl ?_ 
  refine pv_if_ne (q := 29) (tgt := 33) C dX7_share_26 (by decide) rfl (fun c_26 => ?_) (fun c_26 => ?_) 
  · refine pv_iload_n (q := 34) C dX7_share_33 rfl rfl rfl ?_
    refine pv_i2d (q := 35) C dX7_share_34 rfl ?_ 
    refine pv_iconst (q := 36) (v := 3) C dX7_share_35 rfl (by decide) ?_ 
    refine pv_aload_n (q := 37) C dX7_share_36 rfl rfl rfl ?_ 
    refine pg_7_1 (q := 40) C k6 tw_996 dX7_share_37 rfl (fun k37 => ?_) 
    refine pv_sipush (q := 43) (v := 178) C dX7_share_40 rfl (by decide) ?_ 
    refine pv_iald (q := 44) (j := 178) C (iln_15 k37) rfl (by decide) dX7_share_43 rfl ?_ 
    refine pv_imul (q := 45) C dX7_share_44 rfl ?_ 
    refine pv_i2d (q := 46) C dX7_share_45 rfl ?_ 
    refine pv_ddiv (q := 47) C dX7_share_46 rfl (shr_vf hsk c_26) ?_ 
    exact pv_dret C (⟨by unfold shr; rw [if_neg c_26], rfl, rfl⟩) (by decide) (by decide) dX7_share_47
  · refine pv_dconst0 (q := 30) C dX7_share_29 rfl ?_
    refine pv_goto (tgt := 47) C dX7_share_30 (by decide) ?_ 
    exact pv_dret C (⟨by unfold shr; rw [if_pos c_26], rfl, rfl⟩) (by decide) (by decide) dX7_share_47
set_option maxRecDepth 100000 in
set_option maxHeartbeats 4000000 in
theorem c_X7_behindShare (l : Launch) (X : XT) (D : DT) (P : PT) (hsk : shK (D 7)) : CG l X yX7_behindShare (.code yX7_behindShare cX7_behindShare 1 (some .double) :: AW) ({ frames := 3, cells := 0, slots := 0, locals := 108 } : Room) [.ref (X.2.2 6)] (qD X (fun r D' P' => rd (0) (shr (D 7)) D r D' ∧ P = P')) D P 0 0 := by
  refine cg_of (by decide +kernel) (Nat.le_of_ble_eq_true rfl) ?_
  intro K hKl hKR C
  refine PV_lv (lv' := [some (.ref (X.2.2 6))]) rfl ?_
  refine pv_aload_n (q := 1) C dX7_behindShare_0 rfl rfl rfl ?_ 
  refine pv_iconst (q := 2) (v := 0) C dX7_behindShare_1 rfl (by decide) ?_ 
  refine pp_7_0 (q := 5) C k6 tw_995 dX7_behindShare_2 rfl (fun D2 hD2 => ?_) 
  refine pv_aload_n (q := 6) C dX7_behindShare_5 rfl rfl rfl ?_ 
  refine pv_callVd (q := 9) C hKl (c_X7_share l X D2 P (by rw [hD2]; exact hsk)) tw_1449 k6 (by decide) rfl mm_X7_share ⟨rfl, rfl⟩ (by rw [hKR]; exact ⟨Nat.le_of_ble_eq_true rfl, Nat.le_of_ble_eq_true rfl⟩) (by rw [hKR]; exact ⟨Nat.le_of_ble_eq_true rfl, Nat.le_of_ble_eq_true rfl⟩) rfl rfl rfl (Nat.le_of_ble_eq_true rfl) dX7_behindShare_6 rfl (fun r6 D6 P6 hp6 => ?_) 
  obtain ⟨rfl, rfl, rfl⟩ := hp6
  exact pv_dret C (⟨⟨by rw [hD2]; rfl, fun _ => by rw [hD2]; rfl, (by subst_vars; repeat (first | exact Sx_rf _ | refine Sx.ar ?_ (by decide) | refine Sx.up ?_ (by decide)))⟩, rfl⟩) (by decide) (by decide) dX7_behindShare_9
set_option maxRecDepth 100000 in
set_option maxHeartbeats 4000000 in
theorem c_X7_digest (l : Launch) (X : XT) (D : DT) (P : PT) (n : Nat) (hn : D 6 9 = nI n) (hn60 : n ≤ 60) (hse : ∀ v, v < 3 → seen (D 7) v) (hsk : shK (D 7)) : CG l X yX7_digest (.code yX7_digest cX7_digest 4 (some .long) :: AW) ({ frames := 4, cells := 0, slots := 0, locals := 144 } : Room) [.ref (X.2.2 6)] (qL X (fun r D' P' => rd (0) (dgs (D 7) (D 12) n (D 6 3)) D r D' ∧ P = P')) D P 0 0 := by
  refine cg_of (by decide +kernel) (Nat.le_of_ble_eq_true rfl) ?_
  intro K hKl hKR C
  refine PV_lv (lv' := [some (.ref (X.2.2 6)), none, none, none]) rfl ?_
  refine pv_aload_n (q := 1) C dX7_digest_0 rfl rfl rfl ?_ 
  refine pv_iconst (q := 2) (v := 0) C dX7_digest_1 rfl (by decide) ?_ 
  refine pp_7_0 (q := 5) C k6 tw_995 dX7_digest_2 rfl (fun D2 hD2 => ?_) 
  refine pv_ldc2 (q := 8) C dX7_digest_5 rfl tw_1457 ?_ 
  refine pv_aload_n (q := 9) C dX7_digest_8 rfl rfl rfl ?_ 
  refine pv_callVi (q := 12) C hKl (c_X7_taken l X D2 P ) tw_1108 k6 (by decide) rfl mm_X7_taken ⟨rfl, rfl⟩ (by rw [hKR]; exact ⟨Nat.le_of_ble_eq_true rfl, Nat.le_of_ble_eq_true rfl⟩) (by rw [hKR]; exact ⟨Nat.le_of_ble_eq_true rfl, Nat.le_of_ble_eq_true rfl⟩) rfl rfl rfl (Nat.le_of_ble_eq_true rfl) dX7_digest_9 rfl (fun r9 D9 P9 hp9 => ?_) 
  obtain ⟨rfl, rfl, rfl⟩ := hp9
  refine pv_i2l (q := 13) C dX7_digest_12 rfl ?_ 
  refine pv_callSl (q := 16) C hKl (c_X7_mix l X D2 P _ _) tw_1458 mm_X7_mix ⟨rfl, rfl⟩ (by rw [hKR]; exact ⟨Nat.le_of_ble_eq_true rfl, Nat.le_of_ble_eq_true rfl⟩) (by rw [hKR]; exact ⟨Nat.le_of_ble_eq_true rfl, Nat.le_of_ble_eq_true rfl⟩) rfl rfl rfl (Nat.le_of_ble_eq_true rfl) dX7_digest_13 rfl (fun r13 D13 P13 hp13 => ?_) 
  obtain ⟨rfl, rfl, rfl⟩ := hp13
  refine pv_aload_n (q := 17) C dX7_digest_16 rfl rfl rfl ?_ 
  refine pg_7_1 (q := 20) C k6 tw_996 dX7_digest_17 rfl (fun k17 => ?_) 
  refine pv_sipush (q := 23) (v := 178) C dX7_digest_20 rfl (by decide) ?_ 
  refine pv_iald (q := 24) (j := 178) C (iln_15 k17) rfl (by decide) dX7_digest_23 rfl ?_ 
  refine pv_i2l (q := 25) C dX7_digest_24 rfl ?_ 
  refine pv_callSl (q := 28) C hKl (c_X7_mix l X D2 P _ _) tw_1458 mm_X7_mix ⟨rfl, rfl⟩ (by rw [hKR]; exact ⟨Nat.le_of_ble_eq_true rfl, Nat.le_of_ble_eq_true rfl⟩) (by rw [hKR]; exact ⟨Nat.le_of_ble_eq_true rfl, Nat.le_of_ble_eq_true rfl⟩) rfl rfl rfl (Nat.le_of_ble_eq_true rfl) dX7_digest_25 rfl (fun r25 D25 P25 hp25 => ?_) 
  obtain ⟨rfl, rfl, rfl⟩ := hp25
  refine pv_lstore_n (q := 29) C dX7_digest_28 rfl rfl (Nat.le_of_ble_eq_true rfl) rfl ?_ 
  refine pv_lload_n (q := 30) C dX7_digest_29 rfl rfl rfl ?_ 
  refine pv_aload_n (q := 31) C dX7_digest_30 rfl rfl rfl ?_ 
  refine pg_7_1 (q := 34) C k6 tw_996 dX7_digest_31 rfl (fun k31 => ?_) 
  refine pv_sipush (q := 37) (v := 179) C dX7_digest_34 rfl (by decide) ?_ 
  refine pv_iald (q := 38) (j := 179) C (iln_15 k31) rfl (by decide) dX7_digest_37 rfl ?_ 
  refine pv_i2l (q := 39) C dX7_digest_38 rfl ?_ 
  refine pv_callSl (q := 42) C hKl (c_X7_mix l X D2 P _ _) tw_1458 mm_X7_mix ⟨rfl, rfl⟩ (by rw [hKR]; exact ⟨Nat.le_of_ble_eq_true rfl, Nat.le_of_ble_eq_true rfl⟩) (by rw [hKR]; exact ⟨Nat.le_of_ble_eq_true rfl, Nat.le_of_ble_eq_true rfl⟩) rfl rfl rfl (Nat.le_of_ble_eq_true rfl) dX7_digest_39 rfl (fun r39 D39 P39 hp39 => ?_) 
  obtain ⟨rfl, rfl, rfl⟩ := hp39
  refine pv_aload_n (q := 43) C dX7_digest_42 rfl rfl rfl ?_ 
  refine pg_7_1 (q := 46) C k6 tw_996 dX7_digest_43 rfl (fun k43 => ?_) 
  refine pv_sipush (q := 49) (v := 180) C dX7_digest_46 rfl (by decide) ?_ 
  refine pv_iald (q := 50) (j := 180) C (iln_15 k43) rfl (by decide) dX7_digest_49 rfl ?_ 
  refine pv_i2l (q := 51) C dX7_digest_50 rfl ?_ 
  refine pv_callSl (q := 54) C hKl (c_X7_mix l X D2 P _ _) tw_1458 mm_X7_mix ⟨rfl, rfl⟩ (by rw [hKR]; exact ⟨Nat.le_of_ble_eq_true rfl, Nat.le_of_ble_eq_true rfl⟩) (by rw [hKR]; exact ⟨Nat.le_of_ble_eq_true rfl, Nat.le_of_ble_eq_true rfl⟩) rfl rfl rfl (Nat.le_of_ble_eq_true rfl) dX7_digest_51 rfl (fun r51 D51 P51 hp51 => ?_) 
  obtain ⟨rfl, rfl, rfl⟩ := hp51
  refine pv_lstore_n (q := 55) C dX7_digest_54 rfl rfl (Nat.le_of_ble_eq_true rfl) rfl ?_ 
  refine pv_lload_n (q := 56) C dX7_digest_55 rfl rfl rfl ?_ 
  refine pv_aload_n (q := 57) C dX7_digest_56 rfl rfl rfl ?_ 
  refine pg_7_1 (q := 60) C k6 tw_996 dX7_digest_57 rfl (fun k57 => ?_) 
  refine pv_sipush (q := 63) (v := 181) C dX7_digest_60 rfl (by decide) ?_ 
  refine pv_iald (q := 64) (j := 181) C (iln_15 k57) rfl (by decide) dX7_digest_63 rfl ?_ 
  refine pv_i2l (q := 65) C dX7_digest_64 rfl ?_ 
  refine pv_callSl (q := 68) C hKl (c_X7_mix l X D2 P _ _) tw_1458 mm_X7_mix ⟨rfl, rfl⟩ (by rw [hKR]; exact ⟨Nat.le_of_ble_eq_true rfl, Nat.le_of_ble_eq_true rfl⟩) (by rw [hKR]; exact ⟨Nat.le_of_ble_eq_true rfl, Nat.le_of_ble_eq_true rfl⟩) rfl rfl rfl (Nat.le_of_ble_eq_true rfl) dX7_digest_65 rfl (fun r65 D65 P65 hp65 => ?_) 
  obtain ⟨rfl, rfl, rfl⟩ := hp65
  refine pv_aload_n (q := 69) C dX7_digest_68 rfl rfl rfl ?_ 
  refine pg_7_1 (q := 72) C k6 tw_996 dX7_digest_69 rfl (fun k69 => ?_) 
  refine pv_sipush (q := 75) (v := 182) C dX7_digest_72 rfl (by decide) ?_ 
  refine pv_iald (q := 76) (j := 182) C (iln_15 k69) rfl (by decide) dX7_digest_75 rfl ?_ 
  refine pv_i2l (q := 77) C dX7_digest_76 rfl ?_ 
  refine pv_callSl (q := 80) C hKl (c_X7_mix l X D2 P _ _) tw_1458 mm_X7_mix ⟨rfl, rfl⟩ (by rw [hKR]; exact ⟨Nat.le_of_ble_eq_true rfl, Nat.le_of_ble_eq_true rfl⟩) (by rw [hKR]; exact ⟨Nat.le_of_ble_eq_true rfl, Nat.le_of_ble_eq_true rfl⟩) rfl rfl rfl (Nat.le_of_ble_eq_true rfl) dX7_digest_77 rfl (fun r77 D77 P77 hp77 => ?_) 
  obtain ⟨rfl, rfl, rfl⟩ := hp77
  refine pv_lstore_n (q := 81) C dX7_digest_80 rfl rfl (Nat.le_of_ble_eq_true rfl) rfl ?_ 
  refine pv_lload_n (q := 82) C dX7_digest_81 rfl rfl rfl ?_ 
  refine pv_aload_n (q := 83) C dX7_digest_82 rfl rfl rfl ?_ 
  refine pv_callVi (q := 86) C hKl (c_X7_logged l X D2 P ) tw_1348 k6 (by decide) rfl mm_X7_logged ⟨rfl, rfl⟩ (by rw [hKR]; exact ⟨Nat.le_of_ble_eq_true rfl, Nat.le_of_ble_eq_true rfl⟩) (by rw [hKR]; exact ⟨Nat.le_of_ble_eq_true rfl, Nat.le_of_ble_eq_true rfl⟩) rfl rfl rfl (Nat.le_of_ble_eq_true rfl) dX7_digest_83 rfl (fun r83 D83 P83 hp83 => ?_) 
  obtain ⟨rfl, rfl, rfl⟩ := hp83
  refine pv_i2l (q := 87) C dX7_digest_86 rfl ?_ 
  refine pv_callSl (q := 90) C hKl (c_X7_mix l X D2 P _ _) tw_1458 mm_X7_mix ⟨rfl, rfl⟩ (by rw [hKR]; exact ⟨Nat.le_of_ble_eq_true rfl, Nat.le_of_ble_eq_true rfl⟩) (by rw [hKR]; exact ⟨Nat.le_of_ble_eq_true rfl, Nat.le_of_ble_eq_true rfl⟩) rfl rfl rfl (Nat.le_of_ble_eq_true rfl) dX7_digest_87 rfl (fun r87 D87 P87 hp87 => ?_) 
  obtain ⟨rfl, rfl, rfl⟩ := hp87
  refine pv_aload_n (q := 91) C dX7_digest_90 rfl rfl rfl ?_ 
  refine pg_7_3 (q := 94) C k6 tw_998 dX7_digest_91 rfl ?_ 
  refine pv_i2l (q := 95) C dX7_digest_94 rfl ?_ 
  refine pv_callSl (q := 98) C hKl (c_X7_mix l X D2 P _ _) tw_1458 mm_X7_mix ⟨rfl, rfl⟩ (by rw [hKR]; exact ⟨Nat.le_of_ble_eq_true rfl, Nat.le_of_ble_eq_true rfl⟩) (by rw [hKR]; exact ⟨Nat.le_of_ble_eq_true rfl, Nat.le_of_ble_eq_true rfl⟩) rfl rfl rfl (Nat.le_of_ble_eq_true rfl) dX7_digest_95 rfl (fun r95 D95 P95 hp95 => ?_) 
  obtain ⟨rfl, rfl, rfl⟩ := hp95
  refine pv_lstore_n (q := 99) C dX7_digest_98 rfl rfl (Nat.le_of_ble_eq_true rfl) rfl ?_ 
  refine pv_iconst (q := 100) (v := 0) C dX7_digest_99 rfl (by decide) ?_ 
  refine pv_istore_n (q := 101) C dX7_digest_100 rfl rfl (Nat.le_of_ble_eq_true rfl) rfl ?_ 
  have loop_101 : ∀ (nn : Nat) (p : Nat) (h : Int64), (17 ≤ p + nn) → p ≤ 16 → h = dP (D 7) (dN (D 7) (D 6 3)) p → PV K X (MK K X (qL X (fun r D' P' => rd (0) (dgs (D 7) (D 12) n (D 6 3)) D r D' ∧ P = P')) 0 0) (0) (0) 101 [some (.ref (X.2.2 6)), some (.long h), none, some (.int (nI p))] [] D2 P := by
    intro nn
    induction nn with
    | zero =>
      intro p h hfuel hp hh
      exact absurd hfuel (by omega)
    | succ nn ih =>
      intro p h hfuel hp hh
      refine pv_iload_n (q := 102) C dX7_digest_101 rfl rfl rfl ?_ 
      refine pv_bipush (q := 104) (v := 16) C dX7_digest_102 rfl (by decide) ?_ 
      refine pv_icmp_geN (q := 107) (tgt := 170) (a := p) (b := 16) C rfl rfl (by omega) (by omega) dX7_digest_104 (by decide) rfl (fun c_104 => ?_) (fun c_104 => ?_) 
      · refine pv_iconst (q := 171) (v := 0) C dX7_digest_170 rfl (by decide) ?_
        refine pv_istore_n (q := 172) C dX7_digest_171 rfl rfl (Nat.le_of_ble_eq_true rfl) rfl ?_ 
        have loop_172 : ∀ (nn : Nat) (v : Nat) (h : Int64) (D1 : DT), (4 ≤ v + nn) → v ≤ 3 → h = dV (D 7) (dP (D 7) (dN (D 7) (D 6 3)) 16) v → Sx D D1 → D1 6 0 = 0 → PV K X (MK K X (qL X (fun r D' P' => rd (0) (dgs (D 7) (D 12) n (D 6 3)) D r D' ∧ P = P')) 0 0) (0) (0) 172 [some (.ref (X.2.2 6)), some (.long h), none, some (.int (nI v))] [] D1 P := by
          intro nn
          induction nn with
          | zero =>
            intro v h D1 hfuel hv hh hS h60
            exact absurd hfuel (by omega)
          | succ nn ih =>
            intro v h D1 hfuel hv hh hS h60
            refine pv_iload_n (q := 173) C dX7_digest_172 rfl rfl rfl ?_ 
            refine pv_iconst (q := 174) (v := 3) C dX7_digest_173 rfl (by decide) ?_ 
            refine pv_icmp_geN (q := 177) (tgt := 190) (a := v) (b := 3) C rfl rfl (by omega) (by omega) dX7_digest_174 (by decide) rfl (fun c_174 => ?_) (fun c_174 => ?_) 
            · refine pv_aload_n (q := 191) C dX7_digest_190 rfl rfl rfl ?_
              refine pg_7_1 (q := 194) C k6 tw_996 dX7_digest_191 rfl (fun k191 => ?_) 
              refine pv_sipush (q := 197) (v := 183) C dX7_digest_194 rfl (by decide) ?_ 
              refine pv_iald (q := 198) (j := 183) C (iln_15 k191) rfl (by decide) dX7_digest_197 rfl ?_ 
              refine pv_iconst (q := 199) (v := (-1)) C dX7_digest_198 rfl (by decide) ?_ 
              refine pv_icmp_ne (q := 202) (tgt := 210) C dX7_digest_199 (by decide) rfl (fun c_199 => ?_) (fun c_199 => ?_) 
              · refine pv_lload_n (q := 211) C dX7_digest_210 rfl rfl rfl ?_
                refine pv_lconst (q := 212) (v := 1) C dX7_digest_211 rfl (by decide) ?_ 
                refine pv_callSl (q := 215) C hKl (c_X7_mix l X D1 P _ _) tw_1458 mm_X7_mix ⟨rfl, rfl⟩ (by rw [hKR]; exact ⟨Nat.le_of_ble_eq_true rfl, Nat.le_of_ble_eq_true rfl⟩) (by rw [hKR]; exact ⟨Nat.le_of_ble_eq_true rfl, Nat.le_of_ble_eq_true rfl⟩) rfl rfl rfl (Nat.le_of_ble_eq_true rfl) dX7_digest_212 rfl (fun r212 D212 P212 hp212 => ?_) 
                obtain ⟨rfl, rfl, rfl⟩ := hp212
                refine pv_aload_n (q := 216) C dX7_digest_215 rfl rfl rfl ?_ 
                refine pg_7_1 (q := 219) C k6 tw_996 dX7_digest_216 rfl (fun k216 => ?_) 
                refine pv_sipush (q := 222) (v := 183) C dX7_digest_219 rfl (by decide) ?_ 
                refine pv_iald (q := 223) (j := 183) C (iln_15 k216) rfl (by decide) dX7_digest_222 rfl ?_ 
                refine pv_i2l (q := 224) C dX7_digest_223 rfl ?_ 
                refine pv_callSl (q := 227) C hKl (c_X7_mix l X D1 P _ _) tw_1458 mm_X7_mix ⟨rfl, rfl⟩ (by rw [hKR]; exact ⟨Nat.le_of_ble_eq_true rfl, Nat.le_of_ble_eq_true rfl⟩) (by rw [hKR]; exact ⟨Nat.le_of_ble_eq_true rfl, Nat.le_of_ble_eq_true rfl⟩) rfl rfl rfl (Nat.le_of_ble_eq_true rfl) dX7_digest_224 rfl (fun r224 D224 P224 hp224 => ?_) 
                obtain ⟨rfl, rfl, rfl⟩ := hp224
                refine pv_lstore_n (q := 228) C dX7_digest_227 rfl rfl (Nat.le_of_ble_eq_true rfl) rfl ?_ 
                refine pv_lload_n (q := 229) C dX7_digest_228 rfl rfl rfl ?_ 
                refine pv_aload_n (q := 230) C dX7_digest_229 rfl rfl rfl ?_ 
                refine pv_callVd (q := 233) C hKl (c_X7_share l X D1 P (by rw [hS.row]; exact hsk)) tw_1449 k6 (by decide) rfl mm_X7_share ⟨rfl, rfl⟩ (by rw [hKR]; exact ⟨Nat.le_of_ble_eq_true rfl, Nat.le_of_ble_eq_true rfl⟩) (by rw [hKR]; exact ⟨Nat.le_of_ble_eq_true rfl, Nat.le_of_ble_eq_true rfl⟩) rfl rfl rfl (Nat.le_of_ble_eq_true rfl) dX7_digest_230 rfl (fun r230 D230 P230 hp230 => ?_) 
                obtain ⟨rfl, rfl, rfl⟩ := hp230
                rw [hS.row]
                refine pv_callSl (q := 236) C hKl (c_Jxe99ae_doubleToLongBits_ccdee l X D1 P _ (dcmp_sh (shr_O hsk))) tw_1470 mm_Jxe99ae_doubleToLongBits_ccdee ⟨rfl, rfl⟩ (by rw [hKR]; exact ⟨Nat.le_of_ble_eq_true rfl, Nat.le_of_ble_eq_true rfl⟩) (by rw [hKR]; exact ⟨Nat.le_of_ble_eq_true rfl, Nat.le_of_ble_eq_true rfl⟩) rfl rfl rfl (Nat.le_of_ble_eq_true rfl) dX7_digest_233 rfl (fun r233 D233 P233 hp233 => ?_) 
                obtain ⟨rfl, rfl, rfl⟩ := hp233
                refine pv_callSl (q := 239) C hKl (c_X7_mix l X D1 P _ _) tw_1458 mm_X7_mix ⟨rfl, rfl⟩ (by rw [hKR]; exact ⟨Nat.le_of_ble_eq_true rfl, Nat.le_of_ble_eq_true rfl⟩) (by rw [hKR]; exact ⟨Nat.le_of_ble_eq_true rfl, Nat.le_of_ble_eq_true rfl⟩) rfl rfl rfl (Nat.le_of_ble_eq_true rfl) dX7_digest_236 rfl (fun r236 D236 P236 hp236 => ?_) 
                obtain ⟨rfl, rfl, rfl⟩ := hp236
                refine pv_aload_n (q := 240) C dX7_digest_239 rfl rfl rfl ?_ 
                refine pg_7_9 (q := 243) C k6 tw_1004 dX7_digest_240 rfl ?_ 
                rw [show D1 6 9 = nI n from (hS 6 9 (by omega)).trans hn]
                refine pv_i2l (q := 244) C dX7_digest_243 rfl ?_ 
                refine pv_callSl (q := 247) C hKl (c_X7_mix l X D1 P _ _) tw_1458 mm_X7_mix ⟨rfl, rfl⟩ (by rw [hKR]; exact ⟨Nat.le_of_ble_eq_true rfl, Nat.le_of_ble_eq_true rfl⟩) (by rw [hKR]; exact ⟨Nat.le_of_ble_eq_true rfl, Nat.le_of_ble_eq_true rfl⟩) rfl rfl rfl (Nat.le_of_ble_eq_true rfl) dX7_digest_244 rfl (fun r244 D244 P244 hp244 => ?_) 
                obtain ⟨rfl, rfl, rfl⟩ := hp244
                refine pv_lstore_n (q := 248) C dX7_digest_247 rfl rfl (Nat.le_of_ble_eq_true rfl) rfl ?_ 
                refine pv_iconst (q := 249) (v := 0) C dX7_digest_248 rfl (by decide) ?_ 
                refine pv_istore_n (q := 250) C dX7_digest_249 rfl rfl (Nat.le_of_ble_eq_true rfl) rfl ?_ 
                have loop_250 : ∀ (nn : Nat) (k : Nat) (h : Int64), (n + 1 ≤ k + nn) → k ≤ n → h = dT (D 12) (hmx (hmx (dS (D 7) (dV (D 7) (dP (D 7) (dN (D 7) (D 6 3)) 16) 3)) (shr (D 7)).toInt64) (nI n).toInt64) k → PV K X (MK K X (qL X (fun r D' P' => rd (0) (dgs (D 7) (D 12) n (D 6 3)) D r D' ∧ P = P')) 0 0) (0) (0) 250 [some (.ref (X.2.2 6)), some (.long h), none, some (.int (nI k))] [] D1 P := by
                  intro nn
                  induction nn with
                  | zero =>
                    intro k h hfuel hk hh2
                    exact absurd hfuel (by omega)
                  | succ nn ih =>
                    intro k h hfuel hk hh2
                    refine pv_iload_n (q := 251) C dX7_digest_250 rfl rfl rfl ?_ 
                    refine pv_aload_n (q := 252) C dX7_digest_251 rfl rfl rfl ?_ 
                    refine pg_7_9 (q := 255) C k6 tw_1004 dX7_digest_252 rfl ?_ 
                    rw [show D1 6 9 = nI n from (hS 6 9 (by omega)).trans hn]
                    refine pv_icmp_geN (q := 258) (tgt := 276) (a := k) (b := n) C rfl rfl (by omega) (by omega) dX7_digest_255 (by decide) rfl (fun c_255 => ?_) (fun c_255 => ?_) 
                    · refine pv_lload_n (q := 277) C dX7_digest_276 rfl rfl rfl ?_
                      exact pv_lret C (⟨⟨h60, fun _ => by rw [hh2, show k = n by omega]; rfl, hS⟩, rfl⟩) (by decide) (by decide) dX7_digest_277
                    · refine pv_lload_n (q := 259) C dX7_digest_258 rfl rfl rfl ?_
                      refine pv_aload_n (q := 260) C dX7_digest_259 rfl rfl rfl ?_ 
                      refine pg_7_8 (q := 263) C k6 tw_1003 dX7_digest_260 rfl (fun k260 => ?_) 
                      refine pv_iload_n (q := 264) C dX7_digest_263 rfl rfl rfl ?_ 
                      refine pv_iald (q := 265) (j := k) C (iln_17 k260) rfl (by omega) dX7_digest_264 rfl ?_ 
                      refine pv_i2l (q := 266) C dX7_digest_265 rfl ?_ 
                      refine pv_callSl (q := 269) C hKl (c_X7_mix l X D1 P _ _) tw_1458 mm_X7_mix ⟨rfl, rfl⟩ (by rw [hKR]; exact ⟨Nat.le_of_ble_eq_true rfl, Nat.le_of_ble_eq_true rfl⟩) (by rw [hKR]; exact ⟨Nat.le_of_ble_eq_true rfl, Nat.le_of_ble_eq_true rfl⟩) rfl rfl rfl (Nat.le_of_ble_eq_true rfl) dX7_digest_266 rfl (fun r266 D266 P266 hp266 => ?_) 
                      obtain ⟨rfl, rfl, rfl⟩ := hp266
                      refine pv_lstore_n (q := 270) C dX7_digest_269 rfl rfl (Nat.le_of_ble_eq_true rfl) rfl ?_ 
                      refine pv_iinc (q := 273) (v := nI (k + 1)) C dX7_digest_270 rfl rfl (nI_add _ _) rfl ?_ 
                      refine pv_goto (tgt := 250) C dX7_digest_273 (by decide) ?_ 
                      exact ih (k + 1) _ (by omega) (by omega) (by show _ = hmx (dT (D 12) _ k) _; rw [hh2, show D1 12 = D 12 from funext fun j => hS 12 j (by omega)])
                exact loop_250 (n + 1) 0 _ (by omega) (by omega) (by show _ = hmx (hmx (dS _ _) _) _; unfold dS; rw [if_neg (by rw [hS.row] at c_199; exact c_199), hh, show v = 3 by omega])
              · refine pv_lload_n (q := 203) C dX7_digest_202 rfl rfl rfl ?_
                refine pv_lconst (q := 204) (v := 0) C dX7_digest_203 rfl (by decide) ?_ 
                refine pv_callSl (q := 207) C hKl (c_X7_mix l X D1 P _ _) tw_1458 mm_X7_mix ⟨rfl, rfl⟩ (by rw [hKR]; exact ⟨Nat.le_of_ble_eq_true rfl, Nat.le_of_ble_eq_true rfl⟩) (by rw [hKR]; exact ⟨Nat.le_of_ble_eq_true rfl, Nat.le_of_ble_eq_true rfl⟩) rfl rfl rfl (Nat.le_of_ble_eq_true rfl) dX7_digest_204 rfl (fun r204 D204 P204 hp204 => ?_) 
                obtain ⟨rfl, rfl, rfl⟩ := hp204
                refine pv_goto (tgt := 227) C dX7_digest_207 (by decide) ?_ 
                refine pv_lstore_n (q := 228) C dX7_digest_227 rfl rfl (Nat.le_of_ble_eq_true rfl) rfl ?_ 
                refine pv_lload_n (q := 229) C dX7_digest_228 rfl rfl rfl ?_ 
                refine pv_aload_n (q := 230) C dX7_digest_229 rfl rfl rfl ?_ 
                refine pv_callVd (q := 233) C hKl (c_X7_share l X D1 P (by rw [hS.row]; exact hsk)) tw_1449 k6 (by decide) rfl mm_X7_share ⟨rfl, rfl⟩ (by rw [hKR]; exact ⟨Nat.le_of_ble_eq_true rfl, Nat.le_of_ble_eq_true rfl⟩) (by rw [hKR]; exact ⟨Nat.le_of_ble_eq_true rfl, Nat.le_of_ble_eq_true rfl⟩) rfl rfl rfl (Nat.le_of_ble_eq_true rfl) dX7_digest_230 rfl (fun r230 D230 P230 hp230 => ?_) 
                obtain ⟨rfl, rfl, rfl⟩ := hp230
                rw [hS.row]
                refine pv_callSl (q := 236) C hKl (c_Jxe99ae_doubleToLongBits_ccdee l X D1 P _ (dcmp_sh (shr_O hsk))) tw_1470 mm_Jxe99ae_doubleToLongBits_ccdee ⟨rfl, rfl⟩ (by rw [hKR]; exact ⟨Nat.le_of_ble_eq_true rfl, Nat.le_of_ble_eq_true rfl⟩) (by rw [hKR]; exact ⟨Nat.le_of_ble_eq_true rfl, Nat.le_of_ble_eq_true rfl⟩) rfl rfl rfl (Nat.le_of_ble_eq_true rfl) dX7_digest_233 rfl (fun r233 D233 P233 hp233 => ?_) 
                obtain ⟨rfl, rfl, rfl⟩ := hp233
                refine pv_callSl (q := 239) C hKl (c_X7_mix l X D1 P _ _) tw_1458 mm_X7_mix ⟨rfl, rfl⟩ (by rw [hKR]; exact ⟨Nat.le_of_ble_eq_true rfl, Nat.le_of_ble_eq_true rfl⟩) (by rw [hKR]; exact ⟨Nat.le_of_ble_eq_true rfl, Nat.le_of_ble_eq_true rfl⟩) rfl rfl rfl (Nat.le_of_ble_eq_true rfl) dX7_digest_236 rfl (fun r236 D236 P236 hp236 => ?_) 
                obtain ⟨rfl, rfl, rfl⟩ := hp236
                refine pv_aload_n (q := 240) C dX7_digest_239 rfl rfl rfl ?_ 
                refine pg_7_9 (q := 243) C k6 tw_1004 dX7_digest_240 rfl ?_ 
                rw [show D1 6 9 = nI n from (hS 6 9 (by omega)).trans hn]
                refine pv_i2l (q := 244) C dX7_digest_243 rfl ?_ 
                refine pv_callSl (q := 247) C hKl (c_X7_mix l X D1 P _ _) tw_1458 mm_X7_mix ⟨rfl, rfl⟩ (by rw [hKR]; exact ⟨Nat.le_of_ble_eq_true rfl, Nat.le_of_ble_eq_true rfl⟩) (by rw [hKR]; exact ⟨Nat.le_of_ble_eq_true rfl, Nat.le_of_ble_eq_true rfl⟩) rfl rfl rfl (Nat.le_of_ble_eq_true rfl) dX7_digest_244 rfl (fun r244 D244 P244 hp244 => ?_) 
                obtain ⟨rfl, rfl, rfl⟩ := hp244
                refine pv_lstore_n (q := 248) C dX7_digest_247 rfl rfl (Nat.le_of_ble_eq_true rfl) rfl ?_ 
                refine pv_iconst (q := 249) (v := 0) C dX7_digest_248 rfl (by decide) ?_ 
                refine pv_istore_n (q := 250) C dX7_digest_249 rfl rfl (Nat.le_of_ble_eq_true rfl) rfl ?_ 
                have loop_250 : ∀ (nn : Nat) (k : Nat) (h : Int64), (n + 1 ≤ k + nn) → k ≤ n → h = dT (D 12) (hmx (hmx (dS (D 7) (dV (D 7) (dP (D 7) (dN (D 7) (D 6 3)) 16) 3)) (shr (D 7)).toInt64) (nI n).toInt64) k → PV K X (MK K X (qL X (fun r D' P' => rd (0) (dgs (D 7) (D 12) n (D 6 3)) D r D' ∧ P = P')) 0 0) (0) (0) 250 [some (.ref (X.2.2 6)), some (.long h), none, some (.int (nI k))] [] D1 P := by
                  intro nn
                  induction nn with
                  | zero =>
                    intro k h hfuel hk hh2
                    exact absurd hfuel (by omega)
                  | succ nn ih =>
                    intro k h hfuel hk hh2
                    refine pv_iload_n (q := 251) C dX7_digest_250 rfl rfl rfl ?_ 
                    refine pv_aload_n (q := 252) C dX7_digest_251 rfl rfl rfl ?_ 
                    refine pg_7_9 (q := 255) C k6 tw_1004 dX7_digest_252 rfl ?_ 
                    rw [show D1 6 9 = nI n from (hS 6 9 (by omega)).trans hn]
                    refine pv_icmp_geN (q := 258) (tgt := 276) (a := k) (b := n) C rfl rfl (by omega) (by omega) dX7_digest_255 (by decide) rfl (fun c_255 => ?_) (fun c_255 => ?_) 
                    · refine pv_lload_n (q := 277) C dX7_digest_276 rfl rfl rfl ?_
                      exact pv_lret C (⟨⟨h60, fun _ => by rw [hh2, show k = n by omega]; rfl, hS⟩, rfl⟩) (by decide) (by decide) dX7_digest_277
                    · refine pv_lload_n (q := 259) C dX7_digest_258 rfl rfl rfl ?_
                      refine pv_aload_n (q := 260) C dX7_digest_259 rfl rfl rfl ?_ 
                      refine pg_7_8 (q := 263) C k6 tw_1003 dX7_digest_260 rfl (fun k260 => ?_) 
                      refine pv_iload_n (q := 264) C dX7_digest_263 rfl rfl rfl ?_ 
                      refine pv_iald (q := 265) (j := k) C (iln_17 k260) rfl (by omega) dX7_digest_264 rfl ?_ 
                      refine pv_i2l (q := 266) C dX7_digest_265 rfl ?_ 
                      refine pv_callSl (q := 269) C hKl (c_X7_mix l X D1 P _ _) tw_1458 mm_X7_mix ⟨rfl, rfl⟩ (by rw [hKR]; exact ⟨Nat.le_of_ble_eq_true rfl, Nat.le_of_ble_eq_true rfl⟩) (by rw [hKR]; exact ⟨Nat.le_of_ble_eq_true rfl, Nat.le_of_ble_eq_true rfl⟩) rfl rfl rfl (Nat.le_of_ble_eq_true rfl) dX7_digest_266 rfl (fun r266 D266 P266 hp266 => ?_) 
                      obtain ⟨rfl, rfl, rfl⟩ := hp266
                      refine pv_lstore_n (q := 270) C dX7_digest_269 rfl rfl (Nat.le_of_ble_eq_true rfl) rfl ?_ 
                      refine pv_iinc (q := 273) (v := nI (k + 1)) C dX7_digest_270 rfl rfl (nI_add _ _) rfl ?_ 
                      refine pv_goto (tgt := 250) C dX7_digest_273 (by decide) ?_ 
                      exact ih (k + 1) _ (by omega) (by omega) (by show _ = hmx (dT (D 12) _ k) _; rw [hh2, show D1 12 = D 12 from funext fun j => hS 12 j (by omega)])
                exact loop_250 (n + 1) 0 _ (by omega) (by omega) (by show _ = hmx (hmx (dS _ _) _) _; unfold dS; rw [if_pos (by rw [hS.row] at c_199; exact c_199), hh, show v = 3 by omega])
            · refine pv_aload_n (q := 178) C dX7_digest_177 rfl rfl rfl ?_
              refine pv_lload_n (q := 179) C dX7_digest_178 rfl rfl rfl ?_ 
              refine pv_iload_n (q := 180) C dX7_digest_179 rfl rfl rfl ?_ 
              refine pv_callVl (q := 183) C hKl (c_X7_viewHash l X D1 P _ v (by omega) (D 7) (hS.row) (hse v (by omega))) tw_1462 k6 (by decide) rfl mm_X7_viewHash ⟨rfl, rfl⟩ (by rw [hKR]; exact ⟨Nat.le_of_ble_eq_true rfl, Nat.le_of_ble_eq_true rfl⟩) (by rw [hKR]; exact ⟨Nat.le_of_ble_eq_true rfl, Nat.le_of_ble_eq_true rfl⟩) rfl rfl rfl (Nat.le_of_ble_eq_true rfl) dX7_digest_180 rfl (fun r180 D180 P180 hp180 => ?_) 
              obtain ⟨rfl, hZ, rfl⟩ := hp180
              refine pv_lstore_n (q := 184) C dX7_digest_183 rfl rfl (Nat.le_of_ble_eq_true rfl) rfl ?_ 
              refine pv_iinc (q := 187) (v := nI (v + 1)) C dX7_digest_184 rfl rfl (nI_add _ _) rfl ?_ 
              refine pv_goto (tgt := 172) C dX7_digest_187 (by decide) ?_ 
              exact ih (v + 1) _ D180 (by omega) (by omega) (by show _ = vH (dV (D 7) _ v) (D 7) v 4; rw [hh]) (hS.z hZ) (by rw [hZ 6 (by decide) (by decide)]; exact h60)
        exact loop_172 4 0 _ D2 (by omega) (by omega) (by rw [hh, show p = 16 by omega]; rfl) (by rw [hD2]; exact (Sx_rf D).up (Or.inl rfl)) (by rw [hD2, up2_self])
      · refine pv_lload_n (q := 108) C dX7_digest_107 rfl rfl rfl ?_
        refine pv_aload_n (q := 109) C dX7_digest_108 rfl rfl rfl ?_ 
        refine pv_iload_n (q := 110) C dX7_digest_109 rfl rfl rfl ?_ 
        refine pv_callVi (q := 113) C hKl (c_X7_vacant l X D2 P _ (by omega)) tw_1065 k6 (by decide) rfl mm_X7_vacant ⟨rfl, rfl⟩ (by rw [hKR]; exact ⟨Nat.le_of_ble_eq_true rfl, Nat.le_of_ble_eq_true rfl⟩) (by rw [hKR]; exact ⟨Nat.le_of_ble_eq_true rfl, Nat.le_of_ble_eq_true rfl⟩) rfl rfl rfl (Nat.le_of_ble_eq_true rfl) dX7_digest_110 rfl (fun r110 D110 P110 hp110 => ?_) 
        rcases hp110 with ⟨⟨hy110, rfl⟩ | ⟨hn110, rfl⟩, rfl, rfl⟩
        · refine pv_if_eq (q := 116) (tgt := 120) C dX7_digest_113 (by decide) rfl (fun h => absurd h (by decide)) (fun _ => ?_)
          refine pv_lconst (q := 117) (v := 1) C dX7_digest_116 rfl (by decide) ?_ 
          refine pv_goto (tgt := 121) C dX7_digest_117 (by decide) ?_ 
          refine pv_callSl (q := 124) C hKl (c_X7_mix l X D2 P _ _) tw_1458 mm_X7_mix ⟨rfl, rfl⟩ (by rw [hKR]; exact ⟨Nat.le_of_ble_eq_true rfl, Nat.le_of_ble_eq_true rfl⟩) (by rw [hKR]; exact ⟨Nat.le_of_ble_eq_true rfl, Nat.le_of_ble_eq_true rfl⟩) rfl rfl rfl (Nat.le_of_ble_eq_true rfl) dX7_digest_121 rfl (fun r121 D121 P121 hp121 => ?_) 
          obtain ⟨rfl, rfl, rfl⟩ := hp121
          refine pv_lstore_n (q := 125) C dX7_digest_124 rfl rfl (Nat.le_of_ble_eq_true rfl) rfl ?_ 
          refine pv_aload_n (q := 126) C dX7_digest_125 rfl rfl rfl ?_ 
          refine pv_iload_n (q := 127) C dX7_digest_126 rfl rfl rfl ?_ 
          refine pv_callVi (q := 130) C hKl (c_X7_vacant l X D2 P _ (by omega)) tw_1065 k6 (by decide) rfl mm_X7_vacant ⟨rfl, rfl⟩ (by rw [hKR]; exact ⟨Nat.le_of_ble_eq_true rfl, Nat.le_of_ble_eq_true rfl⟩) (by rw [hKR]; exact ⟨Nat.le_of_ble_eq_true rfl, Nat.le_of_ble_eq_true rfl⟩) rfl rfl rfl (Nat.le_of_ble_eq_true rfl) dX7_digest_127 rfl (fun r127 D127 P127 hp127 => ?_) 
          rcases hp127 with ⟨⟨hy127, rfl⟩ | ⟨hn127, rfl⟩, rfl, rfl⟩
          · refine pv_if_eq (q := 133) (tgt := 137) C dX7_digest_130 (by decide) rfl (fun h => absurd h (by decide)) (fun _ => ?_)
            refine pv_lload_n (q := 134) C dX7_digest_133 rfl rfl rfl ?_ 
            refine pv_goto (tgt := 163) C dX7_digest_134 (by decide) ?_ 
            refine pv_lstore_n (q := 164) C dX7_digest_163 rfl rfl (Nat.le_of_ble_eq_true rfl) rfl ?_ 
            refine pv_iinc (q := 167) (v := nI (p + 1)) C dX7_digest_164 rfl rfl (nI_add _ _) rfl ?_ 
            refine pv_goto (tgt := 101) C dX7_digest_167 (by decide) ?_ 
            exact ih (p + 1) _ (by omega) (by omega) (by rw [hh]; show _ = (if D 7 p = 0 then _ else _); rw [if_pos (by rw [hD2] at hy110; exact hy110)])
          · refine pv_if_eq (q := 133) (tgt := 137) C dX7_digest_130 (by decide) rfl (fun _ => ?_) (fun h => absurd h (by decide))
            refine pv_lload_n (q := 138) C dX7_digest_137 rfl rfl rfl ?_ 
            refine pv_aload_n (q := 139) C dX7_digest_138 rfl rfl rfl ?_ 
            refine pg_7_1 (q := 142) C k6 tw_996 dX7_digest_139 rfl (fun k139 => ?_) 
            refine pv_iload_n (q := 143) C dX7_digest_142 rfl rfl rfl ?_ 
            refine pv_iald (q := 144) (j := p) C (iln_15 k139) rfl (by omega) dX7_digest_143 rfl ?_ 
            refine pv_iconst (q := 145) (v := 1) C dX7_digest_144 rfl (by decide) ?_ 
            refine pv_isub (q := 146) C dX7_digest_145 rfl ?_ 
            refine pv_i2l (q := 147) C dX7_digest_146 rfl ?_ 
            refine pv_callSl (q := 150) C hKl (c_X7_mix l X D2 P _ _) tw_1458 mm_X7_mix ⟨rfl, rfl⟩ (by rw [hKR]; exact ⟨Nat.le_of_ble_eq_true rfl, Nat.le_of_ble_eq_true rfl⟩) (by rw [hKR]; exact ⟨Nat.le_of_ble_eq_true rfl, Nat.le_of_ble_eq_true rfl⟩) rfl rfl rfl (Nat.le_of_ble_eq_true rfl) dX7_digest_147 rfl (fun r147 D147 P147 hp147 => ?_) 
            obtain ⟨rfl, rfl, rfl⟩ := hp147
            refine pv_aload_n (q := 151) C dX7_digest_150 rfl rfl rfl ?_ 
            refine pg_7_1 (q := 154) C k6 tw_996 dX7_digest_151 rfl (fun k151 => ?_) 
            refine pv_bipush (q := 156) (v := 16) C dX7_digest_154 rfl (by decide) ?_ 
            refine pv_iload_n (q := 157) C dX7_digest_156 rfl rfl rfl ?_ 
            refine pv_iaddN (q := 158) (a := 16) (b := p) C rfl rfl dX7_digest_157 rfl ?_ 
            refine pv_iald (q := 159) (j := (16 + p)) C (iln_15 k151) rfl (by omega) dX7_digest_158 rfl ?_ 
            refine pv_i2l (q := 160) C dX7_digest_159 rfl ?_ 
            refine pv_callSl (q := 163) C hKl (c_X7_mix l X D2 P _ _) tw_1458 mm_X7_mix ⟨rfl, rfl⟩ (by rw [hKR]; exact ⟨Nat.le_of_ble_eq_true rfl, Nat.le_of_ble_eq_true rfl⟩) (by rw [hKR]; exact ⟨Nat.le_of_ble_eq_true rfl, Nat.le_of_ble_eq_true rfl⟩) rfl rfl rfl (Nat.le_of_ble_eq_true rfl) dX7_digest_160 rfl (fun r160 D160 P160 hp160 => ?_) 
            obtain ⟨rfl, rfl, rfl⟩ := hp160
            refine pv_lstore_n (q := 164) C dX7_digest_163 rfl rfl (Nat.le_of_ble_eq_true rfl) rfl ?_ 
            refine pv_iinc (q := 167) (v := nI (p + 1)) C dX7_digest_164 rfl rfl (nI_add _ _) rfl ?_ 
            refine pv_goto (tgt := 101) C dX7_digest_167 (by decide) ?_ 
            exfalso
            exact hn127 hy110
        · refine pv_if_eq (q := 116) (tgt := 120) C dX7_digest_113 (by decide) rfl (fun _ => ?_) (fun h => absurd h (by decide))
          refine pv_lconst (q := 121) (v := 0) C dX7_digest_120 rfl (by decide) ?_ 
          refine pv_callSl (q := 124) C hKl (c_X7_mix l X D2 P _ _) tw_1458 mm_X7_mix ⟨rfl, rfl⟩ (by rw [hKR]; exact ⟨Nat.le_of_ble_eq_true rfl, Nat.le_of_ble_eq_true rfl⟩) (by rw [hKR]; exact ⟨Nat.le_of_ble_eq_true rfl, Nat.le_of_ble_eq_true rfl⟩) rfl rfl rfl (Nat.le_of_ble_eq_true rfl) dX7_digest_121 rfl (fun r121 D121 P121 hp121 => ?_) 
          obtain ⟨rfl, rfl, rfl⟩ := hp121
          refine pv_lstore_n (q := 125) C dX7_digest_124 rfl rfl (Nat.le_of_ble_eq_true rfl) rfl ?_ 
          refine pv_aload_n (q := 126) C dX7_digest_125 rfl rfl rfl ?_ 
          refine pv_iload_n (q := 127) C dX7_digest_126 rfl rfl rfl ?_ 
          refine pv_callVi (q := 130) C hKl (c_X7_vacant l X D2 P _ (by omega)) tw_1065 k6 (by decide) rfl mm_X7_vacant ⟨rfl, rfl⟩ (by rw [hKR]; exact ⟨Nat.le_of_ble_eq_true rfl, Nat.le_of_ble_eq_true rfl⟩) (by rw [hKR]; exact ⟨Nat.le_of_ble_eq_true rfl, Nat.le_of_ble_eq_true rfl⟩) rfl rfl rfl (Nat.le_of_ble_eq_true rfl) dX7_digest_127 rfl (fun r127 D127 P127 hp127 => ?_) 
          rcases hp127 with ⟨⟨hy127, rfl⟩ | ⟨hn127, rfl⟩, rfl, rfl⟩
          · refine pv_if_eq (q := 133) (tgt := 137) C dX7_digest_130 (by decide) rfl (fun h => absurd h (by decide)) (fun _ => ?_)
            refine pv_lload_n (q := 134) C dX7_digest_133 rfl rfl rfl ?_ 
            refine pv_goto (tgt := 163) C dX7_digest_134 (by decide) ?_ 
            refine pv_lstore_n (q := 164) C dX7_digest_163 rfl rfl (Nat.le_of_ble_eq_true rfl) rfl ?_ 
            refine pv_iinc (q := 167) (v := nI (p + 1)) C dX7_digest_164 rfl rfl (nI_add _ _) rfl ?_ 
            refine pv_goto (tgt := 101) C dX7_digest_167 (by decide) ?_ 
            exfalso
            exact hn110 hy127
          · refine pv_if_eq (q := 133) (tgt := 137) C dX7_digest_130 (by decide) rfl (fun _ => ?_) (fun h => absurd h (by decide))
            refine pv_lload_n (q := 138) C dX7_digest_137 rfl rfl rfl ?_ 
            refine pv_aload_n (q := 139) C dX7_digest_138 rfl rfl rfl ?_ 
            refine pg_7_1 (q := 142) C k6 tw_996 dX7_digest_139 rfl (fun k139 => ?_) 
            refine pv_iload_n (q := 143) C dX7_digest_142 rfl rfl rfl ?_ 
            refine pv_iald (q := 144) (j := p) C (iln_15 k139) rfl (by omega) dX7_digest_143 rfl ?_ 
            refine pv_iconst (q := 145) (v := 1) C dX7_digest_144 rfl (by decide) ?_ 
            refine pv_isub (q := 146) C dX7_digest_145 rfl ?_ 
            refine pv_i2l (q := 147) C dX7_digest_146 rfl ?_ 
            refine pv_callSl (q := 150) C hKl (c_X7_mix l X D2 P _ _) tw_1458 mm_X7_mix ⟨rfl, rfl⟩ (by rw [hKR]; exact ⟨Nat.le_of_ble_eq_true rfl, Nat.le_of_ble_eq_true rfl⟩) (by rw [hKR]; exact ⟨Nat.le_of_ble_eq_true rfl, Nat.le_of_ble_eq_true rfl⟩) rfl rfl rfl (Nat.le_of_ble_eq_true rfl) dX7_digest_147 rfl (fun r147 D147 P147 hp147 => ?_) 
            obtain ⟨rfl, rfl, rfl⟩ := hp147
            refine pv_aload_n (q := 151) C dX7_digest_150 rfl rfl rfl ?_ 
            refine pg_7_1 (q := 154) C k6 tw_996 dX7_digest_151 rfl (fun k151 => ?_) 
            refine pv_bipush (q := 156) (v := 16) C dX7_digest_154 rfl (by decide) ?_ 
            refine pv_iload_n (q := 157) C dX7_digest_156 rfl rfl rfl ?_ 
            refine pv_iaddN (q := 158) (a := 16) (b := p) C rfl rfl dX7_digest_157 rfl ?_ 
            refine pv_iald (q := 159) (j := (16 + p)) C (iln_15 k151) rfl (by omega) dX7_digest_158 rfl ?_ 
            refine pv_i2l (q := 160) C dX7_digest_159 rfl ?_ 
            refine pv_callSl (q := 163) C hKl (c_X7_mix l X D2 P _ _) tw_1458 mm_X7_mix ⟨rfl, rfl⟩ (by rw [hKR]; exact ⟨Nat.le_of_ble_eq_true rfl, Nat.le_of_ble_eq_true rfl⟩) (by rw [hKR]; exact ⟨Nat.le_of_ble_eq_true rfl, Nat.le_of_ble_eq_true rfl⟩) rfl rfl rfl (Nat.le_of_ble_eq_true rfl) dX7_digest_160 rfl (fun r160 D160 P160 hp160 => ?_) 
            obtain ⟨rfl, rfl, rfl⟩ := hp160
            refine pv_lstore_n (q := 164) C dX7_digest_163 rfl rfl (Nat.le_of_ble_eq_true rfl) rfl ?_ 
            refine pv_iinc (q := 167) (v := nI (p + 1)) C dX7_digest_164 rfl rfl (nI_add _ _) rfl ?_ 
            refine pv_goto (tgt := 101) C dX7_digest_167 (by decide) ?_ 
            exact ih (p + 1) _ (by omega) (by omega) (by rw [hh]; show _ = (if D 7 p = 0 then _ else _); rw [if_neg (by rw [hD2] at hn110; exact hn110), hD2]; rfl)
  exact loop_101 17 0 _ (by omega) (by omega) (by rw [hD2]; rfl)
