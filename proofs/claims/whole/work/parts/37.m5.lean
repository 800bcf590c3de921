set_option maxRecDepth 100000 in
set_option maxHeartbeats 4000000 in
theorem c_X7_here (l : Launch) (X : XT) (D : DT) (P : PT) (n a : Nat) (ht : txt D n a)  : CG l X yX7_here (.code yX7_here cX7_here 1 (some .int) :: AW) ({ frames := 0, cells := 0, slots := 0, locals := 0 } : Room) [.ref (X.2.2 6)] (qI X (fun r D' P' => r = hr (D 12) n a ∧ D = D' ∧ P = P')) D P 0 0 := by
  refine cg_of (by decide +kernel) (Nat.le_of_ble_eq_true rfl) ?_
  intro K hKl hKR C
  refine PV_lv (lv' := [some (.ref (X.2.2 6))]) rfl ?_
  obtain ⟨t1, t2, t3, t4⟩ := ht
  refine pv_aload_n (q := 1) C dX7_here_0 rfl rfl rfl ?_ 
  refine pg_7_10 (q := 4) C k6 tw_1005 dX7_here_1 rfl ?_ 
  rw [t3]
  refine pv_aload_n (q := 5) C dX7_here_4 rfl rfl rfl ?_ 
  refine pg_7_9 (q := 8) C k6 tw_1004 dX7_here_5 rfl ?_ 
  rw [t1]
  refine pv_icmp_geN (q := 11) (tgt := 23) (a := a) (b := n) C rfl rfl (by omega) (by omega) dX7_here_8 (by decide) rfl (fun c_8 => ?_) (fun c_8 => ?_) 
  · refine pv_iconst (q := 24) (v := (-1)) C dX7_here_23 rfl (by decide) ?_
    exact pv_iret C (⟨by unfold hr; rw [if_neg (by omega)], rfl, rfl⟩) (by decide) (by decide) dX7_here_24
  · refine pv_aload_n (q := 12) C dX7_here_11 rfl rfl rfl ?_
    refine pg_7_8 (q := 15) C k6 tw_1003 dX7_here_12 rfl (fun k12 => ?_) 
    refine pv_aload_n (q := 16) C dX7_here_15 rfl rfl rfl ?_ 
    refine pg_7_10 (q := 19) C k6 tw_1005 dX7_here_16 rfl ?_ 
    rw [t3]
    refine pv_iald (q := 20) (j := a) C (iln_17 k12) rfl (by omega) dX7_here_19 rfl ?_ 
    refine pv_goto (tgt := 24) C dX7_here_20 (by decide) ?_ 
    exact pv_iret C (⟨by unfold hr; rw [if_pos (by omega)], rfl, rfl⟩) (by decide) (by decide) dX7_here_24
set_option maxRecDepth 100000 in
set_option maxHeartbeats 4000000 in
theorem c_X7_take1 (l : Launch) (X : XT) (D : DT) (P : PT) (a : Nat) (ha : D 6 10 = nI a) (hg : D 6 11 = 1) : CG l X yX7_take (.code yX7_take cX7_take 2 none :: AW) ({ frames := 0, cells := 0, slots := 0, locals := 0 } : Room) [.ref (X.2.2 6), .int 1] (qV X (fun D' P' => D' = pd D (a + 1) 1 ∧ P = P')) D P 0 0 := by
  refine cg_of (by decide +kernel) (Nat.le_of_ble_eq_true rfl) ?_
  intro K hKl hKR C
  refine PV_lv (lv' := [some (.ref (X.2.2 6)), some (.int 1)]) rfl ?_
  refine pv_aload_n (q := 1) C dX7_take_0 rfl rfl rfl ?_ 
  refine pv_aload_n (q := 2) C dX7_take_1 rfl rfl rfl ?_ 
  refine pg_7_11 (q := 5) C k6 tw_1006 dX7_take_2 rfl ?_ 
  rw [hg]
  refine pv_if_eq (q := 8) (tgt := 16) C dX7_take_5 (by decide) rfl (fun h => absurd h (by decide)) (fun _ => ?_) 
  refine pv_iload_n (q := 9) C dX7_take_8 rfl rfl rfl ?_ 
  refine pv_if_eq (q := 12) (tgt := 16) C dX7_take_9 (by decide) rfl (fun h => absurd h (by decide)) (fun _ => ?_) 
  refine pv_iconst (q := 13) (v := 1) C dX7_take_12 rfl (by decide) ?_ 
  refine pv_goto (tgt := 17) C dX7_take_13 (by decide) ?_ 
  refine pp_7_11 (q := 20) C k6 tw_1006 (Or.inr rfl) dX7_take_17 rfl (fun D17 hD17 => ?_) 
  refine pv_aload_n (q := 21) C dX7_take_20 rfl rfl rfl ?_ 
  refine pv_dup (q := 22) C dX7_take_21 rfl rfl ?_ 
  refine pg_7_10 (q := 25) C k6 tw_1005 dX7_take_22 rfl ?_ 
  rw [show D17 6 10 = nI a by rw [hD17, up2_nk _ _ _ (by decide)]; exact ha]
  refine pv_aload_n (q := 26) C dX7_take_25 rfl rfl rfl ?_ 
  refine pg_7_11 (q := 29) C k6 tw_1006 dX7_take_26 rfl ?_ 
  rw [show D17 6 11 = 1 by rw [hD17, up2_self]]
  refine pv_if_eq (q := 32) (tgt := 36) C dX7_take_29 (by decide) rfl (fun h => absurd h (by decide)) (fun _ => ?_) 
  refine pv_iconst (q := 33) (v := 1) C dX7_take_32 rfl (by decide) ?_ 
  refine pv_goto (tgt := 37) C dX7_take_33 (by decide) ?_ 
  refine pv_iaddN (q := 38) (a := a) (b := 1) C rfl rfl dX7_take_37 rfl ?_ 
  refine pp_7_10 (q := 41) C k6 tw_1005 dX7_take_38 rfl (fun D38 hD38 => ?_) 
  exact pv_vret C (⟨by rw [hD38, hD17]; rfl, rfl⟩) (by decide) (by decide) dX7_take_41
set_option maxRecDepth 100000 in
set_option maxHeartbeats 4000000 in
theorem c_X7_take0 (l : Launch) (X : XT) (D : DT) (P : PT) (a : Nat) (ha : D 6 10 = nI a) : CG l X yX7_take (.code yX7_take cX7_take 2 none :: AW) ({ frames := 0, cells := 0, slots := 0, locals := 0 } : Room) [.ref (X.2.2 6), .int 0] (qV X (fun D' P' => D' = pd D a 0 ∧ P = P')) D P 0 0 := by
  refine cg_of (by decide +kernel) (Nat.le_of_ble_eq_true rfl) ?_
  intro K hKl hKR C
  refine PV_lv (lv' := [some (.ref (X.2.2 6)), some (.int 0)]) rfl ?_
  refine pv_aload_n (q := 1) C dX7_take_0 rfl rfl rfl ?_ 
  refine pv_aload_n (q := 2) C dX7_take_1 rfl rfl rfl ?_ 
  refine pg_7_11 (q := 5) C k6 tw_1006 dX7_take_2 rfl ?_ 
  refine pv_if_eq (q := 8) (tgt := 16) C dX7_take_5 (by decide) rfl (fun c_5 => ?_) (fun c_5 => ?_) 
  · refine pv_iconst (q := 17) (v := 0) C dX7_take_16 rfl (by decide) ?_
    refine pp_7_11 (q := 20) C k6 tw_1006 (Or.inl rfl) dX7_take_17 rfl (fun D17 hD17 => ?_) 
    refine pv_aload_n (q := 21) C dX7_take_20 rfl rfl rfl ?_ 
    refine pv_dup (q := 22) C dX7_take_21 rfl rfl ?_ 
    refine pg_7_10 (q := 25) C k6 tw_1005 dX7_take_22 rfl ?_ 
    rw [show D17 6 10 = nI a by rw [hD17, up2_nk _ _ _ (by decide)]; exact ha]
    refine pv_aload_n (q := 26) C dX7_take_25 rfl rfl rfl ?_ 
    refine pg_7_11 (q := 29) C k6 tw_1006 dX7_take_26 rfl ?_ 
    rw [show D17 6 11 = 0 by rw [hD17, up2_self]]
    refine pv_if_eq (q := 32) (tgt := 36) C dX7_take_29 (by decide) rfl (fun _ => ?_) (fun h => absurd h (by decide)) 
    refine pv_iconst (q := 37) (v := 0) C dX7_take_36 rfl (by decide) ?_ 
    refine pv_iaddN (q := 38) (a := a) (b := 0) C rfl rfl dX7_take_37 rfl ?_ 
    refine pp_7_10 (q := 41) C k6 tw_1005 dX7_take_38 rfl (fun D38 hD38 => ?_) 
    exact pv_vret C (⟨by rw [hD38, hD17]; rfl, rfl⟩) (by decide) (by decide) dX7_take_41
  · refine pv_iload_n (q := 9) C dX7_take_8 rfl rfl rfl ?_
    refine pv_if_eq (q := 12) (tgt := 16) C dX7_take_9 (by decide) rfl (fun _ => ?_) (fun h => absurd h (by decide)) 
    refine pv_iconst (q := 17) (v := 0) C dX7_take_16 rfl (by decide) ?_ 
    refine pp_7_11 (q := 20) C k6 tw_1006 (Or.inl rfl) dX7_take_17 rfl (fun D17 hD17 => ?_) 
    refine pv_aload_n (q := 21) C dX7_take_20 rfl rfl rfl ?_ 
    refine pv_dup (q := 22) C dX7_take_21 rfl rfl ?_ 
    refine pg_7_10 (q := 25) C k6 tw_1005 dX7_take_22 rfl ?_ 
    rw [show D17 6 10 = nI a by rw [hD17, up2_nk _ _ _ (by decide)]; exact ha]
    refine pv_aload_n (q := 26) C dX7_take_25 rfl rfl rfl ?_ 
    refine pg_7_11 (q := 29) C k6 tw_1006 dX7_take_26 rfl ?_ 
    rw [show D17 6 11 = 0 by rw [hD17, up2_self]]
    refine pv_if_eq (q := 32) (tgt := 36) C dX7_take_29 (by decide) rfl (fun _ => ?_) (fun h => absurd h (by decide)) 
    refine pv_iconst (q := 37) (v := 0) C dX7_take_36 rfl (by decide) ?_ 
    refine pv_iaddN (q := 38) (a := a) (b := 0) C rfl rfl dX7_take_37 rfl ?_ 
    refine pp_7_10 (q := 41) C k6 tw_1005 dX7_take_38 rfl (fun D38 hD38 => ?_) 
    exact pv_vret C (⟨by rw [hD38, hD17]; rfl, rfl⟩) (by decide) (by decide) dX7_take_41
set_option maxRecDepth 100000 in
set_option maxHeartbeats 4000000 in
theorem c_X7_takeN (l : Launch) (X : XT) (D : DT) (P : PT) (a : Nat) (ha : D 6 10 = nI a) (hg : D 6 11 = 0) (b : Int32) : CG l X yX7_take (.code yX7_take cX7_take 2 none :: AW) ({ frames := 0, cells := 0, slots := 0, locals := 0 } : Room) [.ref (X.2.2 6), .int b] (qV X (fun D' P' => D' = pd D a 0 ∧ P = P')) D P 0 0 := by
  refine cg_of (by decide +kernel) (Nat.le_of_ble_eq_true rfl) ?_
  intro K hKl hKR C
  refine PV_lv (lv' := [some (.ref (X.2.2 6)), some (.int b)]) rfl ?_
  refine pv_aload_n (q := 1) C dX7_take_0 rfl rfl rfl ?_ 
  refine pv_aload_n (q := 2) C dX7_take_1 rfl rfl rfl ?_ 
  refine pg_7_11 (q := 5) C k6 tw_1006 dX7_take_2 rfl ?_ 
  rw [hg]
  refine pv_if_eq (q := 8) (tgt := 16) C dX7_take_5 (by decide) rfl (fun _ => ?_) (fun h => absurd h (by decide)) 
  refine pv_iconst (q := 17) (v := 0) C dX7_take_16 rfl (by decide) ?_ 
  refine pp_7_11 (q := 20) C k6 tw_1006 (Or.inl rfl) dX7_take_17 rfl (fun D17 hD17 => ?_) 
  refine pv_aload_n (q := 21) C dX7_take_20 rfl rfl rfl ?_ 
  refine pv_dup (q := 22) C dX7_take_21 rfl rfl ?_ 
  refine pg_7_10 (q := 25) C k6 tw_1005 dX7_take_22 rfl ?_ 
  rw [show D17 6 10 = nI a by rw [hD17, up2_nk _ _ _ (by decide)]; exact ha]
  refine pv_aload_n (q := 26) C dX7_take_25 rfl rfl rfl ?_ 
  refine pg_7_11 (q := 29) C k6 tw_1006 dX7_take_26 rfl ?_ 
  rw [show D17 6 11 = 0 by rw [hD17, up2_self]]
  refine pv_if_eq (q := 32) (tgt := 36) C dX7_take_29 (by decide) rfl (fun _ => ?_) (fun h => absurd h (by decide)) 
  refine pv_iconst (q := 37) (v := 0) C dX7_take_36 rfl (by decide) ?_ 
  refine pv_iaddN (q := 38) (a := a) (b := 0) C rfl rfl dX7_take_37 rfl ?_ 
  refine pp_7_10 (q := 41) C k6 tw_1005 dX7_take_38 rfl (fun D38 hD38 => ?_) 
  exact pv_vret C (⟨by rw [hD38, hD17]; rfl, rfl⟩) (by decide) (by decide) dX7_take_41
set_option maxRecDepth 100000 in
set_option maxHeartbeats 4000000 in
theorem c_X7_number0 (l : Launch) (X : XT) (D : DT) (P : PT) (n a : Nat) (ht : txt D n a) (hi : Nat) (hhi : hi ≤ 99) (hg : D 6 11 = 1) : CG l X yX7_number (.code yX7_number cX7_number 6 (some .int) :: AW) ({ frames := 1, cells := 0, slots := 0, locals := 36 } : Room) [.ref (X.2.2 6), .int 0, .int (nI hi)] (qI X (fun r D' P' => ((∃ v b, pN (D 12) n a 0 hi = some (v, b) ∧ b ≤ n ∧ v ≤ hi ∧ r = nI v ∧ D' = pd D b 1) ∨ (pN (D 12) n a 0 hi = none ∧ r = nI 0 ∧ D' = pd D a 0)) ∧ P = P')) D P 0 0 := by
  refine cg_of (by decide +kernel) (Nat.le_of_ble_eq_true rfl) ?_
  intro K hKl hKR C
  refine PV_lv (lv' := [some (.ref (X.2.2 6)), some (.int 0), some (.int (nI hi)), none, none, none]) rfl ?_
  obtain ⟨t1, t2, t3, t4⟩ := id ht
  refine pv_aload_n (q := 1) C dX7_number_0 rfl rfl rfl ?_ 
  refine pv_callVi (q := 4) C hKl (c_X7_here l X D P n a (ht)) tw_1215 k6 (by decide) rfl mm_X7_here ⟨rfl, rfl⟩ (by rw [hKR]; exact ⟨Nat.le_of_ble_eq_true rfl, Nat.le_of_ble_eq_true rfl⟩) (by rw [hKR]; exact ⟨Nat.le_of_ble_eq_true rfl, Nat.le_of_ble_eq_true rfl⟩) rfl rfl rfl (Nat.le_of_ble_eq_true rfl) dX7_number_1 rfl (fun r1 D1 P1 hp1 => ?_) 
  obtain ⟨rfl, rfl, rfl⟩ := hp1
  refine pv_bipush (q := 6) (v := 48) C dX7_number_4 rfl (by decide) ?_ 
  refine pv_isub (q := 7) C dX7_number_6 rfl ?_ 
  refine pv_istore_n (q := 8) C dX7_number_7 rfl rfl (Nat.le_of_ble_eq_true rfl) rfl ?_ 
  refine pv_aload_n (q := 9) C dX7_number_8 rfl rfl rfl ?_ 
  refine pv_iload_n (q := 10) C dX7_number_9 rfl rfl rfl ?_ 
  refine pv_i2l (q := 11) C dX7_number_10 rfl ?_ 
  refine pv_iload_n (q := 12) C dX7_number_11 rfl rfl rfl ?_ 
  refine pv_if_le (q := 15) (tgt := 19) C dX7_number_12 (by decide) rfl (fun _ => ?_) (fun h => absurd h (by decide)) 
  refine pv_lconst (q := 20) (v := 0) C dX7_number_19 rfl (by decide) ?_ 
  refine pv_ldc2 (q := 23) C dX7_number_20 rfl tw_1231 ?_ 
  refine pv_callSi (q := 26) C hKl (c_X7_in l X D P _ _ _) tw_1053 mm_X7_in ⟨rfl, rfl⟩ (by rw [hKR]; exact ⟨Nat.le_of_ble_eq_true rfl, Nat.le_of_ble_eq_true rfl⟩) (by rw [hKR]; exact ⟨Nat.le_of_ble_eq_true rfl, Nat.le_of_ble_eq_true rfl⟩) rfl rfl rfl (Nat.le_of_ble_eq_true rfl) dX7_number_23 rfl (fun r23 D23 P23 hp23 => ?_) 
  rcases hp23 with ⟨⟨hz23, rfl⟩ | ⟨hm23, rfl⟩, rfl, rfl⟩
  · have hy23 : rg (dg (D 12) n a) (nI 0) 9 := (rg_l (by decide) (by decide)).mpr hz23
    refine pv_if_eq (q := 29) (tgt := 38) C dX7_number_26 (by decide) rfl (fun h => absurd h (by decide)) (fun _ => ?_) 
    obtain ⟨d, hd, ed⟩ := rg_N 9 (x := dg (D 12) n a) ⟨by have := hy23.1; exact Int32.le_trans (by decide) this, hy23.2⟩ rfl
    rw [show hr (D 12) n a - 48 = nI d from ed]
    refine pv_iload_n (q := 30) C dX7_number_29 rfl rfl rfl ?_ 
    refine pv_iload_n (q := 31) C dX7_number_30 rfl rfl rfl ?_ 
    refine pv_icmp_gtN (q := 34) (tgt := 38) (a := d) (b := hi) C rfl rfl (by omega) (by omega) dX7_number_31 (by decide) rfl (fun c_31 => ?_) (fun c_31 => ?_) 
    · refine pv_iconst (q := 39) (v := 0) C dX7_number_38 rfl (by decide) ?_
      refine pv_callVv (q := 42) C hKl (c_X7_take0 l X D P a (t3)) tw_1219 k6 (by decide) rfl mm_X7_take ⟨rfl, rfl⟩ (by rw [hKR]; exact ⟨Nat.le_of_ble_eq_true rfl, Nat.le_of_ble_eq_true rfl⟩) (by rw [hKR]; exact ⟨Nat.le_of_ble_eq_true rfl, Nat.le_of_ble_eq_true rfl⟩) rfl rfl rfl (Nat.le_of_ble_eq_true rfl) dX7_number_39 rfl (fun D39 P39 hp39 => ?_) 
      obtain ⟨hR39, rfl⟩ := hp39
      refine pv_aload_n (q := 43) C dX7_number_42 rfl rfl rfl ?_ 
      refine pg_7_11 (q := 46) C k6 tw_1006 dX7_number_43 rfl ?_ 
      rw [show D39 6 11 = 0 by rw [hR39]; exact pd_g _ _ _]
      refine pv_if_eq (q := 49) (tgt := 57) C dX7_number_46 (by decide) rfl (fun _ => ?_) (fun h => absurd h (by decide)) 
      refine pv_iconst (q := 58) (v := 0) C dX7_number_57 rfl (by decide) ?_ 
      refine pv_istore (q := 60) C dX7_number_58 rfl (Nat.le_of_ble_eq_true rfl) rfl ?_ 
      refine pv_iload (q := 62) C dX7_number_60 rfl rfl ?_ 
      refine pv_if_eq (q := 65) (tgt := 144) C dX7_number_62 (by decide) rfl (fun _ => ?_) (fun h => absurd h (by decide)) 
      refine pv_aload_n (q := 145) C dX7_number_144 rfl rfl rfl ?_ 
      refine pg_7_11 (q := 148) C k6 tw_1006 dX7_number_145 rfl ?_ 
      rw [show D39 6 11 = 0 by rw [hR39]; exact pd_g _ _ _]
      refine pv_if_eq (q := 151) (tgt := 155) C dX7_number_148 (by decide) rfl (fun _ => ?_) (fun h => absurd h (by decide)) 
      refine pv_iload_n (q := 156) C dX7_number_155 rfl rfl rfl ?_ 
      exact pv_iret C (⟨Or.inr ⟨by unfold pN; rw [if_neg (fun z => absurd ((nI_leI (a := d) (b := hi) (by omega) (by omega)).mp (by rw [← ed]; exact z.2)) (by omega))], rfl, by rw [hR39]⟩, rfl⟩) (by decide) (by decide) dX7_number_156
    · refine pv_iconst (q := 35) (v := 1) C dX7_number_34 rfl (by decide) ?_
      refine pv_goto (tgt := 39) C dX7_number_35 (by decide) ?_ 
      refine pv_callVv (q := 42) C hKl (c_X7_take1 l X D P a (t3) (hg)) tw_1219 k6 (by decide) rfl mm_X7_take ⟨rfl, rfl⟩ (by rw [hKR]; exact ⟨Nat.le_of_ble_eq_true rfl, Nat.le_of_ble_eq_true rfl⟩) (by rw [hKR]; exact ⟨Nat.le_of_ble_eq_true rfl, Nat.le_of_ble_eq_true rfl⟩) rfl rfl rfl (Nat.le_of_ble_eq_true rfl) dX7_number_39 rfl (fun D39 P39 hp39 => ?_) 
      obtain ⟨hR39, rfl⟩ := hp39
      refine pv_aload_n (q := 43) C dX7_number_42 rfl rfl rfl ?_ 
      refine pg_7_11 (q := 46) C k6 tw_1006 dX7_number_43 rfl ?_ 
      rw [show D39 6 11 = 1 by rw [hR39]; exact pd_g _ _ _]
      refine pv_if_eq (q := 49) (tgt := 57) C dX7_number_46 (by decide) rfl (fun h => absurd h (by decide)) (fun _ => ?_) 
      refine pv_iload_n (q := 50) C dX7_number_49 rfl rfl rfl ?_ 
      refine pv_if_leN (q := 53) (tgt := 57) (a := d) (b := 0) C rfl rfl (by omega) (by omega) dX7_number_50 (by decide) rfl (fun c_50 => ?_) (fun c_50 => ?_) 
      · refine pv_iconst (q := 58) (v := 0) C dX7_number_57 rfl (by decide) ?_
        refine pv_istore (q := 60) C dX7_number_58 rfl (Nat.le_of_ble_eq_true rfl) rfl ?_ 
        refine pv_iload (q := 62) C dX7_number_60 rfl rfl ?_ 
        refine pv_if_eq (q := 65) (tgt := 144) C dX7_number_62 (by decide) rfl (fun _ => ?_) (fun h => absurd h (by decide)) 
        refine pv_aload_n (q := 145) C dX7_number_144 rfl rfl rfl ?_ 
        refine pg_7_11 (q := 148) C k6 tw_1006 dX7_number_145 rfl ?_ 
        rw [show D39 6 11 = 1 by rw [hR39]; exact pd_g _ _ _]
        refine pv_if_eq (q := 151) (tgt := 155) C dX7_number_148 (by decide) rfl (fun h => absurd h (by decide)) (fun _ => ?_) 
        refine pv_iload_n (q := 152) C dX7_number_151 rfl rfl rfl ?_ 
        refine pv_goto (tgt := 156) C dX7_number_152 (by decide) ?_ 
        exact pv_iret C (⟨Or.inl ⟨d, a + 1, by unfold pN; rw [ed, if_pos ⟨by rw [← ed]; exact hy23, nI_le (by omega) (by omega)⟩, if_neg (fun z => z.1 (by rw [show d = 0 by omega]; rfl)), ix_n (by omega)], dg_lt ed (by omega), by omega, rfl, hR39⟩, rfl⟩) (by decide) (by decide) dX7_number_156
      · refine pv_iconst (q := 54) (v := 1) C dX7_number_53 rfl (by decide) ?_
        refine pv_goto (tgt := 58) C dX7_number_54 (by decide) ?_ 
        refine pv_istore (q := 60) C dX7_number_58 rfl (Nat.le_of_ble_eq_true rfl) rfl ?_ 
        refine pv_iload (q := 62) C dX7_number_60 rfl rfl ?_ 
        refine pv_if_eq (q := 65) (tgt := 144) C dX7_number_62 (by decide) rfl (fun h => absurd h (by decide)) (fun _ => ?_) 
        have e39 : D39 12 = D 12 := by rw [hR39]; exact pd_o _ _ _ (by decide)
        refine pv_aload_n (q := 66) C dX7_number_65 rfl rfl rfl ?_ 
        refine pv_callVi (q := 69) C hKl (c_X7_here l X D39 P n (a + 1) (by rw [hR39]; exact txt_pd ht (dg_lt ed (by omega)) 1)) tw_1215 k6 (by decide) rfl mm_X7_here ⟨rfl, rfl⟩ (by rw [hKR]; exact ⟨Nat.le_of_ble_eq_true rfl, Nat.le_of_ble_eq_true rfl⟩) (by rw [hKR]; exact ⟨Nat.le_of_ble_eq_true rfl, Nat.le_of_ble_eq_true rfl⟩) rfl rfl rfl (Nat.le_of_ble_eq_true rfl) dX7_number_66 rfl (fun r66 D66 P66 hp66 => ?_) 
        obtain ⟨rfl, rfl, rfl⟩ := hp66
        refine pv_bipush (q := 71) (v := 48) C dX7_number_69 rfl (by decide) ?_ 
        refine pv_isub (q := 72) C dX7_number_71 rfl ?_ 
        refine pv_istore (q := 74) C dX7_number_72 rfl (Nat.le_of_ble_eq_true rfl) rfl ?_ 
        refine pv_iload (q := 76) C dX7_number_74 rfl rfl ?_ 
        refine pv_i2l (q := 77) C dX7_number_76 rfl ?_ 
        refine pv_lconst (q := 78) (v := 0) C dX7_number_77 rfl (by decide) ?_ 
        refine pv_ldc2 (q := 81) C dX7_number_78 rfl tw_1231 ?_ 
        refine pv_callSi (q := 84) C hKl (c_X7_in l X D39 P _ _ _) tw_1053 mm_X7_in ⟨rfl, rfl⟩ (by rw [hKR]; exact ⟨Nat.le_of_ble_eq_true rfl, Nat.le_of_ble_eq_true rfl⟩) (by rw [hKR]; exact ⟨Nat.le_of_ble_eq_true rfl, Nat.le_of_ble_eq_true rfl⟩) rfl rfl rfl (Nat.le_of_ble_eq_true rfl) dX7_number_81 rfl (fun r81 D81 P81 hp81 => ?_) 
        rcases hp81 with ⟨⟨hz81, rfl⟩ | ⟨hm81, rfl⟩, rfl, rfl⟩
        · have hy81 : rg (dg (D 12) n (a + 1)) 0 9 := by rw [e39] at hz81; exact (rg_l (by decide) (by decide)).mpr hz81
          have hy2 := hy81
          refine pv_if_eq (q := 87) (tgt := 102) C dX7_number_84 (by decide) rfl (fun h => absurd h (by decide)) (fun _ => ?_) 
          obtain ⟨d2, hd2, ed2⟩ := rg_N 9 hy81 rfl
          rw [show hr (D39 12) n (a + 1) - 48 = nI d2 by rw [e39]; exact ed2]
          refine pv_bipush (q := 89) (v := 10) C dX7_number_87 rfl (by decide) ?_ 
          refine pv_iload_n (q := 90) C dX7_number_89 rfl rfl rfl ?_ 
          refine pv_imulN (q := 91) (a := 10) (b := d) C rfl rfl dX7_number_90 rfl ?_ 
          refine pv_iload (q := 93) C dX7_number_91 rfl rfl ?_ 
          refine pv_iaddN (q := 94) (a := (10 * d)) (b := d2) C rfl rfl dX7_number_93 rfl ?_ 
          refine pv_iload_n (q := 95) C dX7_number_94 rfl rfl rfl ?_ 
          refine pv_icmp_gtN (q := 98) (tgt := 102) (a := ((10 * d) + d2)) (b := hi) C rfl rfl (by omega) (by omega) dX7_number_95 (by decide) rfl (fun c_95 => ?_) (fun c_95 => ?_) 
          · refine pv_iconst (q := 103) (v := 0) C dX7_number_102 rfl (by decide) ?_
            refine pv_istore (q := 105) C dX7_number_103 rfl (Nat.le_of_ble_eq_true rfl) rfl ?_ 
            refine pv_iload (q := 107) C dX7_number_105 rfl rfl ?_ 
            refine pv_if_eq (q := 110) (tgt := 120) C dX7_number_107 (by decide) rfl (fun _ => ?_) (fun h => absurd h (by decide)) 
            refine pv_iload_n (q := 121) C dX7_number_120 rfl rfl rfl ?_ 
            refine pv_istore_n (q := 122) C dX7_number_121 rfl rfl (Nat.le_of_ble_eq_true rfl) rfl ?_ 
            refine pv_aload_n (q := 123) C dX7_number_122 rfl rfl rfl ?_ 
            refine pv_dup (q := 124) C dX7_number_123 rfl rfl ?_ 
            refine pg_7_10 (q := 127) C k6 tw_1005 dX7_number_124 rfl ?_ 
            rw [show D39 6 10 = nI (a + 1) by rw [hR39]; exact pd_a _ _ _]
            refine pv_iload (q := 129) C dX7_number_127 rfl rfl ?_ 
            refine pv_if_eq (q := 132) (tgt := 136) C dX7_number_129 (by decide) rfl (fun _ => ?_) (fun h => absurd h (by decide)) 
            refine pv_iconst (q := 137) (v := 0) C dX7_number_136 rfl (by decide) ?_ 
            refine pv_iaddN (q := 138) (a := (a + 1)) (b := 0) C rfl rfl dX7_number_137 rfl ?_ 
            refine pp_7_10 (q := 141) C k6 tw_1005 dX7_number_138 rfl (fun D138 hD138 => ?_) 
            refine pv_goto (tgt := 60) C dX7_number_141 (by decide) ?_ 
            refine pv_iload (q := 62) C dX7_number_60 rfl rfl ?_ 
            refine pv_if_eq (q := 65) (tgt := 144) C dX7_number_62 (by decide) rfl (fun _ => ?_) (fun h => absurd h (by decide)) 
            refine pv_aload_n (q := 145) C dX7_number_144 rfl rfl rfl ?_ 
            refine pg_7_11 (q := 148) C k6 tw_1006 dX7_number_145 rfl ?_ 
            rw [show D138 6 11 = 1 by rw [hD138, hR39, pd_10]; exact pd_g _ _ _]
            refine pv_if_eq (q := 151) (tgt := 155) C dX7_number_148 (by decide) rfl (fun h => absurd h (by decide)) (fun _ => ?_) 
            refine pv_iload_n (q := 152) C dX7_number_151 rfl rfl rfl ?_ 
            refine pv_goto (tgt := 156) C dX7_number_152 (by decide) ?_ 
            exact pv_iret C (⟨Or.inl ⟨d, a + 1, by unfold pN; rw [ed, if_pos ⟨by rw [← ed]; exact hy23, nI_le (by omega) (by omega)⟩, if_neg (fun z => absurd z.2.2 (by rw [ed2, ix_n (by omega), ix_n (by omega)]; omega)), ix_n (by omega)], dg_lt ed (by omega), by omega, rfl, by rw [hD138, hR39, pd_10]⟩, rfl⟩) (by decide) (by decide) dX7_number_156
          · refine pv_iconst (q := 99) (v := 1) C dX7_number_98 rfl (by decide) ?_
            refine pv_goto (tgt := 103) C dX7_number_99 (by decide) ?_ 
            refine pv_istore (q := 105) C dX7_number_103 rfl (Nat.le_of_ble_eq_true rfl) rfl ?_ 
            refine pv_iload (q := 107) C dX7_number_105 rfl rfl ?_ 
            refine pv_if_eq (q := 110) (tgt := 120) C dX7_number_107 (by decide) rfl (fun h => absurd h (by decide)) (fun _ => ?_) 
            refine pv_bipush (q := 112) (v := 10) C dX7_number_110 rfl (by decide) ?_ 
            refine pv_iload_n (q := 113) C dX7_number_112 rfl rfl rfl ?_ 
            refine pv_imulN (q := 114) (a := 10) (b := d) C rfl rfl dX7_number_113 rfl ?_ 
            refine pv_iload (q := 116) C dX7_number_114 rfl rfl ?_ 
            refine pv_iaddN (q := 117) (a := (10 * d)) (b := d2) C rfl rfl dX7_number_116 rfl ?_ 
            refine pv_goto (tgt := 121) C dX7_number_117 (by decide) ?_ 
            refine pv_istore_n (q := 122) C dX7_number_121 rfl rfl (Nat.le_of_ble_eq_true rfl) rfl ?_ 
            refine pv_aload_n (q := 123) C dX7_number_122 rfl rfl rfl ?_ 
            refine pv_dup (q := 124) C dX7_number_123 rfl rfl ?_ 
            refine pg_7_10 (q := 127) C k6 tw_1005 dX7_number_124 rfl ?_ 
            rw [show D39 6 10 = nI (a + 1) by rw [hR39]; exact pd_a _ _ _]
            refine pv_iload (q := 129) C dX7_number_127 rfl rfl ?_ 
            refine pv_if_eq (q := 132) (tgt := 136) C dX7_number_129 (by decide) rfl (fun h => absurd h (by decide)) (fun _ => ?_) 
            refine pv_iconst (q := 133) (v := 1) C dX7_number_132 rfl (by decide) ?_ 
            refine pv_goto (tgt := 137) C dX7_number_133 (by decide) ?_ 
            refine pv_iaddN (q := 138) (a := (a + 1)) (b := 1) C rfl rfl dX7_number_137 rfl ?_ 
            refine pp_7_10 (q := 141) C k6 tw_1005 dX7_number_138 rfl (fun D138 hD138 => ?_) 
            have hE1 : D138 = pd D (a + 1 + 1) 1 := by rw [hD138, hR39, pd_10]
            refine pv_goto (tgt := 60) C dX7_number_141 (by decide) ?_ 
            refine pv_iload (q := 62) C dX7_number_60 rfl rfl ?_ 
            refine pv_if_eq (q := 65) (tgt := 144) C dX7_number_62 (by decide) rfl (fun h => absurd h (by decide)) (fun _ => ?_) 
            have e138 : D138 12 = D 12 := by rw [hE1]; exact pd_o _ _ _ (by decide)
            refine pv_aload_n (q := 66) C dX7_number_65 rfl rfl rfl ?_ 
            refine pv_callVi (q := 69) C hKl (c_X7_here l X D138 P n (a + 1 + 1) (by rw [hE1]; exact txt_pd ht (dg_lt ed2 (by omega)) 1)) tw_1215 k6 (by decide) rfl mm_X7_here ⟨rfl, rfl⟩ (by rw [hKR]; exact ⟨Nat.le_of_ble_eq_true rfl, Nat.le_of_ble_eq_true rfl⟩) (by rw [hKR]; exact ⟨Nat.le_of_ble_eq_true rfl, Nat.le_of_ble_eq_true rfl⟩) rfl rfl rfl (Nat.le_of_ble_eq_true rfl) dX7_number_66 rfl (fun r66 D66 P66 hp66 => ?_) 
            obtain ⟨rfl, rfl, rfl⟩ := hp66
            refine pv_bipush (q := 71) (v := 48) C dX7_number_69 rfl (by decide) ?_ 
            refine pv_isub (q := 72) C dX7_number_71 rfl ?_ 
            refine pv_istore (q := 74) C dX7_number_72 rfl (Nat.le_of_ble_eq_true rfl) rfl ?_ 
            refine pv_iload (q := 76) C dX7_number_74 rfl rfl ?_ 
            refine pv_i2l (q := 77) C dX7_number_76 rfl ?_ 
            refine pv_lconst (q := 78) (v := 0) C dX7_number_77 rfl (by decide) ?_ 
            refine pv_ldc2 (q := 81) C dX7_number_78 rfl tw_1231 ?_ 
            refine pv_callSi (q := 84) C hKl (c_X7_in l X D138 P _ _ _) tw_1053 mm_X7_in ⟨rfl, rfl⟩ (by rw [hKR]; exact ⟨Nat.le_of_ble_eq_true rfl, Nat.le_of_ble_eq_true rfl⟩) (by rw [hKR]; exact ⟨Nat.le_of_ble_eq_true rfl, Nat.le_of_ble_eq_true rfl⟩) rfl rfl rfl (Nat.le_of_ble_eq_true rfl) dX7_number_81 rfl (fun r81 D81 P81 hp81 => ?_) 
            rcases hp81 with ⟨⟨hz81, rfl⟩ | ⟨hm81, rfl⟩, rfl, rfl⟩
            · have hy81 : rg (dg (D 12) n (a + 1 + 1)) 0 9 := by rw [e138] at hz81; exact (rg_l (by decide) (by decide)).mpr hz81
              refine pv_if_eq (q := 87) (tgt := 102) C dX7_number_84 (by decide) rfl (fun h => absurd h (by decide)) (fun _ => ?_) 
              obtain ⟨d3, hd3, ed3⟩ := rg_N 9 hy81 rfl
              rw [show hr (D138 12) n (a + 1 + 1) - 48 = nI d3 by rw [e138]; exact ed3]
              refine pv_bipush (q := 89) (v := 10) C dX7_number_87 rfl (by decide) ?_ 
              refine pv_iload_n (q := 90) C dX7_number_89 rfl rfl rfl ?_ 
              refine pv_imulN (q := 91) (a := 10) (b := ((10 * d) + d2)) C rfl rfl dX7_number_90 rfl ?_ 
              refine pv_iload (q := 93) C dX7_number_91 rfl rfl ?_ 
              refine pv_iaddN (q := 94) (a := (10 * ((10 * d) + d2))) (b := d3) C rfl rfl dX7_number_93 rfl ?_ 
              refine pv_iload_n (q := 95) C dX7_number_94 rfl rfl rfl ?_ 
              refine pv_icmp_gtN (q := 98) (tgt := 102) (a := ((10 * ((10 * d) + d2)) + d3)) (b := hi) C rfl rfl (by omega) (by omega) dX7_number_95 (by decide) rfl (fun c_95 => ?_) (fun c_95 => absurd c_95 (by omega)) 
              refine pv_iconst (q := 103) (v := 0) C dX7_number_102 rfl (by decide) ?_ 
              refine pv_istore (q := 105) C dX7_number_103 rfl (Nat.le_of_ble_eq_true rfl) rfl ?_ 
              refine pv_iload (q := 107) C dX7_number_105 rfl rfl ?_ 
              refine pv_if_eq (q := 110) (tgt := 120) C dX7_number_107 (by decide) rfl (fun _ => ?_) (fun h => absurd h (by decide)) 
              refine pv_iload_n (q := 121) C dX7_number_120 rfl rfl rfl ?_ 
              refine pv_istore_n (q := 122) C dX7_number_121 rfl rfl (Nat.le_of_ble_eq_true rfl) rfl ?_ 
              refine pv_aload_n (q := 123) C dX7_number_122 rfl rfl rfl ?_ 
              refine pv_dup (q := 124) C dX7_number_123 rfl rfl ?_ 
              refine pg_7_10 (q := 127) C k6 tw_1005 dX7_number_124 rfl ?_ 
              rw [show D138 6 10 = nI (a + 1 + 1) by rw [hE1]; exact pd_a _ _ _]
              refine pv_iload (q := 129) C dX7_number_127 rfl rfl ?_ 
              refine pv_if_eq (q := 132) (tgt := 136) C dX7_number_129 (by decide) rfl (fun _ => ?_) (fun h => absurd h (by decide)) 
              refine pv_iconst (q := 137) (v := 0) C dX7_number_136 rfl (by decide) ?_ 
              refine pv_iaddN (q := 138) (a := (a + 1 + 1)) (b := 0) C rfl rfl dX7_number_137 rfl ?_ 
              refine pp_7_10 (q := 141) C k6 tw_1005 dX7_number_138 rfl (fun D138 hD138 => ?_) 
              refine pv_goto (tgt := 60) C dX7_number_141 (by decide) ?_ 
              refine pv_iload (q := 62) C dX7_number_60 rfl rfl ?_ 
              refine pv_if_eq (q := 65) (tgt := 144) C dX7_number_62 (by decide) rfl (fun _ => ?_) (fun h => absurd h (by decide)) 
              refine pv_aload_n (q := 145) C dX7_number_144 rfl rfl rfl ?_ 
              refine pg_7_11 (q := 148) C k6 tw_1006 dX7_number_145 rfl ?_ 
              rw [show D138 6 11 = 1 by rw [hD138, hE1, pd_10]; exact pd_g _ _ _]
              refine pv_if_eq (q := 151) (tgt := 155) C dX7_number_148 (by decide) rfl (fun h => absurd h (by decide)) (fun _ => ?_) 
              refine pv_iload_n (q := 152) C dX7_number_151 rfl rfl rfl ?_ 
              refine pv_goto (tgt := 156) C dX7_number_152 (by decide) ?_ 
              exact pv_iret C (⟨Or.inl ⟨10 * d + d2, a + 1 + 1, by unfold pN; rw [ed, if_pos ⟨by rw [← ed]; exact hy23, nI_le (by omega) (by omega)⟩, if_pos ⟨nI_ne0 (by omega) (by omega), hy2, by rw [ed2, ix_n (by omega), ix_n (by omega)]; omega⟩, ed2, ix_n (by omega), ix_n (by omega)], dg_lt ed2 (by omega), by omega, rfl, by rw [hD138, hE1, pd_10]⟩, rfl⟩) (by decide) (by decide) dX7_number_156
            · refine pv_if_eq (q := 87) (tgt := 102) C dX7_number_84 (by decide) rfl (fun _ => ?_) (fun h => absurd h (by decide))
              refine pv_iconst (q := 103) (v := 0) C dX7_number_102 rfl (by decide) ?_ 
              refine pv_istore (q := 105) C dX7_number_103 rfl (Nat.le_of_ble_eq_true rfl) rfl ?_ 
              refine pv_iload (q := 107) C dX7_number_105 rfl rfl ?_ 
              refine pv_if_eq (q := 110) (tgt := 120) C dX7_number_107 (by decide) rfl (fun _ => ?_) (fun h => absurd h (by decide)) 
              refine pv_iload_n (q := 121) C dX7_number_120 rfl rfl rfl ?_ 
              refine pv_istore_n (q := 122) C dX7_number_121 rfl rfl (Nat.le_of_ble_eq_true rfl) rfl ?_ 
              refine pv_aload_n (q := 123) C dX7_number_122 rfl rfl rfl ?_ 
              refine pv_dup (q := 124) C dX7_number_123 rfl rfl ?_ 
              refine pg_7_10 (q := 127) C k6 tw_1005 dX7_number_124 rfl ?_ 
              rw [show D138 6 10 = nI (a + 1 + 1) by rw [hE1]; exact pd_a _ _ _]
              refine pv_iload (q := 129) C dX7_number_127 rfl rfl ?_ 
              refine pv_if_eq (q := 132) (tgt := 136) C dX7_number_129 (by decide) rfl (fun _ => ?_) (fun h => absurd h (by decide)) 
              refine pv_iconst (q := 137) (v := 0) C dX7_number_136 rfl (by decide) ?_ 
              refine pv_iaddN (q := 138) (a := (a + 1 + 1)) (b := 0) C rfl rfl dX7_number_137 rfl ?_ 
              refine pp_7_10 (q := 141) C k6 tw_1005 dX7_number_138 rfl (fun D138 hD138 => ?_) 
              refine pv_goto (tgt := 60) C dX7_number_141 (by decide) ?_ 
              refine pv_iload (q := 62) C dX7_number_60 rfl rfl ?_ 
              refine pv_if_eq (q := 65) (tgt := 144) C dX7_number_62 (by decide) rfl (fun _ => ?_) (fun h => absurd h (by decide)) 
              refine pv_aload_n (q := 145) C dX7_number_144 rfl rfl rfl ?_ 
              refine pg_7_11 (q := 148) C k6 tw_1006 dX7_number_145 rfl ?_ 
              rw [show D138 6 11 = 1 by rw [hD138, hE1, pd_10]; exact pd_g _ _ _]
              refine pv_if_eq (q := 151) (tgt := 155) C dX7_number_148 (by decide) rfl (fun h => absurd h (by decide)) (fun _ => ?_) 
              refine pv_iload_n (q := 152) C dX7_number_151 rfl rfl rfl ?_ 
              refine pv_goto (tgt := 156) C dX7_number_152 (by decide) ?_ 
              exact pv_iret C (⟨Or.inl ⟨10 * d + d2, a + 1 + 1, by unfold pN; rw [ed, if_pos ⟨by rw [← ed]; exact hy23, nI_le (by omega) (by omega)⟩, if_pos ⟨nI_ne0 (by omega) (by omega), hy2, by rw [ed2, ix_n (by omega), ix_n (by omega)]; omega⟩, ed2, ix_n (by omega), ix_n (by omega)], dg_lt ed2 (by omega), by omega, rfl, by rw [hD138, hE1, pd_10]⟩, rfl⟩) (by decide) (by decide) dX7_number_156
        · have hn81 : ¬ rg (dg (D 12) n (a + 1)) 0 9 := fun q => hm81 (by rw [e39]; exact (rg_l (by decide) (by decide)).mp q)
          refine pv_if_eq (q := 87) (tgt := 102) C dX7_number_84 (by decide) rfl (fun _ => ?_) (fun h => absurd h (by decide)) 
          refine pv_iconst (q := 103) (v := 0) C dX7_number_102 rfl (by decide) ?_ 
          refine pv_istore (q := 105) C dX7_number_103 rfl (Nat.le_of_ble_eq_true rfl) rfl ?_ 
          refine pv_iload (q := 107) C dX7_number_105 rfl rfl ?_ 
          refine pv_if_eq (q := 110) (tgt := 120) C dX7_number_107 (by decide) rfl (fun _ => ?_) (fun h => absurd h (by decide)) 
          refine pv_iload_n (q := 121) C dX7_number_120 rfl rfl rfl ?_ 
          refine pv_istore_n (q := 122) C dX7_number_121 rfl rfl (Nat.le_of_ble_eq_true rfl) rfl ?_ 
          refine pv_aload_n (q := 123) C dX7_number_122 rfl rfl rfl ?_ 
          refine pv_dup (q := 124) C dX7_number_123 rfl rfl ?_ 
          refine pg_7_10 (q := 127) C k6 tw_1005 dX7_number_124 rfl ?_ 
          rw [show D39 6 10 = nI (a + 1) by rw [hR39]; exact pd_a _ _ _]
          refine pv_iload (q := 129) C dX7_number_127 rfl rfl ?_ 
          refine pv_if_eq (q := 132) (tgt := 136) C dX7_number_129 (by decide) rfl (fun _ => ?_) (fun h => absurd h (by decide)) 
          refine pv_iconst (q := 137) (v := 0) C dX7_number_136 rfl (by decide) ?_ 
          refine pv_iaddN (q := 138) (a := (a + 1)) (b := 0) C rfl rfl dX7_number_137 rfl ?_ 
          refine pp_7_10 (q := 141) C k6 tw_1005 dX7_number_138 rfl (fun D138 hD138 => ?_) 
          refine pv_goto (tgt := 60) C dX7_number_141 (by decide) ?_ 
          refine pv_iload (q := 62) C dX7_number_60 rfl rfl ?_ 
          refine pv_if_eq (q := 65) (tgt := 144) C dX7_number_62 (by decide) rfl (fun _ => ?_) (fun h => absurd h (by decide)) 
          refine pv_aload_n (q := 145) C dX7_number_144 rfl rfl rfl ?_ 
          refine pg_7_11 (q := 148) C k6 tw_1006 dX7_number_145 rfl ?_ 
          rw [show D138 6 11 = 1 by rw [hD138, hR39, pd_10]; exact pd_g _ _ _]
          refine pv_if_eq (q := 151) (tgt := 155) C dX7_number_148 (by decide) rfl (fun h => absurd h (by decide)) (fun _ => ?_) 
          refine pv_iload_n (q := 152) C dX7_number_151 rfl rfl rfl ?_ 
          refine pv_goto (tgt := 156) C dX7_number_152 (by decide) ?_ 
          exact pv_iret C (⟨Or.inl ⟨d, a + 1, by unfold pN; rw [ed, if_pos ⟨by rw [← ed]; exact hy23, nI_le (by omega) (by omega)⟩, if_neg (fun z => hn81 z.2.1), ix_n (by omega)], dg_lt ed (by omega), by omega, rfl, by rw [hD138, hR39, pd_10]⟩, rfl⟩) (by decide) (by decide) dX7_number_156
  · have hn23 : ¬ rg (dg (D 12) n a) (nI 0) 9 := fun q => hm23 ((rg_l (by decide) (by decide)).mp q)
    refine pv_if_eq (q := 29) (tgt := 38) C dX7_number_26 (by decide) rfl (fun _ => ?_) (fun h => absurd h (by decide)) 
    refine pv_iconst (q := 39) (v := 0) C dX7_number_38 rfl (by decide) ?_ 
    refine pv_callVv (q := 42) C hKl (c_X7_take0 l X D P a (t3)) tw_1219 k6 (by decide) rfl mm_X7_take ⟨rfl, rfl⟩ (by rw [hKR]; exact ⟨Nat.le_of_ble_eq_true rfl, Nat.le_of_ble_eq_true rfl⟩) (by rw [hKR]; exact ⟨Nat.le_of_ble_eq_true rfl, Nat.le_of_ble_eq_true rfl⟩) rfl rfl rfl (Nat.le_of_ble_eq_true rfl) dX7_number_39 rfl (fun D39 P39 hp39 => ?_) 
    obtain ⟨hR39, rfl⟩ := hp39
    refine pv_aload_n (q := 43) C dX7_number_42 rfl rfl rfl ?_ 
    refine pg_7_11 (q := 46) C k6 tw_1006 dX7_number_43 rfl ?_ 
    rw [show D39 6 11 = 0 by rw [hR39]; exact pd_g _ _ _]
    refine pv_if_eq (q := 49) (tgt := 57) C dX7_number_46 (by decide) rfl (fun _ => ?_) (fun h => absurd h (by decide)) 
    refine pv_iconst (q := 58) (v := 0) C dX7_number_57 rfl (by decide) ?_ 
    refine pv_istore (q := 60) C dX7_number_58 rfl (Nat.le_of_ble_eq_true rfl) rfl ?_ 
    refine pv_iload (q := 62) C dX7_number_60 rfl rfl ?_ 
    refine pv_if_eq (q := 65) (tgt := 144) C dX7_number_62 (by decide) rfl (fun _ => ?_) (fun h => absurd h (by decide)) 
    refine pv_aload_n (q := 145) C dX7_number_144 rfl rfl rfl ?_ 
    refine pg_7_11 (q := 148) C k6 tw_1006 dX7_number_145 rfl ?_ 
    rw [show D39 6 11 = 0 by rw [hR39]; exact pd_g _ _ _]
    refine pv_if_eq (q := 151) (tgt := 155) C dX7_number_148 (by decide) rfl (fun _ => ?_) (fun h => absurd h (by decide)) 
    refine pv_iload_n (q := 156) C dX7_number_155 rfl rfl rfl ?_ 
    exact pv_iret C (⟨Or.inr ⟨by unfold pN; rw [if_neg (fun z => hn23 z.1)], rfl, by rw [hR39]⟩, rfl⟩) (by decide) (by decide) dX7_number_156
set_option maxRecDepth 100000 in
set_option maxHeartbeats 4000000 in
theorem c_X7_number1 (l : Launch) (X : XT) (D : DT) (P : PT) (n a : Nat) (ht : txt D n a) (hi : Nat) (hhi : hi ≤ 99) (hg : D 6 11 = 1) : CG l X yX7_number (.code yX7_number cX7_number 6 (some .int) :: AW) ({ frames := 1, cells := 0, slots := 0, locals := 36 } : Room) [.ref (X.2.2 6), .int 1, .int (nI hi)] (qI X (fun r D' P' => ((∃ v b, pN (D 12) n a 1 hi = some (v, b) ∧ b ≤ n ∧ v ≤ hi ∧ r = nI v ∧ D' = pd D b 1) ∨ (pN (D 12) n a 1 hi = none ∧ r = nI 1 ∧ D' = pd D a 0)) ∧ P = P')) D P 0 0 := by
  refine cg_of (by decide +kernel) (Nat.le_of_ble_eq_true rfl) ?_
  intro K hKl hKR C
  refine PV_lv (lv' := [some (.ref (X.2.2 6)), some (.int 1), some (.int (nI hi)), none, none, none]) rfl ?_
  obtain ⟨t1, t2, t3, t4⟩ := id ht
  refine pv_aload_n (q := 1) C dX7_number_0 rfl rfl rfl ?_ 
  refine pv_callVi (q := 4) C hKl (c_X7_here l X D P n a (ht)) tw_1215 k6 (by decide) rfl mm_X7_here ⟨rfl, rfl⟩ (by rw [hKR]; exact ⟨Nat.le_of_ble_eq_true rfl, Nat.le_of_ble_eq_true rfl⟩) (by rw [hKR]; exact ⟨Nat.le_of_ble_eq_true rfl, Nat.le_of_ble_eq_true rfl⟩) rfl rfl rfl (Nat.le_of_ble_eq_true rfl) dX7_number_1 rfl (fun r1 D1 P1 hp1 => ?_) 
  obtain ⟨rfl, rfl, rfl⟩ := hp1
  refine pv_bipush (q := 6) (v := 48) C dX7_number_4 rfl (by decide) ?_ 
  refine pv_isub (q := 7) C dX7_number_6 rfl ?_ 
  refine pv_istore_n (q := 8) C dX7_number_7 rfl rfl (Nat.le_of_ble_eq_true rfl) rfl ?_ 
  refine pv_aload_n (q := 9) C dX7_number_8 rfl rfl rfl ?_ 
  refine pv_iload_n (q := 10) C dX7_number_9 rfl rfl rfl ?_ 
  refine pv_i2l (q := 11) C dX7_number_10 rfl ?_ 
  refine pv_iload_n (q := 12) C dX7_number_11 rfl rfl rfl ?_ 
  refine pv_if_le (q := 15) (tgt := 19) C dX7_number_12 (by decide) rfl (fun h => absurd h (by decide)) (fun _ => ?_) 
  refine pv_lconst (q := 16) (v := 1) C dX7_number_15 rfl (by decide) ?_ 
  refine pv_goto (tgt := 20) C dX7_number_16 (by decide) ?_ 
  refine pv_ldc2 (q := 23) C dX7_number_20 rfl tw_1231 ?_ 
  refine pv_callSi (q := 26) C hKl (c_X7_in l X D P _ _ _) tw_1053 mm_X7_in ⟨rfl, rfl⟩ (by rw [hKR]; exact ⟨Nat.le_of_ble_eq_true rfl, Nat.le_of_ble_eq_true rfl⟩) (by rw [hKR]; exact ⟨Nat.le_of_ble_eq_true rfl, Nat.le_of_ble_eq_true rfl⟩) rfl rfl rfl (Nat.le_of_ble_eq_true rfl) dX7_number_23 rfl (fun r23 D23 P23 hp23 => ?_) 
  rcases hp23 with ⟨⟨hz23, rfl⟩ | ⟨hm23, rfl⟩, rfl, rfl⟩
  · have hy23 : rg (dg (D 12) n a) (nI 1) 9 := (rg_l (by decide) (by decide)).mpr hz23
    refine pv_if_eq (q := 29) (tgt := 38) C dX7_number_26 (by decide) rfl (fun h => absurd h (by decide)) (fun _ => ?_) 
    obtain ⟨d, hd, ed⟩ := rg_N 9 (x := dg (D 12) n a) ⟨by have := hy23.1; exact Int32.le_trans (by decide) this, hy23.2⟩ rfl
    rw [show hr (D 12) n a - 48 = nI d from ed]
    have hd1 : 1 ≤ d := (nI_leI (a := 1) (by decide) (by omega)).mp (by rw [← ed]; exact hy23.1)
    refine pv_iload_n (q := 30) C dX7_number_29 rfl rfl rfl ?_ 
    refine pv_iload_n (q := 31) C dX7_number_30 rfl rfl rfl ?_ 
    refine pv_icmp_gtN (q := 34) (tgt := 38) (a := d) (b := hi) C rfl rfl (by omega) (by omega) dX7_number_31 (by decide) rfl (fun c_31 => ?_) (fun c_31 => ?_) 
    · refine pv_iconst (q := 39) (v := 0) C dX7_number_38 rfl (by decide) ?_
      refine pv_callVv (q := 42) C hKl (c_X7_take0 l X D P a (t3)) tw_1219 k6 (by decide) rfl mm_X7_take ⟨rfl, rfl⟩ (by rw [hKR]; exact ⟨Nat.le_of_ble_eq_true rfl, Nat.le_of_ble_eq_true rfl⟩) (by rw [hKR]; exact ⟨Nat.le_of_ble_eq_true rfl, Nat.le_of_ble_eq_true rfl⟩) rfl rfl rfl (Nat.le_of_ble_eq_true rfl) dX7_number_39 rfl (fun D39 P39 hp39 => ?_) 
      obtain ⟨hR39, rfl⟩ := hp39
      refine pv_aload_n (q := 43) C dX7_number_42 rfl rfl rfl ?_ 
      refine pg_7_11 (q := 46) C k6 tw_1006 dX7_number_43 rfl ?_ 
      rw [show D39 6 11 = 0 by rw [hR39]; exact pd_g _ _ _]
      refine pv_if_eq (q := 49) (tgt := 57) C dX7_number_46 (by decide) rfl (fun _ => ?_) (fun h => absurd h (by decide)) 
      refine pv_iconst (q := 58) (v := 0) C dX7_number_57 rfl (by decide) ?_ 
      refine pv_istore (q := 60) C dX7_number_58 rfl (Nat.le_of_ble_eq_true rfl) rfl ?_ 
      refine pv_iload (q := 62) C dX7_number_60 rfl rfl ?_ 
      refine pv_if_eq (q := 65) (tgt := 144) C dX7_number_62 (by decide) rfl (fun _ => ?_) (fun h => absurd h (by decide)) 
      refine pv_aload_n (q := 145) C dX7_number_144 rfl rfl rfl ?_ 
      refine pg_7_11 (q := 148) C k6 tw_1006 dX7_number_145 rfl ?_ 
      rw [show D39 6 11 = 0 by rw [hR39]; exact pd_g _ _ _]
      refine pv_if_eq (q := 151) (tgt := 155) C dX7_number_148 (by decide) rfl (fun _ => ?_) (fun h => absurd h (by decide)) 
      refine pv_iload_n (q := 156) C dX7_number_155 rfl rfl rfl ?_ 
      exact pv_iret C (⟨Or.inr ⟨by unfold pN; rw [if_neg (fun z => absurd ((nI_leI (a := d) (b := hi) (by omega) (by omega)).mp (by rw [← ed]; exact z.2)) (by omega))], rfl, by rw [hR39]⟩, rfl⟩) (by decide) (by decide) dX7_number_156
    · refine pv_iconst (q := 35) (v := 1) C dX7_number_34 rfl (by decide) ?_
      refine pv_goto (tgt := 39) C dX7_number_35 (by decide) ?_ 
      refine pv_callVv (q := 42) C hKl (c_X7_take1 l X D P a (t3) (hg)) tw_1219 k6 (by decide) rfl mm_X7_take ⟨rfl, rfl⟩ (by rw [hKR]; exact ⟨Nat.le_of_ble_eq_true rfl, Nat.le_of_ble_eq_true rfl⟩) (by rw [hKR]; exact ⟨Nat.le_of_ble_eq_true rfl, Nat.le_of_ble_eq_true rfl⟩) rfl rfl rfl (Nat.le_of_ble_eq_true rfl) dX7_number_39 rfl (fun D39 P39 hp39 => ?_) 
      obtain ⟨hR39, rfl⟩ := hp39
      refine pv_aload_n (q := 43) C dX7_number_42 rfl rfl rfl ?_ 
      refine pg_7_11 (q := 46) C k6 tw_1006 dX7_number_43 rfl ?_ 
      rw [show D39 6 11 = 1 by rw [hR39]; exact pd_g _ _ _]
      refine pv_if_eq (q := 49) (tgt := 57) C dX7_number_46 (by decide) rfl (fun h => absurd h (by decide)) (fun _ => ?_) 
      refine pv_iload_n (q := 50) C dX7_number_49 rfl rfl rfl ?_ 
      refine pv_if_leN (q := 53) (tgt := 57) (a := d) (b := 0) C rfl rfl (by omega) (by omega) dX7_number_50 (by decide) rfl (fun c_50 => absurd c_50 (by omega)) (fun c_50 => ?_) 
      refine pv_iconst (q := 54) (v := 1) C dX7_number_53 rfl (by decide) ?_ 
      refine pv_goto (tgt := 58) C dX7_number_54 (by decide) ?_ 
      refine pv_istore (q := 60) C dX7_number_58 rfl (Nat.le_of_ble_eq_true rfl) rfl ?_ 
      refine pv_iload (q := 62) C dX7_number_60 rfl rfl ?_ 
      refine pv_if_eq (q := 65) (tgt := 144) C dX7_number_62 (by decide) rfl (fun h => absurd h (by decide)) (fun _ => ?_) 
      have e39 : D39 12 = D 12 := by rw [hR39]; exact pd_o _ _ _ (by decide)
      refine pv_aload_n (q := 66) C dX7_number_65 rfl rfl rfl ?_ 
      refine pv_callVi (q := 69) C hKl (c_X7_here l X D39 P n (a + 1) (by rw [hR39]; exact txt_pd ht (dg_lt ed (by omega)) 1)) tw_1215 k6 (by decide) rfl mm_X7_here ⟨rfl, rfl⟩ (by rw [hKR]; exact ⟨Nat.le_of_ble_eq_true rfl, Nat.le_of_ble_eq_true rfl⟩) (by rw [hKR]; exact ⟨Nat.le_of_ble_eq_true rfl, Nat.le_of_ble_eq_true rfl⟩) rfl rfl rfl (Nat.le_of_ble_eq_true rfl) dX7_number_66 rfl (fun r66 D66 P66 hp66 => ?_) 
      obtain ⟨rfl, rfl, rfl⟩ := hp66
      refine pv_bipush (q := 71) (v := 48) C dX7_number_69 rfl (by decide) ?_ 
      refine pv_isub (q := 72) C dX7_number_71 rfl ?_ 
      refine pv_istore (q := 74) C dX7_number_72 rfl (Nat.le_of_ble_eq_true rfl) rfl ?_ 
      refine pv_iload (q := 76) C dX7_number_74 rfl rfl ?_ 
      refine pv_i2l (q := 77) C dX7_number_76 rfl ?_ 
      refine pv_lconst (q := 78) (v := 0) C dX7_number_77 rfl (by decide) ?_ 
      refine pv_ldc2 (q := 81) C dX7_number_78 rfl tw_1231 ?_ 
      refine pv_callSi (q := 84) C hKl (c_X7_in l X D39 P _ _ _) tw_1053 mm_X7_in ⟨rfl, rfl⟩ (by rw [hKR]; exact ⟨Nat.le_of_ble_eq_true rfl, Nat.le_of_ble_eq_true rfl⟩) (by rw [hKR]; exact ⟨Nat.le_of_ble_eq_true rfl, Nat.le_of_ble_eq_true rfl⟩) rfl rfl rfl (Nat.le_of_ble_eq_true rfl) dX7_number_81 rfl (fun r81 D81 P81 hp81 => ?_) 
      rcases hp81 with ⟨⟨hz81, rfl⟩ | ⟨hm81, rfl⟩, rfl, rfl⟩
      · have hy81 : rg (dg (D 12) n (a + 1)) 0 9 := by rw [e39] at hz81; exact (rg_l (by decide) (by decide)).mpr hz81
        have hy2 := hy81
        refine pv_if_eq (q := 87) (tgt := 102) C dX7_number_84 (by decide) rfl (fun h => absurd h (by decide)) (fun _ => ?_) 
        obtain ⟨d2, hd2, ed2⟩ := rg_N 9 hy81 rfl
        rw [show hr (D39 12) n (a + 1) - 48 = nI d2 by rw [e39]; exact ed2]
        refine pv_bipush (q := 89) (v := 10) C dX7_number_87 rfl (by decide) ?_ 
        refine pv_iload_n (q := 90) C dX7_number_89 rfl rfl rfl ?_ 
        refine pv_imulN (q := 91) (a := 10) (b := d) C rfl rfl dX7_number_90 rfl ?_ 
        refine pv_iload (q := 93) C dX7_number_91 rfl rfl ?_ 
        refine pv_iaddN (q := 94) (a := (10 * d)) (b := d2) C rfl rfl dX7_number_93 rfl ?_ 
        refine pv_iload_n (q := 95) C dX7_number_94 rfl rfl rfl ?_ 
        refine pv_icmp_gtN (q := 98) (tgt := 102) (a := ((10 * d) + d2)) (b := hi) C rfl rfl (by omega) (by omega) dX7_number_95 (by decide) rfl (fun c_95 => ?_) (fun c_95 => ?_) 
        · refine pv_iconst (q := 103) (v := 0) C dX7_number_102 rfl (by decide) ?_
          refine pv_istore (q := 105) C dX7_number_103 rfl (Nat.le_of_ble_eq_true rfl) rfl ?_ 
          refine pv_iload (q := 107) C dX7_number_105 rfl rfl ?_ 
          refine pv_if_eq (q := 110) (tgt := 120) C dX7_number_107 (by decide) rfl (fun _ => ?_) (fun h => absurd h (by decide)) 
          refine pv_iload_n (q := 121) C dX7_number_120 rfl rfl rfl ?_ 
          refine pv_istore_n (q := 122) C dX7_number_121 rfl rfl (Nat.le_of_ble_eq_true rfl) rfl ?_ 
          refine pv_aload_n (q := 123) C dX7_number_122 rfl rfl rfl ?_ 
          refine pv_dup (q := 124) C dX7_number_123 rfl rfl ?_ 
          refine pg_7_10 (q := 127) C k6 tw_1005 dX7_number_124 rfl ?_ 
          rw [show D39 6 10 = nI (a + 1) by rw [hR39]; exact pd_a _ _ _]
          refine pv_iload (q := 129) C dX7_number_127 rfl rfl ?_ 
          refine pv_if_eq (q := 132) (tgt := 136) C dX7_number_129 (by decide) rfl (fun _ => ?_) (fun h => absurd h (by decide)) 
          refine pv_iconst (q := 137) (v := 0) C dX7_number_136 rfl (by decide) ?_ 
          refine pv_iaddN (q := 138) (a := (a + 1)) (b := 0) C rfl rfl dX7_number_137 rfl ?_ 
          refine pp_7_10 (q := 141) C k6 tw_1005 dX7_number_138 rfl (fun D138 hD138 => ?_) 
          refine pv_goto (tgt := 60) C dX7_number_141 (by decide) ?_ 
          refine pv_iload (q := 62) C dX7_number_60 rfl rfl ?_ 
          refine pv_if_eq (q := 65) (tgt := 144) C dX7_number_62 (by decide) rfl (fun _ => ?_) (fun h => absurd h (by decide)) 
          refine pv_aload_n (q := 145) C dX7_number_144 rfl rfl rfl ?_ 
          refine pg_7_11 (q := 148) C k6 tw_1006 dX7_number_145 rfl ?_ 
          rw [show D138 6 11 = 1 by rw [hD138, hR39, pd_10]; exact pd_g _ _ _]
          refine pv_if_eq (q := 151) (tgt := 155) C dX7_number_148 (by decide) rfl (fun h => absurd h (by decide)) (fun _ => ?_) 
          refine pv_iload_n (q := 152) C dX7_number_151 rfl rfl rfl ?_ 
          refine pv_goto (tgt := 156) C dX7_number_152 (by decide) ?_ 
          exact pv_iret C (⟨Or.inl ⟨d, a + 1, by unfold pN; rw [ed, if_pos ⟨by rw [← ed]; exact hy23, nI_le (by omega) (by omega)⟩, if_neg (fun z => absurd z.2.2 (by rw [ed2, ix_n (by omega), ix_n (by omega)]; omega)), ix_n (by omega)], dg_lt ed (by omega), by omega, rfl, by rw [hD138, hR39, pd_10]⟩, rfl⟩) (by decide) (by decide) dX7_number_156
        · refine pv_iconst (q := 99) (v := 1) C dX7_number_98 rfl (by decide) ?_
          refine pv_goto (tgt := 103) C dX7_number_99 (by decide) ?_ 
          refine pv_istore (q := 105) C dX7_number_103 rfl (Nat.le_of_ble_eq_true rfl) rfl ?_ 
          refine pv_iload (q := 107) C dX7_number_105 rfl rfl ?_ 
          refine pv_if_eq (q := 110) (tgt := 120) C dX7_number_107 (by decide) rfl (fun h => absurd h (by decide)) (fun _ => ?_) 
          refine pv_bipush (q := 112) (v := 10) C dX7_number_110 rfl (by decide) ?_ 
          refine pv_iload_n (q := 113) C dX7_number_112 rfl rfl rfl ?_ 
          refine pv_imulN (q := 114) (a := 10) (b := d) C rfl rfl dX7_number_113 rfl ?_ 
          refine pv_iload (q := 116) C dX7_number_114 rfl rfl ?_ 
          refine pv_iaddN (q := 117) (a := (10 * d)) (b := d2) C rfl rfl dX7_number_116 rfl ?_ 
          refine pv_goto (tgt := 121) C dX7_number_117 (by decide) ?_ 
          refine pv_istore_n (q := 122) C dX7_number_121 rfl rfl (Nat.le_of_ble_eq_true rfl) rfl ?_ 
          refine pv_aload_n (q := 123) C dX7_number_122 rfl rfl rfl ?_ 
          refine pv_dup (q := 124) C dX7_number_123 rfl rfl ?_ 
          refine pg_7_10 (q := 127) C k6 tw_1005 dX7_number_124 rfl ?_ 
          rw [show D39 6 10 = nI (a + 1) by rw [hR39]; exact pd_a _ _ _]
          refine pv_iload (q := 129) C dX7_number_127 rfl rfl ?_ 
          refine pv_if_eq (q := 132) (tgt := 136) C dX7_number_129 (by decide) rfl (fun h => absurd h (by decide)) (fun _ => ?_) 
          refine pv_iconst (q := 133) (v := 1) C dX7_number_132 rfl (by decide) ?_ 
          refine pv_goto (tgt := 137) C dX7_number_133 (by decide) ?_ 
          refine pv_iaddN (q := 138) (a := (a + 1)) (b := 1) C rfl rfl dX7_number_137 rfl ?_ 
          refine pp_7_10 (q := 141) C k6 tw_1005 dX7_number_138 rfl (fun D138 hD138 => ?_) 
          have hE1 : D138 = pd D (a + 1 + 1) 1 := by rw [hD138, hR39, pd_10]
          refine pv_goto (tgt := 60) C dX7_number_141 (by decide) ?_ 
          refine pv_iload (q := 62) C dX7_number_60 rfl rfl ?_ 
          refine pv_if_eq (q := 65) (tgt := 144) C dX7_number_62 (by decide) rfl (fun h => absurd h (by decide)) (fun _ => ?_) 
          have e138 : D138 12 = D 12 := by rw [hE1]; exact pd_o _ _ _ (by decide)
          refine pv_aload_n (q := 66) C dX7_number_65 rfl rfl rfl ?_ 
          refine pv_callVi (q := 69) C hKl (c_X7_here l X D138 P n (a + 1 + 1) (by rw [hE1]; exact txt_pd ht (dg_lt ed2 (by omega)) 1)) tw_1215 k6 (by decide) rfl mm_X7_here ⟨rfl, rfl⟩ (by rw [hKR]; exact ⟨Nat.le_of_ble_eq_true rfl, Nat.le_of_ble_eq_true rfl⟩) (by rw [hKR]; exact ⟨Nat.le_of_ble_eq_true rfl, Nat.le_of_ble_eq_true rfl⟩) rfl rfl rfl (Nat.le_of_ble_eq_true rfl) dX7_number_66 rfl (fun r66 D66 P66 hp66 => ?_) 
          obtain ⟨rfl, rfl, rfl⟩ := hp66
          refine pv_bipush (q := 71) (v := 48) C dX7_number_69 rfl (by decide) ?_ 
          refine pv_isub (q := 72) C dX7_number_71 rfl ?_ 
          refine pv_istore (q := 74) C dX7_number_72 rfl (Nat.le_of_ble_eq_true rfl) rfl ?_ 
          refine pv_iload (q := 76) C dX7_number_74 rfl rfl ?_ 
          refine pv_i2l (q := 77) C dX7_number_76 rfl ?_ 
          refine pv_lconst (q := 78) (v := 0) C dX7_number_77 rfl (by decide) ?_ 
          refine pv_ldc2 (q := 81) C dX7_number_78 rfl tw_1231 ?_ 
          refine pv_callSi (q := 84) C hKl (c_X7_in l X D138 P _ _ _) tw_1053 mm_X7_in ⟨rfl, rfl⟩ (by rw [hKR]; exact ⟨Nat.le_of_ble_eq_true rfl, Nat.le_of_ble_eq_true rfl⟩) (by rw [hKR]; exact ⟨Nat.le_of_ble_eq_true rfl, Nat.le_of_ble_eq_true rfl⟩) rfl rfl rfl (Nat.le_of_ble_eq_true rfl) dX7_number_81 rfl (fun r81 D81 P81 hp81 => ?_) 
          rcases hp81 with ⟨⟨hz81, rfl⟩ | ⟨hm81, rfl⟩, rfl, rfl⟩
          · have hy81 : rg (dg (D 12) n (a + 1 + 1)) 0 9 := by rw [e138] at hz81; exact (rg_l (by decide) (by decide)).mpr hz81
            refine pv_if_eq (q := 87) (tgt := 102) C dX7_number_84 (by decide) rfl (fun h => absurd h (by decide)) (fun _ => ?_) 
            obtain ⟨d3, hd3, ed3⟩ := rg_N 9 hy81 rfl
            rw [show hr (D138 12) n (a + 1 + 1) - 48 = nI d3 by rw [e138]; exact ed3]
            refine pv_bipush (q := 89) (v := 10) C dX7_number_87 rfl (by decide) ?_ 
            refine pv_iload_n (q := 90) C dX7_number_89 rfl rfl rfl ?_ 
            refine pv_imulN (q := 91) (a := 10) (b := ((10 * d) + d2)) C rfl rfl dX7_number_90 rfl ?_ 
            refine pv_iload (q := 93) C dX7_number_91 rfl rfl ?_ 
            refine pv_iaddN (q := 94) (a := (10 * ((10 * d) + d2))) (b := d3) C rfl rfl dX7_number_93 rfl ?_ 
            refine pv_iload_n (q := 95) C dX7_number_94 rfl rfl rfl ?_ 
            refine pv_icmp_gtN (q := 98) (tgt := 102) (a := ((10 * ((10 * d) + d2)) + d3)) (b := hi) C rfl rfl (by omega) (by omega) dX7_number_95 (by decide) rfl (fun c_95 => ?_) (fun c_95 => absurd c_95 (by omega)) 
            refine pv_iconst (q := 103) (v := 0) C dX7_number_102 rfl (by decide) ?_ 
            refine pv_istore (q := 105) C dX7_number_103 rfl (Nat.le_of_ble_eq_true rfl) rfl ?_ 
            refine pv_iload (q := 107) C dX7_number_105 rfl rfl ?_ 
            refine pv_if_eq (q := 110) (tgt := 120) C dX7_number_107 (by decide) rfl (fun _ => ?_) (fun h => absurd h (by decide)) 
            refine pv_iload_n (q := 121) C dX7_number_120 rfl rfl rfl ?_ 
            refine pv_istore_n (q := 122) C dX7_number_121 rfl rfl (Nat.le_of_ble_eq_true rfl) rfl ?_ 
            refine pv_aload_n (q := 123) C dX7_number_122 rfl rfl rfl ?_ 
            refine pv_dup (q := 124) C dX7_number_123 rfl rfl ?_ 
            refine pg_7_10 (q := 127) C k6 tw_1005 dX7_number_124 rfl ?_ 
            rw [show D138 6 10 = nI (a + 1 + 1) by rw [hE1]; exact pd_a _ _ _]
            refine pv_iload (q := 129) C dX7_number_127 rfl rfl ?_ 
            refine pv_if_eq (q := 132) (tgt := 136) C dX7_number_129 (by decide) rfl (fun _ => ?_) (fun h => absurd h (by decide)) 
            refine pv_iconst (q := 137) (v := 0) C dX7_number_136 rfl (by decide) ?_ 
            refine pv_iaddN (q := 138) (a := (a + 1 + 1)) (b := 0) C rfl rfl dX7_number_137 rfl ?_ 
            refine pp_7_10 (q := 141) C k6 tw_1005 dX7_number_138 rfl (fun D138 hD138 => ?_) 
            refine pv_goto (tgt := 60) C dX7_number_141 (by decide) ?_ 
            refine pv_iload (q := 62) C dX7_number_60 rfl rfl ?_ 
            refine pv_if_eq (q := 65) (tgt := 144) C dX7_number_62 (by decide) rfl (fun _ => ?_) (fun h => absurd h (by decide)) 
            refine pv_aload_n (q := 145) C dX7_number_144 rfl rfl rfl ?_ 
            refine pg_7_11 (q := 148) C k6 tw_1006 dX7_number_145 rfl ?_ 
            rw [show D138 6 11 = 1 by rw [hD138, hE1, pd_10]; exact pd_g _ _ _]
            refine pv_if_eq (q := 151) (tgt := 155) C dX7_number_148 (by decide) rfl (fun h => absurd h (by decide)) (fun _ => ?_) 
            refine pv_iload_n (q := 152) C dX7_number_151 rfl rfl rfl ?_ 
            refine pv_goto (tgt := 156) C dX7_number_152 (by decide) ?_ 
            exact pv_iret C (⟨Or.inl ⟨10 * d + d2, a + 1 + 1, by unfold pN; rw [ed, if_pos ⟨by rw [← ed]; exact hy23, nI_le (by omega) (by omega)⟩, if_pos ⟨nI_ne0 (by omega) (by omega), hy2, by rw [ed2, ix_n (by omega), ix_n (by omega)]; omega⟩, ed2, ix_n (by omega), ix_n (by omega)], dg_lt ed2 (by omega), by omega, rfl, by rw [hD138, hE1, pd_10]⟩, rfl⟩) (by decide) (by decide) dX7_number_156
          · refine pv_if_eq (q := 87) (tgt := 102) C dX7_number_84 (by decide) rfl (fun _ => ?_) (fun h => absurd h (by decide))
            refine pv_iconst (q := 103) (v := 0) C dX7_number_102 rfl (by decide) ?_ 
            refine pv_istore (q := 105) C dX7_number_103 rfl (Nat.le_of_ble_eq_true rfl) rfl ?_ 
            refine pv_iload (q := 107) C dX7_number_105 rfl rfl ?_ 
            refine pv_if_eq (q := 110) (tgt := 120) C dX7_number_107 (by decide) rfl (fun _ => ?_) (fun h => absurd h (by decide)) 
            refine pv_iload_n (q := 121) C dX7_number_120 rfl rfl rfl ?_ 
            refine pv_istore_n (q := 122) C dX7_number_121 rfl rfl (Nat.le_of_ble_eq_true rfl) rfl ?_ 
            refine pv_aload_n (q := 123) C dX7_number_122 rfl rfl rfl ?_ 
            refine pv_dup (q := 124) C dX7_number_123 rfl rfl ?_ 
            refine pg_7_10 (q := 127) C k6 tw_1005 dX7_number_124 rfl ?_ 
            rw [show D138 6 10 = nI (a + 1 + 1) by rw [hE1]; exact pd_a _ _ _]
            refine pv_iload (q := 129) C dX7_number_127 rfl rfl ?_ 
            refine pv_if_eq (q := 132) (tgt := 136) C dX7_number_129 (by decide) rfl (fun _ => ?_) (fun h => absurd h (by decide)) 
            refine pv_iconst (q := 137) (v := 0) C dX7_number_136 rfl (by decide) ?_ 
            refine pv_iaddN (q := 138) (a := (a + 1 + 1)) (b := 0) C rfl rfl dX7_number_137 rfl ?_ 
            refine pp_7_10 (q := 141) C k6 tw_1005 dX7_number_138 rfl (fun D138 hD138 => ?_) 
            refine pv_goto (tgt := 60) C dX7_number_141 (by decide) ?_ 
            refine pv_iload (q := 62) C dX7_number_60 rfl rfl ?_ 
            refine pv_if_eq (q := 65) (tgt := 144) C dX7_number_62 (by decide) rfl (fun _ => ?_) (fun h => absurd h (by decide)) 
            refine pv_aload_n (q := 145) C dX7_number_144 rfl rfl rfl ?_ 
            refine pg_7_11 (q := 148) C k6 tw_1006 dX7_number_145 rfl ?_ 
            rw [show D138 6 11 = 1 by rw [hD138, hE1, pd_10]; exact pd_g _ _ _]
            refine pv_if_eq (q := 151) (tgt := 155) C dX7_number_148 (by decide) rfl (fun h => absurd h (by decide)) (fun _ => ?_) 
            refine pv_iload_n (q := 152) C dX7_number_151 rfl rfl rfl ?_ 
            refine pv_goto (tgt := 156) C dX7_number_152 (by decide) ?_ 
            exact pv_iret C (⟨Or.inl ⟨10 * d + d2, a + 1 + 1, by unfold pN; rw [ed, if_pos ⟨by rw [← ed]; exact hy23, nI_le (by omega) (by omega)⟩, if_pos ⟨nI_ne0 (by omega) (by omega), hy2, by rw [ed2, ix_n (by omega), ix_n (by omega)]; omega⟩, ed2, ix_n (by omega), ix_n (by omega)], dg_lt ed2 (by omega), by omega, rfl, by rw [hD138, hE1, pd_10]⟩, rfl⟩) (by decide) (by decide) dX7_number_156
      · have hn81 : ¬ rg (dg (D 12) n (a + 1)) 0 9 := fun q => hm81 (by rw [e39]; exact (rg_l (by decide) (by decide)).mp q)
        refine pv_if_eq (q := 87) (tgt := 102) C dX7_number_84 (by decide) rfl (fun _ => ?_) (fun h => absurd h (by decide)) 
        refine pv_iconst (q := 103) (v := 0) C dX7_number_102 rfl (by decide) ?_ 
        refine pv_istore (q := 105) C dX7_number_103 rfl (Nat.le_of_ble_eq_true rfl) rfl ?_ 
        refine pv_iload (q := 107) C dX7_number_105 rfl rfl ?_ 
        refine pv_if_eq (q := 110) (tgt := 120) C dX7_number_107 (by decide) rfl (fun _ => ?_) (fun h => absurd h (by decide)) 
        refine pv_iload_n (q := 121) C dX7_number_120 rfl rfl rfl ?_ 
        refine pv_istore_n (q := 122) C dX7_number_121 rfl rfl (Nat.le_of_ble_eq_true rfl) rfl ?_ 
        refine pv_aload_n (q := 123) C dX7_number_122 rfl rfl rfl ?_ 
        refine pv_dup (q := 124) C dX7_number_123 rfl rfl ?_ 
        refine pg_7_10 (q := 127) C k6 tw_1005 dX7_number_124 rfl ?_ 
        rw [show D39 6 10 = nI (a + 1) by rw [hR39]; exact pd_a _ _ _]
        refine pv_iload (q := 129) C dX7_number_127 rfl rfl ?_ 
        refine pv_if_eq (q := 132) (tgt := 136) C dX7_number_129 (by decide) rfl (fun _ => ?_) (fun h => absurd h (by decide)) 
        refine pv_iconst (q := 137) (v := 0) C dX7_number_136 rfl (by decide) ?_ 
        refine pv_iaddN (q := 138) (a := (a + 1)) (b := 0) C rfl rfl dX7_number_137 rfl ?_ 
        refine pp_7_10 (q := 141) C k6 tw_1005 dX7_number_138 rfl (fun D138 hD138 => ?_) 
        refine pv_goto (tgt := 60) C dX7_number_141 (by decide) ?_ 
        refine pv_iload (q := 62) C dX7_number_60 rfl rfl ?_ 
        refine pv_if_eq (q := 65) (tgt := 144) C dX7_number_62 (by decide) rfl (fun _ => ?_) (fun h => absurd h (by decide)) 
        refine pv_aload_n (q := 145) C dX7_number_144 rfl rfl rfl ?_ 
        refine pg_7_11 (q := 148) C k6 tw_1006 dX7_number_145 rfl ?_ 
        rw [show D138 6 11 = 1 by rw [hD138, hR39, pd_10]; exact pd_g _ _ _]
        refine pv_if_eq (q := 151) (tgt := 155) C dX7_number_148 (by decide) rfl (fun h => absurd h (by decide)) (fun _ => ?_) 
        refine pv_iload_n (q := 152) C dX7_number_151 rfl rfl rfl ?_ 
        refine pv_goto (tgt := 156) C dX7_number_152 (by decide) ?_ 
        exact pv_iret C (⟨Or.inl ⟨d, a + 1, by unfold pN; rw [ed, if_pos ⟨by rw [← ed]; exact hy23, nI_le (by omega) (by omega)⟩, if_neg (fun z => hn81 z.2.1), ix_n (by omega)], dg_lt ed (by omega), by omega, rfl, by rw [hD138, hR39, pd_10]⟩, rfl⟩) (by decide) (by decide) dX7_number_156
  · have hn23 : ¬ rg (dg (D 12) n a) (nI 1) 9 := fun q => hm23 ((rg_l (by decide) (by decide)).mp q)
    refine pv_if_eq (q := 29) (tgt := 38) C dX7_number_26 (by decide) rfl (fun _ => ?_) (fun h => absurd h (by decide)) 
    refine pv_iconst (q := 39) (v := 0) C dX7_number_38 rfl (by decide) ?_ 
    refine pv_callVv (q := 42) C hKl (c_X7_take0 l X D P a (t3)) tw_1219 k6 (by decide) rfl mm_X7_take ⟨rfl, rfl⟩ (by rw [hKR]; exact ⟨Nat.le_of_ble_eq_true rfl, Nat.le_of_ble_eq_true rfl⟩) (by rw [hKR]; exact ⟨Nat.le_of_ble_eq_true rfl, Nat.le_of_ble_eq_true rfl⟩) rfl rfl rfl (Nat.le_of_ble_eq_true rfl) dX7_number_39 rfl (fun D39 P39 hp39 => ?_) 
    obtain ⟨hR39, rfl⟩ := hp39
    refine pv_aload_n (q := 43) C dX7_number_42 rfl rfl rfl ?_ 
    refine pg_7_11 (q := 46) C k6 tw_1006 dX7_number_43 rfl ?_ 
    rw [show D39 6 11 = 0 by rw [hR39]; exact pd_g _ _ _]
    refine pv_if_eq (q := 49) (tgt := 57) C dX7_number_46 (by decide) rfl (fun _ => ?_) (fun h => absurd h (by decide)) 
    refine pv_iconst (q := 58) (v := 0) C dX7_number_57 rfl (by decide) ?_ 
    refine pv_istore (q := 60) C dX7_number_58 rfl (Nat.le_of_ble_eq_true rfl) rfl ?_ 
    refine pv_iload (q := 62) C dX7_number_60 rfl rfl ?_ 
    refine pv_if_eq (q := 65) (tgt := 144) C dX7_number_62 (by decide) rfl (fun _ => ?_) (fun h => absurd h (by decide)) 
    refine pv_aload_n (q := 145) C dX7_number_144 rfl rfl rfl ?_ 
    refine pg_7_11 (q := 148) C k6 tw_1006 dX7_number_145 rfl ?_ 
    rw [show D39 6 11 = 0 by rw [hR39]; exact pd_g _ _ _]
    refine pv_if_eq (q := 151) (tgt := 155) C dX7_number_148 (by decide) rfl (fun _ => ?_) (fun h => absurd h (by decide)) 
    refine pv_iload_n (q := 156) C dX7_number_155 rfl rfl rfl ?_ 
    exact pv_iret C (⟨Or.inr ⟨by unfold pN; rw [if_neg (fun z => hn23 z.1)], rfl, by rw [hR39]⟩, rfl⟩) (by decide) (by decide) dX7_number_156
set_option maxRecDepth 100000 in
set_option maxHeartbeats 4000000 in
theorem c_X7_amount (l : Launch) (X : XT) (D : DT) (P : PT) (n a : Nat) (ht : txt D n a) (hg : D 6 11 = 1) : CG l X yX7_amount (.code yX7_amount cX7_amount 1 (some .int) :: AW) ({ frames := 2, cells := 0, slots := 0, locals := 72 } : Room) [.ref (X.2.2 6)] (qI X (fun r D' P' => ((∃ b, pA (D 12) n a = (some r, b) ∧ b ≤ n ∧ D' = pd D b 1) ∨ (∃ b, b ≤ n ∧ pA (D 12) n a = (none, b) ∧ D' = pd D b 0)) ∧ P = P')) D P 0 0 := by
  refine cg_of (by decide +kernel) (Nat.le_of_ble_eq_true rfl) ?_
  intro K hKl hKR C
  refine PV_lv (lv' := [some (.ref (X.2.2 6))]) rfl ?_
  obtain ⟨t1, t2, t3, t4⟩ := id ht
  refine pv_aload_n (q := 1) C dX7_amount_0 rfl rfl rfl ?_ 
  refine pv_callVi (q := 4) C hKl (c_X7_here l X D P n a (ht)) tw_1215 k6 (by decide) rfl mm_X7_here ⟨rfl, rfl⟩ (by rw [hKR]; exact ⟨Nat.le_of_ble_eq_true rfl, Nat.le_of_ble_eq_true rfl⟩) (by rw [hKR]; exact ⟨Nat.le_of_ble_eq_true rfl, Nat.le_of_ble_eq_true rfl⟩) rfl rfl rfl (Nat.le_of_ble_eq_true rfl) dX7_amount_1 rfl (fun r1 D1 P1 hp1 => ?_) 
  obtain ⟨rfl, rfl, rfl⟩ := hp1
  refine pv_bipush (q := 6) (v := 45) C dX7_amount_4 rfl (by decide) ?_ 
  refine pv_icmp_ne (q := 9) (tgt := 23) C dX7_amount_6 (by decide) rfl (fun c_6 => ?_) (fun c_6 => ?_) 
  · refine pv_aload_n (q := 24) C dX7_amount_23 rfl rfl rfl ?_
    refine pv_iconst (q := 25) (v := 0) C dX7_amount_24 rfl (by decide) ?_ 
    refine pv_bipush (q := 27) (v := 99) C dX7_amount_25 rfl (by decide) ?_ 
    refine pv_callVi (q := 30) C hKl (c_X7_number0 l X D P n a (ht) 99 (by decide) (hg)) tw_1227 k6 (by decide) rfl mm_X7_number ⟨rfl, rfl⟩ (by rw [hKR]; exact ⟨Nat.le_of_ble_eq_true rfl, Nat.le_of_ble_eq_true rfl⟩) (by rw [hKR]; exact ⟨Nat.le_of_ble_eq_true rfl, Nat.le_of_ble_eq_true rfl⟩) rfl rfl rfl (Nat.le_of_ble_eq_true rfl) dX7_amount_27 rfl (fun r27 D27 P27 hp27 => ?_) 
    rcases hp27 with ⟨⟨v27, b27, hN27, hb27, hv27, rfl, hR27⟩ | ⟨hN27, rfl, hR27⟩, rfl⟩
    · exact pv_iret C (⟨Or.inl ⟨_, by unfold pA; rw [if_neg c_6, hN27], hb27, hR27⟩, rfl⟩) (by decide) (by decide) dX7_amount_30
    · exact pv_iret C (⟨Or.inr ⟨a, t4, by unfold pA; rw [if_neg c_6, hN27], hR27⟩, rfl⟩) (by decide) (by decide) dX7_amount_30
  · refine pv_aload_n (q := 10) C dX7_amount_9 rfl rfl rfl ?_
    refine pv_iconst (q := 11) (v := 1) C dX7_amount_10 rfl (by decide) ?_ 
    refine pv_callVv (q := 14) C hKl (c_X7_take1 l X D P a (t3) (hg)) tw_1219 k6 (by decide) rfl mm_X7_take ⟨rfl, rfl⟩ (by rw [hKR]; exact ⟨Nat.le_of_ble_eq_true rfl, Nat.le_of_ble_eq_true rfl⟩) (by rw [hKR]; exact ⟨Nat.le_of_ble_eq_true rfl, Nat.le_of_ble_eq_true rfl⟩) rfl rfl rfl (Nat.le_of_ble_eq_true rfl) dX7_amount_11 rfl (fun D11 P11 hp11 => ?_) 
    obtain ⟨hR11, rfl⟩ := hp11
    refine pv_aload_n (q := 15) C dX7_amount_14 rfl rfl rfl ?_ 
    refine pv_iconst (q := 16) (v := 1) C dX7_amount_15 rfl (by decide) ?_ 
    refine pv_bipush (q := 18) (v := 99) C dX7_amount_16 rfl (by decide) ?_ 
    refine pv_callVi (q := 21) C hKl (c_X7_number1 l X D11 P n (a + 1) (by rw [hR11]; exact txt_pd ht (hr_lt (f := D 12) (by rw [c_6]; decide)) 1) 99 (by decide) (by rw [hR11]; exact pd_g _ _ _)) tw_1227 k6 (by decide) rfl mm_X7_number ⟨rfl, rfl⟩ (by rw [hKR]; exact ⟨Nat.le_of_ble_eq_true rfl, Nat.le_of_ble_eq_true rfl⟩) (by rw [hKR]; exact ⟨Nat.le_of_ble_eq_true rfl, Nat.le_of_ble_eq_true rfl⟩) rfl rfl rfl (Nat.le_of_ble_eq_true rfl) dX7_amount_18 rfl (fun r18 D18 P18 hp18 => ?_) 
    rcases hp18 with ⟨⟨v18, b18, hN18, hb18, hv18, rfl, hR18⟩ | ⟨hN18, rfl, hR18⟩, rfl⟩
    · refine pv_ineg (q := 22) C dX7_amount_21 rfl ?_
      exact pv_iret C (⟨Or.inl ⟨_, by unfold pA; rw [hR11, pd_o _ _ _ (by decide)] at hN18; rw [if_pos c_6, hN18], hb18, by rw [hR18, hR11, pd_pd]⟩, rfl⟩) (by decide) (by decide) dX7_amount_22
    · refine pv_ineg (q := 22) C dX7_amount_21 rfl ?_
      exact pv_iret C (⟨Or.inr ⟨a + 1, hr_lt (f := D 12) (by rw [c_6]; decide), by unfold pA; rw [hR11, pd_o _ _ _ (by decide)] at hN18; rw [if_pos c_6, hN18], by rw [hR18, hR11, pd_pd]⟩, rfl⟩) (by decide) (by decide) dX7_amount_22
set_option maxRecDepth 100000 in
set_option maxHeartbeats 4000000 in
theorem c_X7_letter1 (l : Launch) (X : XT) (D : DT) (P : PT) (n a : Nat) (ht : txt D n a) (hg : D 6 11 = 1) : CG l X yX7_letter (.code yX7_letter cX7_letter 2 (some .int) :: AW) ({ frames := 2, cells := 0, slots := 0, locals := 72 } : Room) [.ref (X.2.2 6)] (qI X (fun r D' P' => ((pG (D 12) n a = (some r, a + 1) ∧ a + 1 ≤ n ∧ rg r 0 3 ∧ D' = pd D (a + 1) 1) ∨ (pG (D 12) n a = (none, a) ∧ D' = pd D a 0)) ∧ P = P')) D P 0 0 := by
  refine cg_of (by decide +kernel) (Nat.le_of_ble_eq_true rfl) ?_
  intro K hKl hKR C
  refine PV_lv (lv' := [some (.ref (X.2.2 6)), none]) rfl ?_
  obtain ⟨t1, t2, t3, t4⟩ := id ht
  refine pv_aload_n (q := 1) C dX7_letter_0 rfl rfl rfl ?_ 
  refine pv_callVi (q := 4) C hKl (c_X7_here l X D P n a (ht)) tw_1215 k6 (by decide) rfl mm_X7_here ⟨rfl, rfl⟩ (by rw [hKR]; exact ⟨Nat.le_of_ble_eq_true rfl, Nat.le_of_ble_eq_true rfl⟩) (by rw [hKR]; exact ⟨Nat.le_of_ble_eq_true rfl, Nat.le_of_ble_eq_true rfl⟩) rfl rfl rfl (Nat.le_of_ble_eq_true rfl) dX7_letter_1 rfl (fun r1 D1 P1 hp1 => ?_) 
  obtain ⟨rfl, rfl, rfl⟩ := hp1
  refine pv_bipush (q := 6) (v := 97) C dX7_letter_4 rfl (by decide) ?_ 
  refine pv_isub (q := 7) C dX7_letter_6 rfl ?_ 
  refine pv_istore_n (q := 8) C dX7_letter_7 rfl rfl (Nat.le_of_ble_eq_true rfl) rfl ?_ 
  refine pv_aload_n (q := 9) C dX7_letter_8 rfl rfl rfl ?_ 
  refine pv_aload_n (q := 10) C dX7_letter_9 rfl rfl rfl ?_ 
  refine pg_7_11 (q := 13) C k6 tw_1006 dX7_letter_10 rfl ?_ 
  rw [hg]
  refine pv_if_eq (q := 16) (tgt := 27) C dX7_letter_13 (by decide) rfl (fun h => absurd h (by decide)) (fun _ => ?_) 
  refine pv_iload_n (q := 17) C dX7_letter_16 rfl rfl rfl ?_ 
  refine pv_callSi (q := 20) C hKl (c_X7_isGroup l X D P _) tw_1056 mm_X7_isGroup ⟨rfl, rfl⟩ (by rw [hKR]; exact ⟨Nat.le_of_ble_eq_true rfl, Nat.le_of_ble_eq_true rfl⟩) (by rw [hKR]; exact ⟨Nat.le_of_ble_eq_true rfl, Nat.le_of_ble_eq_true rfl⟩) rfl rfl rfl (Nat.le_of_ble_eq_true rfl) dX7_letter_17 rfl (fun r17 D17 P17 hp17 => ?_) 
  rcases hp17 with ⟨⟨hy17, rfl⟩ | ⟨hn17, rfl⟩, rfl, rfl⟩
  · refine pv_if_eq (q := 23) (tgt := 27) C dX7_letter_20 (by decide) rfl (fun h => absurd h (by decide)) (fun _ => ?_)
    refine pv_iconst (q := 24) (v := 1) C dX7_letter_23 rfl (by decide) ?_ 
    refine pv_goto (tgt := 28) C dX7_letter_24 (by decide) ?_ 
    refine pv_callVv (q := 31) C hKl (c_X7_take1 l X D P a (t3) (hg)) tw_1219 k6 (by decide) rfl mm_X7_take ⟨rfl, rfl⟩ (by rw [hKR]; exact ⟨Nat.le_of_ble_eq_true rfl, Nat.le_of_ble_eq_true rfl⟩) (by rw [hKR]; exact ⟨Nat.le_of_ble_eq_true rfl, Nat.le_of_ble_eq_true rfl⟩) rfl rfl rfl (Nat.le_of_ble_eq_true rfl) dX7_letter_28 rfl (fun D28 P28 hp28 => ?_) 
    obtain ⟨hR28, rfl⟩ := hp28
    refine pv_aload_n (q := 32) C dX7_letter_31 rfl rfl rfl ?_ 
    refine pg_7_11 (q := 35) C k6 tw_1006 dX7_letter_32 rfl ?_ 
    rw [show D28 6 11 = 1 by rw [hR28]; exact pd_g _ _ _]
    refine pv_if_eq (q := 38) (tgt := 42) C dX7_letter_35 (by decide) rfl (fun h => absurd h (by decide)) (fun _ => ?_) 
    refine pv_iload_n (q := 39) C dX7_letter_38 rfl rfl rfl ?_ 
    refine pv_goto (tgt := 43) C dX7_letter_39 (by decide) ?_ 
    exact pv_iret C (⟨Or.inl ⟨by unfold pG; rw [if_pos hy17], hr_lt (f := D 12) (fun z => absurd hy17.1 (by rw [z]; decide)), hy17, hR28⟩, rfl⟩) (by decide) (by decide) dX7_letter_43
  · refine pv_if_eq (q := 23) (tgt := 27) C dX7_letter_20 (by decide) rfl (fun _ => ?_) (fun h => absurd h (by decide))
    refine pv_iconst (q := 28) (v := 0) C dX7_letter_27 rfl (by decide) ?_ 
    refine pv_callVv (q := 31) C hKl (c_X7_take0 l X D P a (t3)) tw_1219 k6 (by decide) rfl mm_X7_take ⟨rfl, rfl⟩ (by rw [hKR]; exact ⟨Nat.le_of_ble_eq_true rfl, Nat.le_of_ble_eq_true rfl⟩) (by rw [hKR]; exact ⟨Nat.le_of_ble_eq_true rfl, Nat.le_of_ble_eq_true rfl⟩) rfl rfl rfl (Nat.le_of_ble_eq_true rfl) dX7_letter_28 rfl (fun D28 P28 hp28 => ?_) 
    obtain ⟨hR28, rfl⟩ := hp28
    refine pv_aload_n (q := 32) C dX7_letter_31 rfl rfl rfl ?_ 
    refine pg_7_11 (q := 35) C k6 tw_1006 dX7_letter_32 rfl ?_ 
    rw [show D28 6 11 = 0 by rw [hR28]; exact pd_g _ _ _]
    refine pv_if_eq (q := 38) (tgt := 42) C dX7_letter_35 (by decide) rfl (fun _ => ?_) (fun h => absurd h (by decide)) 
    refine pv_iconst (q := 43) (v := 0) C dX7_letter_42 rfl (by decide) ?_ 
    exact pv_iret C (⟨Or.inr ⟨by unfold pG; rw [if_neg hn17], hR28⟩, rfl⟩) (by decide) (by decide) dX7_letter_43
set_option maxRecDepth 100000 in
set_option maxHeartbeats 4000000 in
theorem c_X7_letter0 (l : Launch) (X : XT) (D : DT) (P : PT) (n a : Nat) (ht : txt D n a) (hg : D 6 11 = 0) : CG l X yX7_letter (.code yX7_letter cX7_letter 2 (some .int) :: AW) ({ frames := 2, cells := 0, slots := 0, locals := 72 } : Room) [.ref (X.2.2 6)] (qI X (fun r D' P' => r = 0 ∧ D' = pd D a 0 ∧ P = P')) D P 0 0 := by
  refine cg_of (by decide +kernel) (Nat.le_of_ble_eq_true rfl) ?_
  intro K hKl hKR C
  refine PV_lv (lv' := [some (.ref (X.2.2 6)), none]) rfl ?_
  obtain ⟨t1, t2, t3, t4⟩ := id ht
  refine pv_aload_n (q := 1) C dX7_letter_0 rfl rfl rfl ?_ 
  refine pv_callVi (q := 4) C hKl (c_X7_here l X D P n a (ht)) tw_1215 k6 (by decide) rfl mm_X7_here ⟨rfl, rfl⟩ (by rw [hKR]; exact ⟨Nat.le_of_ble_eq_true rfl, Nat.le_of_ble_eq_true rfl⟩) (by rw [hKR]; exact ⟨Nat.le_of_ble_eq_true rfl, Nat.le_of_ble_eq_true rfl⟩) rfl rfl rfl (Nat.le_of_ble_eq_true rfl) dX7_letter_1 rfl (fun r1 D1 P1 hp1 => ?_) 
  obtain ⟨rfl, rfl, rfl⟩ := hp1
  refine pv_bipush (q := 6) (v := 97) C dX7_letter_4 rfl (by decide) ?_ 
  refine pv_isub (q := 7) C dX7_letter_6 rfl ?_ 
  refine pv_istore_n (q := 8) C dX7_letter_7 rfl rfl (Nat.le_of_ble_eq_true rfl) rfl ?_ 
  refine pv_aload_n (q := 9) C dX7_letter_8 rfl rfl rfl ?_ 
  refine pv_aload_n (q := 10) C dX7_letter_9 rfl rfl rfl ?_ 
  refine pg_7_11 (q := 13) C k6 tw_1006 dX7_letter_10 rfl ?_ 
  rw [hg]
  refine pv_if_eq (q := 16) (tgt := 27) C dX7_letter_13 (by decide) rfl (fun _ => ?_) (fun h => absurd h (by decide)) 
  refine pv_iconst (q := 28) (v := 0) C dX7_letter_27 rfl (by decide) ?_ 
  refine pv_callVv (q := 31) C hKl (c_X7_take0 l X D P a (t3)) tw_1219 k6 (by decide) rfl mm_X7_take ⟨rfl, rfl⟩ (by rw [hKR]; exact ⟨Nat.le_of_ble_eq_true rfl, Nat.le_of_ble_eq_true rfl⟩) (by rw [hKR]; exact ⟨Nat.le_of_ble_eq_true rfl, Nat.le_of_ble_eq_true rfl⟩) rfl rfl rfl (Nat.le_of_ble_eq_true rfl) dX7_letter_28 rfl (fun D28 P28 hp28 => ?_) 
  obtain ⟨hR28, rfl⟩ := hp28
  refine pv_aload_n (q := 32) C dX7_letter_31 rfl rfl rfl ?_ 
  refine pg_7_11 (q := 35) C k6 tw_1006 dX7_letter_32 rfl ?_ 
  rw [show D28 6 11 = 0 by rw [hR28]; exact pd_g _ _ _]
  refine pv_if_eq (q := 38) (tgt := 42) C dX7_letter_35 (by decide) rfl (fun _ => ?_) (fun h => absurd h (by decide)) 
  refine pv_iconst (q := 43) (v := 0) C dX7_letter_42 rfl (by decide) ?_ 
  exact pv_iret C (⟨rfl, hR28, rfl⟩) (by decide) (by decide) dX7_letter_43
set_option maxRecDepth 100000 in
set_option maxHeartbeats 4000000 in
theorem c_X7_happensN (l : Launch) (X : XT) (D : DT) (P : PT) (c : Int32) (hg : D 6 11 = 0) : CG l X yX7_happens (.code yX7_happens cX7_happens 2 (some .boolean) :: AW) ({ frames := 0, cells := 0, slots := 0, locals := 0 } : Room) [.ref (X.2.2 6), .int c] (qI X (fun r D' P' => r = 0 ∧ D' = D ∧ P = P')) D P 0 0 := by
  refine cg_of (by decide +kernel) (Nat.le_of_ble_eq_true rfl) ?_
  intro K hKl hKR C
  refine PV_lv (lv' := [some (.ref (X.2.2 6)), some (.int c)]) rfl ?_
  refine pv_aload_n (q := 1) C dX7_happens_0 rfl rfl rfl ?_ 
  refine pv_aload_n (q := 2) C dX7_happens_1 rfl rfl rfl ?_ 
  refine pg_7_12 (q := 5) C k6 tw_1007 dX7_happens_2 rfl ?_ 
  refine pv_if_eq (q := 8) (tgt := 30) C dX7_happens_5 (by decide) rfl (fun c_5 => ?_) (fun c_5 => ?_) 
  · refine pv_aload_n (q := 31) C dX7_happens_30 rfl rfl rfl ?_
    refine pg_7_13 (q := 34) C k6 tw_1008 dX7_happens_31 rfl ?_ 
    refine pp_7_13 (q := 37) C k6 tw_1008 dX7_happens_34 rfl (fun D34 hD34 => ?_) 
    refine pv_aload_n (q := 38) C dX7_happens_37 rfl rfl rfl ?_ 
    refine pg_7_12 (q := 41) C k6 tw_1007 dX7_happens_38 rfl ?_ 
    refine pv_if_eq (q := 44) (tgt := 62) C dX7_happens_41 (by decide) rfl (fun c_41 => ?_) (fun c_41 => ?_) 
    · refine pv_iconst (q := 63) (v := 0) C dX7_happens_62 rfl (by decide) ?_
      exact pv_zret C (Or.inl rfl) (⟨rfl, by rw [hD34]; unfold up2; rw [va_id, va_id], rfl⟩) (by decide) (by decide) dX7_happens_63
    · refine pv_aload_n (q := 45) C dX7_happens_44 rfl rfl rfl ?_
      refine pg_7_11 (q := 48) C k6 tw_1006 dX7_happens_45 rfl ?_ 
      rw [show D34 6 11 = 0 by rw [hD34, up2_nk _ _ _ (by decide)]; exact hg]
      refine pv_if_eq (q := 51) (tgt := 62) C dX7_happens_48 (by decide) rfl (fun _ => ?_) (fun h => absurd h (by decide)) 
      refine pv_iconst (q := 63) (v := 0) C dX7_happens_62 rfl (by decide) ?_ 
      exact pv_zret C (Or.inl rfl) (⟨rfl, by rw [hD34]; unfold up2; rw [va_id, va_id], rfl⟩) (by decide) (by decide) dX7_happens_63
  · refine pv_aload_n (q := 9) C dX7_happens_8 rfl rfl rfl ?_
    refine pg_7_11 (q := 12) C k6 tw_1006 dX7_happens_9 rfl ?_ 
    rw [hg]
    refine pv_if_eq (q := 15) (tgt := 30) C dX7_happens_12 (by decide) rfl (fun _ => ?_) (fun h => absurd h (by decide)) 
    refine pv_aload_n (q := 31) C dX7_happens_30 rfl rfl rfl ?_ 
    refine pg_7_13 (q := 34) C k6 tw_1008 dX7_happens_31 rfl ?_ 
    refine pp_7_13 (q := 37) C k6 tw_1008 dX7_happens_34 rfl (fun D34 hD34 => ?_) 
    refine pv_aload_n (q := 38) C dX7_happens_37 rfl rfl rfl ?_ 
    refine pg_7_12 (q := 41) C k6 tw_1007 dX7_happens_38 rfl ?_ 
    refine pv_if_eq (q := 44) (tgt := 62) C dX7_happens_41 (by decide) rfl (fun c_41 => ?_) (fun c_41 => ?_) 
    · refine pv_iconst (q := 63) (v := 0) C dX7_happens_62 rfl (by decide) ?_
      exact pv_zret C (Or.inl rfl) (⟨rfl, by rw [hD34]; unfold up2; rw [va_id, va_id], rfl⟩) (by decide) (by decide) dX7_happens_63
    · refine pv_aload_n (q := 45) C dX7_happens_44 rfl rfl rfl ?_
      refine pg_7_11 (q := 48) C k6 tw_1006 dX7_happens_45 rfl ?_ 
      rw [show D34 6 11 = 0 by rw [hD34, up2_nk _ _ _ (by decide)]; exact hg]
      refine pv_if_eq (q := 51) (tgt := 62) C dX7_happens_48 (by decide) rfl (fun _ => ?_) (fun h => absurd h (by decide)) 
      refine pv_iconst (q := 63) (v := 0) C dX7_happens_62 rfl (by decide) ?_ 
      exact pv_zret C (Or.inl rfl) (⟨rfl, by rw [hD34]; unfold up2; rw [va_id, va_id], rfl⟩) (by decide) (by decide) dX7_happens_63
set_option maxRecDepth 100000 in
set_option maxHeartbeats 4000000 in
theorem c_X7_happensY (l : Launch) (X : XT) (D : DT) (P : PT) (hd : D 6 12 = 0 ∨ D 6 12 = 1) (hg : D 6 11 = 1) : CG l X yX7_happens (.code yX7_happens cX7_happens 2 (some .boolean) :: AW) ({ frames := 0, cells := 0, slots := 0, locals := 0 } : Room) [.ref (X.2.2 6), .int 1] (qI X (fun r D' P' => (((D 6 12 = 1 ∧ D 6 13 = 0) ∧ r = 1 ∧ D' = D) ∨ (¬ (D 6 12 = 1 ∧ D 6 13 = 0) ∧ r = 0 ∧ D' = D)) ∧ P = P')) D P 0 0 := by
  refine cg_of (by decide +kernel) (Nat.le_of_ble_eq_true rfl) ?_
  intro K hKl hKR C
  refine PV_lv (lv' := [some (.ref (X.2.2 6)), some (.int 1)]) rfl ?_
  refine pv_aload_n (q := 1) C dX7_happens_0 rfl rfl rfl ?_ 
  refine pv_aload_n (q := 2) C dX7_happens_1 rfl rfl rfl ?_ 
  refine pg_7_12 (q := 5) C k6 tw_1007 dX7_happens_2 rfl ?_ 
  refine pv_if_eq (q := 8) (tgt := 30) C dX7_happens_5 (by decide) rfl (fun c_5 => ?_) (fun c_5 => ?_) 
  · refine pv_aload_n (q := 31) C dX7_happens_30 rfl rfl rfl ?_
    refine pg_7_13 (q := 34) C k6 tw_1008 dX7_happens_31 rfl ?_ 
    refine pp_7_13 (q := 37) C k6 tw_1008 dX7_happens_34 rfl (fun D34 hD34 => ?_) 
    refine pv_aload_n (q := 38) C dX7_happens_37 rfl rfl rfl ?_ 
    refine pg_7_12 (q := 41) C k6 tw_1007 dX7_happens_38 rfl ?_ 
    rw [show D34 6 12 = D 6 12 by rw [hD34, up2_nk _ _ _ (by decide)]]
    refine pv_if_eq (q := 44) (tgt := 62) C dX7_happens_41 (by decide) rfl (fun c_41 => ?_) (fun c_41 => ?_) 
    · refine pv_iconst (q := 63) (v := 0) C dX7_happens_62 rfl (by decide) ?_
      exact pv_zret C (Or.inl rfl) (by
          first
          | exact ⟨Or.inl ⟨⟨hd.resolve_left (by assumption), by assumption⟩, rfl, by rw [hD34]; unfold up2; rw [va_id, va_id]⟩, rfl⟩
          | exact ⟨Or.inr ⟨fun z => absurd z.1 (by rw [show D 6 12 = 0 by assumption]; decide), rfl, by rw [hD34]; unfold up2; rw [va_id, va_id]⟩, rfl⟩
          | exact ⟨Or.inr ⟨fun z => absurd z.2 (by assumption), rfl, by rw [hD34]; unfold up2; rw [va_id, va_id]⟩, rfl⟩
          | exact absurd (show D 6 13 = 0 by assumption) (by assumption)
          | exact absurd (show D 6 12 = 0 by assumption) (by assumption)) (by decide) (by decide) dX7_happens_63
    · refine pv_aload_n (q := 45) C dX7_happens_44 rfl rfl rfl ?_
      refine pg_7_11 (q := 48) C k6 tw_1006 dX7_happens_45 rfl ?_ 
      rw [show D34 6 11 = 1 by rw [hD34, up2_nk _ _ _ (by decide)]; exact hg]
      refine pv_if_eq (q := 51) (tgt := 62) C dX7_happens_48 (by decide) rfl (fun h => absurd h (by decide)) (fun _ => ?_) 
      refine pv_aload_n (q := 52) C dX7_happens_51 rfl rfl rfl ?_ 
      refine pg_7_13 (q := 55) C k6 tw_1008 dX7_happens_52 rfl ?_ 
      rw [show D34 6 13 = D 6 13 by rw [hD34, up2_self]]
      refine pv_if_ne (q := 58) (tgt := 62) C dX7_happens_55 (by decide) rfl (fun c_55 => ?_) (fun c_55 => ?_) 
      · refine pv_iconst (q := 63) (v := 0) C dX7_happens_62 rfl (by decide) ?_
        exact pv_zret C (Or.inl rfl) (by
            first
            | exact ⟨Or.inl ⟨⟨hd.resolve_left (by assumption), by assumption⟩, rfl, by rw [hD34]; unfold up2; rw [va_id, va_id]⟩, rfl⟩
            | exact ⟨Or.inr ⟨fun z => absurd z.1 (by rw [show D 6 12 = 0 by assumption]; decide), rfl, by rw [hD34]; unfold up2; rw [va_id, va_id]⟩, rfl⟩
            | exact ⟨Or.inr ⟨fun z => absurd z.2 (by assumption), rfl, by rw [hD34]; unfold up2; rw [va_id, va_id]⟩, rfl⟩
            | exact absurd (show D 6 13 = 0 by assumption) (by assumption)
            | exact absurd (show D 6 12 = 0 by assumption) (by assumption)) (by decide) (by decide) dX7_happens_63
      · refine pv_iconst (q := 59) (v := 1) C dX7_happens_58 rfl (by decide) ?_
        refine pv_goto (tgt := 63) C dX7_happens_59 (by decide) ?_ 
        exact pv_zret C (Or.inr rfl) (by
            first
            | exact ⟨Or.inl ⟨⟨hd.resolve_left (by assumption), by assumption⟩, rfl, by rw [hD34]; unfold up2; rw [va_id, va_id]⟩, rfl⟩
            | exact ⟨Or.inr ⟨fun z => absurd z.1 (by rw [show D 6 12 = 0 by assumption]; decide), rfl, by rw [hD34]; unfold up2; rw [va_id, va_id]⟩, rfl⟩
            | exact ⟨Or.inr ⟨fun z => absurd z.2 (by assumption), rfl, by rw [hD34]; unfold up2; rw [va_id, va_id]⟩, rfl⟩
            | exact absurd (show D 6 13 = 0 by assumption) (by assumption)
            | exact absurd (show D 6 12 = 0 by assumption) (by assumption)) (by decide) (by decide) dX7_happens_63
  · refine pv_aload_n (q := 9) C dX7_happens_8 rfl rfl rfl ?_
    refine pg_7_11 (q := 12) C k6 tw_1006 dX7_happens_9 rfl ?_ 
    rw [hg]
    refine pv_if_eq (q := 15) (tgt := 30) C dX7_happens_12 (by decide) rfl (fun h => absurd h (by decide)) (fun _ => ?_) 
    refine pv_aload_n (q := 16) C dX7_happens_15 rfl rfl rfl ?_ 
    refine pg_7_13 (q := 19) C k6 tw_1008 dX7_happens_16 rfl ?_ 
    refine pv_if_ne (q := 22) (tgt := 30) C dX7_happens_19 (by decide) rfl (fun c_19 => ?_) (fun c_19 => ?_) 
    · refine pv_aload_n (q := 31) C dX7_happens_30 rfl rfl rfl ?_
      refine pg_7_13 (q := 34) C k6 tw_1008 dX7_happens_31 rfl ?_ 
      refine pp_7_13 (q := 37) C k6 tw_1008 dX7_happens_34 rfl (fun D34 hD34 => ?_) 
      refine pv_aload_n (q := 38) C dX7_happens_37 rfl rfl rfl ?_ 
      refine pg_7_12 (q := 41) C k6 tw_1007 dX7_happens_38 rfl ?_ 
      rw [show D34 6 12 = D 6 12 by rw [hD34, up2_nk _ _ _ (by decide)]]
      refine pv_if_eq (q := 44) (tgt := 62) C dX7_happens_41 (by decide) rfl (fun c_41 => ?_) (fun c_41 => ?_) 
      · refine pv_iconst (q := 63) (v := 0) C dX7_happens_62 rfl (by decide) ?_
        exact pv_zret C (Or.inl rfl) (by
            first
            | exact ⟨Or.inl ⟨⟨hd.resolve_left (by assumption), by assumption⟩, rfl, by rw [hD34]; unfold up2; rw [va_id, va_id]⟩, rfl⟩
            | exact ⟨Or.inr ⟨fun z => absurd z.1 (by rw [show D 6 12 = 0 by assumption]; decide), rfl, by rw [hD34]; unfold up2; rw [va_id, va_id]⟩, rfl⟩
            | exact ⟨Or.inr ⟨fun z => absurd z.2 (by assumption), rfl, by rw [hD34]; unfold up2; rw [va_id, va_id]⟩, rfl⟩
            | exact absurd (show D 6 13 = 0 by assumption) (by assumption)
            | exact absurd (show D 6 12 = 0 by assumption) (by assumption)) (by decide) (by decide) dX7_happens_63
      · refine pv_aload_n (q := 45) C dX7_happens_44 rfl rfl rfl ?_
        refine pg_7_11 (q := 48) C k6 tw_1006 dX7_happens_45 rfl ?_ 
        rw [show D34 6 11 = 1 by rw [hD34, up2_nk _ _ _ (by decide)]; exact hg]
        refine pv_if_eq (q := 51) (tgt := 62) C dX7_happens_48 (by decide) rfl (fun h => absurd h (by decide)) (fun _ => ?_) 
        refine pv_aload_n (q := 52) C dX7_happens_51 rfl rfl rfl ?_ 
        refine pg_7_13 (q := 55) C k6 tw_1008 dX7_happens_52 rfl ?_ 
        rw [show D34 6 13 = D 6 13 by rw [hD34, up2_self]]
        refine pv_if_ne (q := 58) (tgt := 62) C dX7_happens_55 (by decide) rfl (fun c_55 => ?_) (fun c_55 => ?_) 
        · refine pv_iconst (q := 63) (v := 0) C dX7_happens_62 rfl (by decide) ?_
          exact pv_zret C (Or.inl rfl) (by
              first
              | exact ⟨Or.inl ⟨⟨hd.resolve_left (by assumption), by assumption⟩, rfl, by rw [hD34]; unfold up2; rw [va_id, va_id]⟩, rfl⟩
              | exact ⟨Or.inr ⟨fun z => absurd z.1 (by rw [show D 6 12 = 0 by assumption]; decide), rfl, by rw [hD34]; unfold up2; rw [va_id, va_id]⟩, rfl⟩
              | exact ⟨Or.inr ⟨fun z => absurd z.2 (by assumption), rfl, by rw [hD34]; unfold up2; rw [va_id, va_id]⟩, rfl⟩
              | exact absurd (show D 6 13 = 0 by assumption) (by assumption)
              | exact absurd (show D 6 12 = 0 by assumption) (by assumption)) (by decide) (by decide) dX7_happens_63
        · refine pv_iconst (q := 59) (v := 1) C dX7_happens_58 rfl (by decide) ?_
          refine pv_goto (tgt := 63) C dX7_happens_59 (by decide) ?_ 
          exact pv_zret C (Or.inr rfl) (by
              first
              | exact ⟨Or.inl ⟨⟨hd.resolve_left (by assumption), by assumption⟩, rfl, by rw [hD34]; unfold up2; rw [va_id, va_id]⟩, rfl⟩
              | exact ⟨Or.inr ⟨fun z => absurd z.1 (by rw [show D 6 12 = 0 by assumption]; decide), rfl, by rw [hD34]; unfold up2; rw [va_id, va_id]⟩, rfl⟩
              | exact ⟨Or.inr ⟨fun z => absurd z.2 (by assumption), rfl, by rw [hD34]; unfold up2; rw [va_id, va_id]⟩, rfl⟩
              | exact absurd (show D 6 13 = 0 by assumption) (by assumption)
              | exact absurd (show D 6 12 = 0 by assumption) (by assumption)) (by decide) (by decide) dX7_happens_63
    · refine pv_iload_n (q := 23) C dX7_happens_22 rfl rfl rfl ?_
      refine pv_if_ne (q := 26) (tgt := 30) C dX7_happens_23 (by decide) rfl (fun _ => ?_) (fun h => absurd h (by decide)) 
      refine pv_aload_n (q := 31) C dX7_happens_30 rfl rfl rfl ?_ 
      refine pg_7_13 (q := 34) C k6 tw_1008 dX7_happens_31 rfl ?_ 
      refine pp_7_13 (q := 37) C k6 tw_1008 dX7_happens_34 rfl (fun D34 hD34 => ?_) 
      refine pv_aload_n (q := 38) C dX7_happens_37 rfl rfl rfl ?_ 
      refine pg_7_12 (q := 41) C k6 tw_1007 dX7_happens_38 rfl ?_ 
      rw [show D34 6 12 = D 6 12 by rw [hD34, up2_nk _ _ _ (by decide)]]
      refine pv_if_eq (q := 44) (tgt := 62) C dX7_happens_41 (by decide) rfl (fun c_41 => ?_) (fun c_41 => ?_) 
      · refine pv_iconst (q := 63) (v := 0) C dX7_happens_62 rfl (by decide) ?_
        exact pv_zret C (Or.inl rfl) (by
            first
            | exact ⟨Or.inl ⟨⟨hd.resolve_left (by assumption), by assumption⟩, rfl, by rw [hD34]; unfold up2; rw [va_id, va_id]⟩, rfl⟩
            | exact ⟨Or.inr ⟨fun z => absurd z.1 (by rw [show D 6 12 = 0 by assumption]; decide), rfl, by rw [hD34]; unfold up2; rw [va_id, va_id]⟩, rfl⟩
            | exact ⟨Or.inr ⟨fun z => absurd z.2 (by assumption), rfl, by rw [hD34]; unfold up2; rw [va_id, va_id]⟩, rfl⟩
            | exact absurd (show D 6 13 = 0 by assumption) (by assumption)
            | exact absurd (show D 6 12 = 0 by assumption) (by assumption)) (by decide) (by decide) dX7_happens_63
      · refine pv_aload_n (q := 45) C dX7_happens_44 rfl rfl rfl ?_
        refine pg_7_11 (q := 48) C k6 tw_1006 dX7_happens_45 rfl ?_ 
        rw [show D34 6 11 = 1 by rw [hD34, up2_nk _ _ _ (by decide)]; exact hg]
        refine pv_if_eq (q := 51) (tgt := 62) C dX7_happens_48 (by decide) rfl (fun h => absurd h (by decide)) (fun _ => ?_) 
        refine pv_aload_n (q := 52) C dX7_happens_51 rfl rfl rfl ?_ 
        refine pg_7_13 (q := 55) C k6 tw_1008 dX7_happens_52 rfl ?_ 
        rw [show D34 6 13 = D 6 13 by rw [hD34, up2_self]]
        refine pv_if_ne (q := 58) (tgt := 62) C dX7_happens_55 (by decide) rfl (fun c_55 => ?_) (fun c_55 => ?_) 
        · refine pv_iconst (q := 63) (v := 0) C dX7_happens_62 rfl (by decide) ?_
          exact pv_zret C (Or.inl rfl) (by
              first
              | exact ⟨Or.inl ⟨⟨hd.resolve_left (by assumption), by assumption⟩, rfl, by rw [hD34]; unfold up2; rw [va_id, va_id]⟩, rfl⟩
              | exact ⟨Or.inr ⟨fun z => absurd z.1 (by rw [show D 6 12 = 0 by assumption]; decide), rfl, by rw [hD34]; unfold up2; rw [va_id, va_id]⟩, rfl⟩
              | exact ⟨Or.inr ⟨fun z => absurd z.2 (by assumption), rfl, by rw [hD34]; unfold up2; rw [va_id, va_id]⟩, rfl⟩
              | exact absurd (show D 6 13 = 0 by assumption) (by assumption)
              | exact absurd (show D 6 12 = 0 by assumption) (by assumption)) (by decide) (by decide) dX7_happens_63
        · refine pv_iconst (q := 59) (v := 1) C dX7_happens_58 rfl (by decide) ?_
          refine pv_goto (tgt := 63) C dX7_happens_59 (by decide) ?_ 
          exact pv_zret C (Or.inr rfl) (by
              first
              | exact ⟨Or.inl ⟨⟨hd.resolve_left (by assumption), by assumption⟩, rfl, by rw [hD34]; unfold up2; rw [va_id, va_id]⟩, rfl⟩
              | exact ⟨Or.inr ⟨fun z => absurd z.1 (by rw [show D 6 12 = 0 by assumption]; decide), rfl, by rw [hD34]; unfold up2; rw [va_id, va_id]⟩, rfl⟩
              | exact ⟨Or.inr ⟨fun z => absurd z.2 (by assumption), rfl, by rw [hD34]; unfold up2; rw [va_id, va_id]⟩, rfl⟩
              | exact absurd (show D 6 13 = 0 by assumption) (by assumption)
              | exact absurd (show D 6 12 = 0 by assumption) (by assumption)) (by decide) (by decide) dX7_happens_63
set_option maxRecDepth 100000 in
set_option maxHeartbeats 4000000 in
theorem c_X7_happensZ (l : Launch) (X : XT) (D : DT) (P : PT) (hd : D 6 12 = 0 ∨ D 6 12 = 1) (hg : D 6 11 = 1) : CG l X yX7_happens (.code yX7_happens cX7_happens 2 (some .boolean) :: AW) ({ frames := 0, cells := 0, slots := 0, locals := 0 } : Room) [.ref (X.2.2 6), .int 0] (qI X (fun r D' P' => (((D 6 12 = 1 ∧ D 6 13 = 0) ∧ r = 0 ∧ D' = up2 D 6 13 1) ∨ (¬ (D 6 12 = 1 ∧ D 6 13 = 0) ∧ r = 0 ∧ D' = D)) ∧ P = P')) D P 0 0 := by
  refine cg_of (by decide +kernel) (Nat.le_of_ble_eq_true rfl) ?_
  intro K hKl hKR C
  refine PV_lv (lv' := [some (.ref (X.2.2 6)), some (.int 0)]) rfl ?_
  refine pv_aload_n (q := 1) C dX7_happens_0 rfl rfl rfl ?_ 
  refine pv_aload_n (q := 2) C dX7_happens_1 rfl rfl rfl ?_ 
  refine pg_7_12 (q := 5) C k6 tw_1007 dX7_happens_2 rfl ?_ 
  refine pv_if_eq (q := 8) (tgt := 30) C dX7_happens_5 (by decide) rfl (fun c_5 => ?_) (fun c_5 => ?_) 
  · refine pv_aload_n (q := 31) C dX7_happens_30 rfl rfl rfl ?_
    refine pg_7_13 (q := 34) C k6 tw_1008 dX7_happens_31 rfl ?_ 
    refine pp_7_13 (q := 37) C k6 tw_1008 dX7_happens_34 rfl (fun D34 hD34 => ?_) 
    refine pv_aload_n (q := 38) C dX7_happens_37 rfl rfl rfl ?_ 
    refine pg_7_12 (q := 41) C k6 tw_1007 dX7_happens_38 rfl ?_ 
    rw [show D34 6 12 = D 6 12 by rw [hD34, up2_nk _ _ _ (by decide)]]
    refine pv_if_eq (q := 44) (tgt := 62) C dX7_happens_41 (by decide) rfl (fun c_41 => ?_) (fun c_41 => ?_) 
    · refine pv_iconst (q := 63) (v := 0) C dX7_happens_62 rfl (by decide) ?_
      exact pv_zret C (Or.inl rfl) (by
          first
          | exact ⟨Or.inl ⟨⟨hd.resolve_left (by assumption), by assumption⟩, rfl, hD34⟩, rfl⟩
          | exact ⟨Or.inr ⟨fun z => absurd z.1 (by rw [show D 6 12 = 0 by assumption]; decide), rfl, by rw [hD34]; unfold up2; rw [va_id, va_id]⟩, rfl⟩
          | exact ⟨Or.inr ⟨fun z => absurd z.2 (by assumption), rfl, by rw [hD34]; unfold up2; rw [va_id, va_id]⟩, rfl⟩
          | exact absurd (show (1 : Int32) = 0 by assumption) (by decide)
          | exact absurd (show D 6 13 = 0 by assumption) (by assumption)
          | exact absurd (show D 6 12 = 0 by assumption) (by assumption)) (by decide) (by decide) dX7_happens_63
    · refine pv_aload_n (q := 45) C dX7_happens_44 rfl rfl rfl ?_
      refine pg_7_11 (q := 48) C k6 tw_1006 dX7_happens_45 rfl ?_ 
      rw [show D34 6 11 = 1 by rw [hD34, up2_nk _ _ _ (by decide)]; exact hg]
      refine pv_if_eq (q := 51) (tgt := 62) C dX7_happens_48 (by decide) rfl (fun h => absurd h (by decide)) (fun _ => ?_) 
      refine pv_aload_n (q := 52) C dX7_happens_51 rfl rfl rfl ?_ 
      refine pg_7_13 (q := 55) C k6 tw_1008 dX7_happens_52 rfl ?_ 
      rw [show D34 6 13 = _ from (congrFun (congrFun hD34 6) 13).trans (up2_self _ _ _ _)]
      refine pv_if_ne (q := 58) (tgt := 62) C dX7_happens_55 (by decide) rfl (fun c_55 => ?_) (fun c_55 => ?_) 
      · refine pv_iconst (q := 63) (v := 0) C dX7_happens_62 rfl (by decide) ?_
        exact pv_zret C (Or.inl rfl) (by
            first
            | exact ⟨Or.inl ⟨⟨hd.resolve_left (by assumption), by assumption⟩, rfl, hD34⟩, rfl⟩
            | exact ⟨Or.inr ⟨fun z => absurd z.1 (by rw [show D 6 12 = 0 by assumption]; decide), rfl, by rw [hD34]; unfold up2; rw [va_id, va_id]⟩, rfl⟩
            | exact ⟨Or.inr ⟨fun z => absurd z.2 (by assumption), rfl, by rw [hD34]; unfold up2; rw [va_id, va_id]⟩, rfl⟩
            | exact absurd (show (1 : Int32) = 0 by assumption) (by decide)
            | exact absurd (show D 6 13 = 0 by assumption) (by assumption)
            | exact absurd (show D 6 12 = 0 by assumption) (by assumption)) (by decide) (by decide) dX7_happens_63
      · refine pv_iconst (q := 59) (v := 1) C dX7_happens_58 rfl (by decide) ?_
        refine pv_goto (tgt := 63) C dX7_happens_59 (by decide) ?_ 
        exact pv_zret C (Or.inr rfl) (by
            first
            | exact ⟨Or.inl ⟨⟨hd.resolve_left (by assumption), by assumption⟩, rfl, hD34⟩, rfl⟩
            | exact ⟨Or.inr ⟨fun z => absurd z.1 (by rw [show D 6 12 = 0 by assumption]; decide), rfl, by rw [hD34]; unfold up2; rw [va_id, va_id]⟩, rfl⟩
            | exact ⟨Or.inr ⟨fun z => absurd z.2 (by assumption), rfl, by rw [hD34]; unfold up2; rw [va_id, va_id]⟩, rfl⟩
            | exact absurd (show (1 : Int32) = 0 by assumption) (by decide)
            | exact absurd (show D 6 13 = 0 by assumption) (by assumption)
            | exact absurd (show D 6 12 = 0 by assumption) (by assumption)) (by decide) (by decide) dX7_happens_63
  · refine pv_aload_n (q := 9) C dX7_happens_8 rfl rfl rfl ?_
    refine pg_7_11 (q := 12) C k6 tw_1006 dX7_happens_9 rfl ?_ 
    rw [hg]
    refine pv_if_eq (q := 15) (tgt := 30) C dX7_happens_12 (by decide) rfl (fun h => absurd h (by decide)) (fun _ => ?_) 
    refine pv_aload_n (q := 16) C dX7_happens_15 rfl rfl rfl ?_ 
    refine pg_7_13 (q := 19) C k6 tw_1008 dX7_happens_16 rfl ?_ 
    refine pv_if_ne (q := 22) (tgt := 30) C dX7_happens_19 (by decide) rfl (fun c_19 => ?_) (fun c_19 => ?_) 
    · refine pv_aload_n (q := 31) C dX7_happens_30 rfl rfl rfl ?_
      refine pg_7_13 (q := 34) C k6 tw_1008 dX7_happens_31 rfl ?_ 
      refine pp_7_13 (q := 37) C k6 tw_1008 dX7_happens_34 rfl (fun D34 hD34 => ?_) 
      refine pv_aload_n (q := 38) C dX7_happens_37 rfl rfl rfl ?_ 
      refine pg_7_12 (q := 41) C k6 tw_1007 dX7_happens_38 rfl ?_ 
      rw [show D34 6 12 = D 6 12 by rw [hD34, up2_nk _ _ _ (by decide)]]
      refine pv_if_eq (q := 44) (tgt := 62) C dX7_happens_41 (by decide) rfl (fun c_41 => ?_) (fun c_41 => ?_) 
      · refine pv_iconst (q := 63) (v := 0) C dX7_happens_62 rfl (by decide) ?_
        exact pv_zret C (Or.inl rfl) (by
            first
            | exact ⟨Or.inl ⟨⟨hd.resolve_left (by assumption), by assumption⟩, rfl, hD34⟩, rfl⟩
            | exact ⟨Or.inr ⟨fun z => absurd z.1 (by rw [show D 6 12 = 0 by assumption]; decide), rfl, by rw [hD34]; unfold up2; rw [va_id, va_id]⟩, rfl⟩
            | exact ⟨Or.inr ⟨fun z => absurd z.2 (by assumption), rfl, by rw [hD34]; unfold up2; rw [va_id, va_id]⟩, rfl⟩
            | exact absurd (show (1 : Int32) = 0 by assumption) (by decide)
            | exact absurd (show D 6 13 = 0 by assumption) (by assumption)
            | exact absurd (show D 6 12 = 0 by assumption) (by assumption)) (by decide) (by decide) dX7_happens_63
      · refine pv_aload_n (q := 45) C dX7_happens_44 rfl rfl rfl ?_
        refine pg_7_11 (q := 48) C k6 tw_1006 dX7_happens_45 rfl ?_ 
        rw [show D34 6 11 = 1 by rw [hD34, up2_nk _ _ _ (by decide)]; exact hg]
        refine pv_if_eq (q := 51) (tgt := 62) C dX7_happens_48 (by decide) rfl (fun h => absurd h (by decide)) (fun _ => ?_) 
        refine pv_aload_n (q := 52) C dX7_happens_51 rfl rfl rfl ?_ 
        refine pg_7_13 (q := 55) C k6 tw_1008 dX7_happens_52 rfl ?_ 
        rw [show D34 6 13 = _ from (congrFun (congrFun hD34 6) 13).trans (up2_self _ _ _ _)]
        refine pv_if_ne (q := 58) (tgt := 62) C dX7_happens_55 (by decide) rfl (fun c_55 => ?_) (fun c_55 => ?_) 
        · refine pv_iconst (q := 63) (v := 0) C dX7_happens_62 rfl (by decide) ?_
          exact pv_zret C (Or.inl rfl) (by
              first
              | exact ⟨Or.inl ⟨⟨hd.resolve_left (by assumption), by assumption⟩, rfl, hD34⟩, rfl⟩
              | exact ⟨Or.inr ⟨fun z => absurd z.1 (by rw [show D 6 12 = 0 by assumption]; decide), rfl, by rw [hD34]; unfold up2; rw [va_id, va_id]⟩, rfl⟩
              | exact ⟨Or.inr ⟨fun z => absurd z.2 (by assumption), rfl, by rw [hD34]; unfold up2; rw [va_id, va_id]⟩, rfl⟩
              | exact absurd (show (1 : Int32) = 0 by assumption) (by decide)
              | exact absurd (show D 6 13 = 0 by assumption) (by assumption)
              | exact absurd (show D 6 12 = 0 by assumption) (by assumption)) (by decide) (by decide) dX7_happens_63
        · refine pv_iconst (q := 59) (v := 1) C dX7_happens_58 rfl (by decide) ?_
          refine pv_goto (tgt := 63) C dX7_happens_59 (by decide) ?_ 
          exact pv_zret C (Or.inr rfl) (by
              first
              | exact ⟨Or.inl ⟨⟨hd.resolve_left (by assumption), by assumption⟩, rfl, hD34⟩, rfl⟩
              | exact ⟨Or.inr ⟨fun z => absurd z.1 (by rw [show D 6 12 = 0 by assumption]; decide), rfl, by rw [hD34]; unfold up2; rw [va_id, va_id]⟩, rfl⟩
              | exact ⟨Or.inr ⟨fun z => absurd z.2 (by assumption), rfl, by rw [hD34]; unfold up2; rw [va_id, va_id]⟩, rfl⟩
              | exact absurd (show (1 : Int32) = 0 by assumption) (by decide)
              | exact absurd (show D 6 13 = 0 by assumption) (by assumption)
              | exact absurd (show D 6 12 = 0 by assumption) (by assumption)) (by decide) (by decide) dX7_happens_63
    · refine pv_iload_n (q := 23) C dX7_happens_22 rfl rfl rfl ?_
      refine pv_if_ne (q := 26) (tgt := 30) C dX7_happens_23 (by decide) rfl (fun h => absurd h (by decide)) (fun _ => ?_) 
      refine pv_iconst (q := 27) (v := 1) C dX7_happens_26 rfl (by decide) ?_ 
      refine pv_goto (tgt := 34) C dX7_happens_27 (by decide) ?_ 
      refine pp_7_13 (q := 37) C k6 tw_1008 dX7_happens_34 rfl (fun D34 hD34 => ?_) 
      refine pv_aload_n (q := 38) C dX7_happens_37 rfl rfl rfl ?_ 
      refine pg_7_12 (q := 41) C k6 tw_1007 dX7_happens_38 rfl ?_ 
      rw [show D34 6 12 = D 6 12 by rw [hD34, up2_nk _ _ _ (by decide)]]
      refine pv_if_eq (q := 44) (tgt := 62) C dX7_happens_41 (by decide) rfl (fun c_41 => ?_) (fun c_41 => ?_) 
      · refine pv_iconst (q := 63) (v := 0) C dX7_happens_62 rfl (by decide) ?_
        exact pv_zret C (Or.inl rfl) (by
            first
            | exact ⟨Or.inl ⟨⟨hd.resolve_left (by assumption), by assumption⟩, rfl, hD34⟩, rfl⟩
            | exact ⟨Or.inr ⟨fun z => absurd z.1 (by rw [show D 6 12 = 0 by assumption]; decide), rfl, by rw [hD34]; unfold up2; rw [va_id, va_id]⟩, rfl⟩
            | exact ⟨Or.inr ⟨fun z => absurd z.2 (by assumption), rfl, by rw [hD34]; unfold up2; rw [va_id, va_id]⟩, rfl⟩
            | exact absurd (show (1 : Int32) = 0 by assumption) (by decide)
            | exact absurd (show D 6 13 = 0 by assumption) (by assumption)
            | exact absurd (show D 6 12 = 0 by assumption) (by assumption)) (by decide) (by decide) dX7_happens_63
      · refine pv_aload_n (q := 45) C dX7_happens_44 rfl rfl rfl ?_
        refine pg_7_11 (q := 48) C k6 tw_1006 dX7_happens_45 rfl ?_ 
        rw [show D34 6 11 = 1 by rw [hD34, up2_nk _ _ _ (by decide)]; exact hg]
        refine pv_if_eq (q := 51) (tgt := 62) C dX7_happens_48 (by decide) rfl (fun h => absurd h (by decide)) (fun _ => ?_) 
        refine pv_aload_n (q := 52) C dX7_happens_51 rfl rfl rfl ?_ 
        refine pg_7_13 (q := 55) C k6 tw_1008 dX7_happens_52 rfl ?_ 
        rw [show D34 6 13 = _ from (congrFun (congrFun hD34 6) 13).trans (up2_self _ _ _ _)]
        refine pv_if_ne (q := 58) (tgt := 62) C dX7_happens_55 (by decide) rfl (fun c_55 => ?_) (fun c_55 => ?_) 
        · refine pv_iconst (q := 63) (v := 0) C dX7_happens_62 rfl (by decide) ?_
          exact pv_zret C (Or.inl rfl) (by
              first
              | exact ⟨Or.inl ⟨⟨hd.resolve_left (by assumption), by assumption⟩, rfl, hD34⟩, rfl⟩
              | exact ⟨Or.inr ⟨fun z => absurd z.1 (by rw [show D 6 12 = 0 by assumption]; decide), rfl, by rw [hD34]; unfold up2; rw [va_id, va_id]⟩, rfl⟩
              | exact ⟨Or.inr ⟨fun z => absurd z.2 (by assumption), rfl, by rw [hD34]; unfold up2; rw [va_id, va_id]⟩, rfl⟩
              | exact absurd (show (1 : Int32) = 0 by assumption) (by decide)
              | exact absurd (show D 6 13 = 0 by assumption) (by assumption)
              | exact absurd (show D 6 12 = 0 by assumption) (by assumption)) (by decide) (by decide) dX7_happens_63
        · refine pv_iconst (q := 59) (v := 1) C dX7_happens_58 rfl (by decide) ?_
          refine pv_goto (tgt := 63) C dX7_happens_59 (by decide) ?_ 
          exact pv_zret C (Or.inr rfl) (by
              first
              | exact ⟨Or.inl ⟨⟨hd.resolve_left (by assumption), by assumption⟩, rfl, hD34⟩, rfl⟩
              | exact ⟨Or.inr ⟨fun z => absurd z.1 (by rw [show D 6 12 = 0 by assumption]; decide), rfl, by rw [hD34]; unfold up2; rw [va_id, va_id]⟩, rfl⟩
              | exact ⟨Or.inr ⟨fun z => absurd z.2 (by assumption), rfl, by rw [hD34]; unfold up2; rw [va_id, va_id]⟩, rfl⟩
              | exact absurd (show (1 : Int32) = 0 by assumption) (by decide)
              | exact absurd (show D 6 13 = 0 by assumption) (by assumption)
              | exact absurd (show D 6 12 = 0 by assumption) (by assumption)) (by decide) (by decide) dX7_happens_63
