set_option maxRecDepth 100000 in
set_option maxHeartbeats 4000000 in
theorem c_X7_in (l : Launch) (X : XT) (D : DT) (P : PT) (a b c : Int64) : CG l X yX7_in (.code yX7_in cX7_in 6 (some .boolean) :: AW) ({ frames := 0, cells := 0, slots := 0, locals := 0 } : Room) [.long a, .long b, .long c] (qI X (fun r D' P' => (((b ≤ a ∧ a ≤ c) ∧ r = 1) ∨ (¬ ((b ≤ a ∧ a ≤ c)) ∧ r = 0)) ∧ D = D' ∧ P = P')) D P 0 0 := by
  refine cg_of (by decide +kernel) (Nat.le_of_ble_eq_true rfl) ?_
  intro K hKl hKR C
  refine PV_lv (lv' := [some (.long a), none, some (.long b), none, some (.long c), none]) rfl ?_
  refine pv_lload_n (q := 1) C dX7_in_0 rfl rfl rfl ?_ 
  refine pv_lload_n (q := 2) C dX7_in_1 rfl rfl rfl ?_ 
  refine pv_lcmp (q := 3) C dX7_in_2 rfl ?_ 
  refine pv_if_lt (q := 6) (tgt := 17) C dX7_in_3 (by decide) rfl (fun c_3 => ?_) (fun c_3 => ?_) 
  · refine pv_iconst (q := 18) (v := 0) C dX7_in_17 rfl (by decide) ?_
    exact pv_zret C (Or.inl rfl) (⟨Or.inr ⟨fun q => absurd ((lg_cmp_lt _ _).mp c_3) (Int64.not_lt.mpr q.1), rfl⟩, rfl, rfl⟩) (by decide) (by decide) dX7_in_18
  · refine pv_lload_n (q := 7) C dX7_in_6 rfl rfl rfl ?_
    refine pv_lload (q := 9) C dX7_in_7 rfl rfl ?_ 
    refine pv_lcmp (q := 10) C dX7_in_9 rfl ?_ 
    refine pv_if_gt (q := 13) (tgt := 17) C dX7_in_10 (by decide) rfl (fun c_10 => ?_) (fun c_10 => ?_) 
    · refine pv_iconst (q := 18) (v := 0) C dX7_in_17 rfl (by decide) ?_
      exact pv_zret C (Or.inl rfl) (⟨Or.inr ⟨fun q => absurd ((lg_cmp_gt _ _).mp c_10) (Int64.not_lt.mpr q.2), rfl⟩, rfl, rfl⟩) (by decide) (by decide) dX7_in_18
    · refine pv_iconst (q := 14) (v := 1) C dX7_in_13 rfl (by decide) ?_
      refine pv_goto (tgt := 18) C dX7_in_14 (by decide) ?_ 
      exact pv_zret C (Or.inr rfl) (⟨Or.inl ⟨⟨Int64.not_lt.mp (fun z => c_3 ((lg_cmp_lt _ _).mpr z)), Int64.not_lt.mp (fun z => c_10 ((lg_cmp_gt _ _).mpr z))⟩, rfl⟩, rfl, rfl⟩) (by decide) (by decide) dX7_in_18
set_option maxRecDepth 100000 in
set_option maxHeartbeats 4000000 in
theorem c_X7_isPlace (l : Launch) (X : XT) (D : DT) (P : PT) (x : Int32) : CG l X yX7_isPlace (.code yX7_isPlace cX7_isPlace 1 (some .boolean) :: AW) ({ frames := 1, cells := 0, slots := 0, locals := 36 } : Room) [.int x] (qI X (fun r D' P' => ((rg x 0 15 ∧ r = 1) ∨ (¬ (rg x 0 15) ∧ r = 0)) ∧ D = D' ∧ P = P')) D P 0 0 := by
  refine cg_of (by decide +kernel) (Nat.le_of_ble_eq_true rfl) ?_
  intro K hKl hKR C
  refine PV_lv (lv' := [some (.int x)]) rfl ?_
  refine pv_iload_n (q := 1) C dX7_isPlace_0 rfl rfl rfl ?_ 
  refine pv_i2l (q := 2) C dX7_isPlace_1 rfl ?_ 
  refine pv_lconst (q := 3) (v := 0) C dX7_isPlace_2 rfl (by decide) ?_ 
  refine pv_ldc2 (q := 6) C dX7_isPlace_3 rfl tw_1052 ?_ 
  refine pv_callSi (q := 9) C hKl (c_X7_in l X D P _ _ _) tw_1053 mm_X7_in ⟨rfl, rfl⟩ (by rw [hKR]; exact ⟨Nat.le_of_ble_eq_true rfl, Nat.le_of_ble_eq_true rfl⟩) (by rw [hKR]; exact ⟨Nat.le_of_ble_eq_true rfl, Nat.le_of_ble_eq_true rfl⟩) rfl rfl rfl (Nat.le_of_ble_eq_true rfl) dX7_isPlace_6 rfl (fun r6 D6 P6 hp6 => ?_) 
  rcases hp6 with ⟨⟨hz6, rfl⟩ | ⟨hm6, rfl⟩, rfl, rfl⟩
  · have hy6 : rg x 0 15 := (rg_l (by decide) (by decide)).mpr hz6
    exact pv_zret C (Or.inr rfl) (⟨Or.inl ⟨hy6, rfl⟩, rfl, rfl⟩) (by decide) (by decide) dX7_isPlace_9
  · have hn6 : ¬ rg x 0 15 := fun q => hm6 ((rg_l (by decide) (by decide)).mp q)
    exact pv_zret C (Or.inl rfl) (⟨Or.inr ⟨hn6, rfl⟩, rfl, rfl⟩) (by decide) (by decide) dX7_isPlace_9
set_option maxRecDepth 100000 in
set_option maxHeartbeats 4000000 in
theorem c_X7_isGroup (l : Launch) (X : XT) (D : DT) (P : PT) (x : Int32) : CG l X yX7_isGroup (.code yX7_isGroup cX7_isGroup 1 (some .boolean) :: AW) ({ frames := 1, cells := 0, slots := 0, locals := 36 } : Room) [.int x] (qI X (fun r D' P' => ((rg x 0 3 ∧ r = 1) ∨ (¬ (rg x 0 3) ∧ r = 0)) ∧ D = D' ∧ P = P')) D P 0 0 := by
  refine cg_of (by decide +kernel) (Nat.le_of_ble_eq_true rfl) ?_
  intro K hKl hKR C
  refine PV_lv (lv' := [some (.int x)]) rfl ?_
  refine pv_iload_n (q := 1) C dX7_isGroup_0 rfl rfl rfl ?_ 
  refine pv_i2l (q := 2) C dX7_isGroup_1 rfl ?_ 
  refine pv_lconst (q := 3) (v := 0) C dX7_isGroup_2 rfl (by decide) ?_ 
  refine pv_ldc2 (q := 6) C dX7_isGroup_3 rfl tw_1059 ?_ 
  refine pv_callSi (q := 9) C hKl (c_X7_in l X D P _ _ _) tw_1053 mm_X7_in ⟨rfl, rfl⟩ (by rw [hKR]; exact ⟨Nat.le_of_ble_eq_true rfl, Nat.le_of_ble_eq_true rfl⟩) (by rw [hKR]; exact ⟨Nat.le_of_ble_eq_true rfl, Nat.le_of_ble_eq_true rfl⟩) rfl rfl rfl (Nat.le_of_ble_eq_true rfl) dX7_isGroup_6 rfl (fun r6 D6 P6 hp6 => ?_) 
  rcases hp6 with ⟨⟨hz6, rfl⟩ | ⟨hm6, rfl⟩, rfl, rfl⟩
  · have hy6 : rg x 0 3 := (rg_l (by decide) (by decide)).mpr hz6
    exact pv_zret C (Or.inr rfl) (⟨Or.inl ⟨hy6, rfl⟩, rfl, rfl⟩) (by decide) (by decide) dX7_isGroup_9
  · have hn6 : ¬ rg x 0 3 := fun q => hm6 ((rg_l (by decide) (by decide)).mp q)
    exact pv_zret C (Or.inl rfl) (⟨Or.inr ⟨hn6, rfl⟩, rfl, rfl⟩) (by decide) (by decide) dX7_isGroup_9
set_option maxRecDepth 100000 in
set_option maxHeartbeats 4000000 in
theorem c_X7_isView (l : Launch) (X : XT) (D : DT) (P : PT) (x : Int32) : CG l X yX7_isView (.code yX7_isView cX7_isView 1 (some .boolean) :: AW) ({ frames := 1, cells := 0, slots := 0, locals := 36 } : Room) [.int x] (qI X (fun r D' P' => ((rg x 0 2 ∧ r = 1) ∨ (¬ (rg x 0 2) ∧ r = 0)) ∧ D = D' ∧ P = P')) D P 0 0 := by
  refine cg_of (by decide +kernel) (Nat.le_of_ble_eq_true rfl) ?_
  intro K hKl hKR C
  refine PV_lv (lv' := [some (.int x)]) rfl ?_
  refine pv_iload_n (q := 1) C dX7_isView_0 rfl rfl rfl ?_ 
  refine pv_i2l (q := 2) C dX7_isView_1 rfl ?_ 
  refine pv_lconst (q := 3) (v := 0) C dX7_isView_2 rfl (by decide) ?_ 
  refine pv_ldc2 (q := 6) C dX7_isView_3 rfl tw_1147 ?_ 
  refine pv_callSi (q := 9) C hKl (c_X7_in l X D P _ _ _) tw_1053 mm_X7_in ⟨rfl, rfl⟩ (by rw [hKR]; exact ⟨Nat.le_of_ble_eq_true rfl, Nat.le_of_ble_eq_true rfl⟩) (by rw [hKR]; exact ⟨Nat.le_of_ble_eq_true rfl, Nat.le_of_ble_eq_true rfl⟩) rfl rfl rfl (Nat.le_of_ble_eq_true rfl) dX7_isView_6 rfl (fun r6 D6 P6 hp6 => ?_) 
  rcases hp6 with ⟨⟨hz6, rfl⟩ | ⟨hm6, rfl⟩, rfl, rfl⟩
  · have hy6 : rg x 0 2 := (rg_l (by decide) (by decide)).mpr hz6
    exact pv_zret C (Or.inr rfl) (⟨Or.inl ⟨hy6, rfl⟩, rfl, rfl⟩) (by decide) (by decide) dX7_isView_9
  · have hn6 : ¬ rg x 0 2 := fun q => hm6 ((rg_l (by decide) (by decide)).mp q)
    exact pv_zret C (Or.inl rfl) (⟨Or.inr ⟨hn6, rfl⟩, rfl, rfl⟩) (by decide) (by decide) dX7_isView_9
set_option maxRecDepth 100000 in
set_option maxHeartbeats 4000000 in
theorem c_X7_isAmount (l : Launch) (X : XT) (D : DT) (P : PT) (x : Int32) : CG l X yX7_isAmount (.code yX7_isAmount cX7_isAmount 1 (some .boolean) :: AW) ({ frames := 1, cells := 0, slots := 0, locals := 36 } : Room) [.int x] (qI X (fun r D' P' => ((rg x (-99) 99 ∧ r = 1) ∨ (¬ (rg x (-99) 99) ∧ r = 0)) ∧ D = D' ∧ P = P')) D P 0 0 := by
  refine cg_of (by decide +kernel) (Nat.le_of_ble_eq_true rfl) ?_
  intro K hKl hKR C
  refine PV_lv (lv' := [some (.int x)]) rfl ?_
  refine pv_iload_n (q := 1) C dX7_isAmount_0 rfl rfl rfl ?_ 
  refine pv_i2l (q := 2) C dX7_isAmount_1 rfl ?_ 
  refine pv_ldc2 (q := 5) C dX7_isAmount_2 rfl tw_1063 ?_ 
  refine pv_ldc2 (q := 8) C dX7_isAmount_5 rfl tw_1064 ?_ 
  refine pv_callSi (q := 11) C hKl (c_X7_in l X D P _ _ _) tw_1053 mm_X7_in ⟨rfl, rfl⟩ (by rw [hKR]; exact ⟨Nat.le_of_ble_eq_true rfl, Nat.le_of_ble_eq_true rfl⟩) (by rw [hKR]; exact ⟨Nat.le_of_ble_eq_true rfl, Nat.le_of_ble_eq_true rfl⟩) rfl rfl rfl (Nat.le_of_ble_eq_true rfl) dX7_isAmount_8 rfl (fun r8 D8 P8 hp8 => ?_) 
  rcases hp8 with ⟨⟨hz8, rfl⟩ | ⟨hm8, rfl⟩, rfl, rfl⟩
  · have hy8 : rg x (-99) 99 := (rg_l (by decide) (by decide)).mpr hz8
    exact pv_zret C (Or.inr rfl) (⟨Or.inl ⟨hy8, rfl⟩, rfl, rfl⟩) (by decide) (by decide) dX7_isAmount_11
  · have hn8 : ¬ rg x (-99) 99 := fun q => hm8 ((rg_l (by decide) (by decide)).mp q)
    exact pv_zret C (Or.inl rfl) (⟨Or.inr ⟨hn8, rfl⟩, rfl, rfl⟩) (by decide) (by decide) dX7_isAmount_11
set_option maxRecDepth 100000 in
set_option maxHeartbeats 4000000 in
theorem c_X7_refused (l : Launch) (X : XT) (D : DT) (P : PT) (x : Int32) (hx : ¬ x = 0) : CG l X yX7_refused (.code yX7_refused cX7_refused 2 (some .boolean) :: AW) ({ frames := 0, cells := 0, slots := 0, locals := 0 } : Room) [.ref (X.2.2 6), .int x] (qI X (fun r D' P' => r = 1 ∧ D' = up2 D 6 0 x ∧ P = P')) D P 0 0 := by
  refine cg_of (by decide +kernel) (Nat.le_of_ble_eq_true rfl) ?_
  intro K hKl hKR C
  refine PV_lv (lv' := [some (.ref (X.2.2 6)), some (.int x)]) rfl ?_
  refine pv_aload_n (q := 1) C dX7_refused_0 rfl rfl rfl ?_ 
  refine pv_iload_n (q := 2) C dX7_refused_1 rfl rfl rfl ?_ 
  refine pp_7_0 (q := 5) C k6 tw_995 dX7_refused_2 rfl (fun D2 hD2 => ?_) 
  refine pv_iload_n (q := 6) C dX7_refused_5 rfl rfl rfl ?_ 
  refine pv_if_eq (q := 9) (tgt := 13) C dX7_refused_6 (by decide) rfl (fun c_6 => absurd c_6 hx) (fun c_6 => ?_) 
  refine pv_iconst (q := 10) (v := 1) C dX7_refused_9 rfl (by decide) ?_ 
  refine pv_goto (tgt := 14) C dX7_refused_10 (by decide) ?_ 
  exact pv_zret C (Or.inr rfl) (⟨rfl, hD2, rfl⟩) (by decide) (by decide) dX7_refused_14
set_option maxRecDepth 100000 in
set_option maxHeartbeats 4000000 in
theorem c_X7_refused0 (l : Launch) (X : XT) (D : DT) (P : PT)  : CG l X yX7_refused (.code yX7_refused cX7_refused 2 (some .boolean) :: AW) ({ frames := 0, cells := 0, slots := 0, locals := 0 } : Room) [.ref (X.2.2 6), .int 0] (qI X (fun r D' P' => r = 0 ∧ D' = up2 D 6 0 0 ∧ P = P')) D P 0 0 := by
  refine cg_of (by decide +kernel) (Nat.le_of_ble_eq_true rfl) ?_
  intro K hKl hKR C
  refine PV_lv (lv' := [some (.ref (X.2.2 6)), some (.int 0)]) rfl ?_
  refine pv_aload_n (q := 1) C dX7_refused_0 rfl rfl rfl ?_ 
  refine pv_iload_n (q := 2) C dX7_refused_1 rfl rfl rfl ?_ 
  refine pp_7_0 (q := 5) C k6 tw_995 dX7_refused_2 rfl (fun D2 hD2 => ?_) 
  refine pv_iload_n (q := 6) C dX7_refused_5 rfl rfl rfl ?_ 
  refine pv_if_eq (q := 9) (tgt := 13) C dX7_refused_6 (by decide) rfl (fun _ => ?_) (fun h => absurd h (by decide)) 
  refine pv_iconst (q := 14) (v := 0) C dX7_refused_13 rfl (by decide) ?_ 
  exact pv_zret C (Or.inl rfl) (⟨rfl, hD2, rfl⟩) (by decide) (by decide) dX7_refused_14
set_option maxRecDepth 100000 in
set_option maxHeartbeats 4000000 in
theorem c_X7_thrown (l : Launch) (X : XT) (D : DT) (P : PT)  : CG l X yX7_thrown (.code yX7_thrown cX7_thrown 1 (some .int) :: AW) ({ frames := 0, cells := 0, slots := 0, locals := 0 } : Room) [.ref (X.2.2 6)] (qI X (fun r D' P' => r = D 6 0 ∧ D = D' ∧ P = P')) D P 0 0 := by
  refine cg_of (by decide +kernel) (Nat.le_of_ble_eq_true rfl) ?_
  intro K hKl hKR C
  refine PV_lv (lv' := [some (.ref (X.2.2 6))]) rfl ?_
  refine pv_aload_n (q := 1) C dX7_thrown_0 rfl rfl rfl ?_ 
  refine pg_7_0 (q := 4) C k6 tw_995 dX7_thrown_1 rfl ?_ 
  exact pv_iret C (⟨rfl, rfl, rfl⟩) (by decide) (by decide) dX7_thrown_4
set_option maxRecDepth 100000 in
set_option maxHeartbeats 4000000 in
theorem c_X7_base (l : Launch) (X : XT) (D : DT) (P : PT) (v : Nat) : CG l X yX7_base (.code yX7_base cX7_base 1 (some .int) :: AW) ({ frames := 0, cells := 0, slots := 0, locals := 0 } : Room) [.int (nI v)] (qI X (fun r D' P' => r = nI (32 + 38 * v) ∧ D = D' ∧ P = P')) D P 0 0 := by
  refine cg_of (by decide +kernel) (Nat.le_of_ble_eq_true rfl) ?_
  intro K hKl hKR C
  refine PV_lv (lv' := [some (.int (nI v))]) rfl ?_
  refine pv_bipush (q := 2) (v := 32) C dX7_base_0 rfl (by decide) ?_ 
  refine pv_bipush (q := 4) (v := 38) C dX7_base_2 rfl (by decide) ?_ 
  refine pv_iload_n (q := 5) C dX7_base_4 rfl rfl rfl ?_ 
  refine pv_imulN (q := 6) (a := 38) (b := v) C rfl rfl dX7_base_5 rfl ?_ 
  refine pv_iaddN (q := 7) (a := 32) (b := (38 * v)) C rfl rfl dX7_base_6 rfl ?_ 
  exact pv_iret C (⟨rfl, rfl, rfl⟩) (by decide) (by decide) dX7_base_7
set_option maxRecDepth 100000 in
set_option maxHeartbeats 4000000 in
theorem c_X7_vacant (l : Launch) (X : XT) (D : DT) (P : PT) (p : Nat) (hp : p < 16) : CG l X yX7_vacant (.code yX7_vacant cX7_vacant 2 (some .boolean) :: AW) ({ frames := 0, cells := 0, slots := 0, locals := 0 } : Room) [.ref (X.2.2 6), .int (nI p)] (qI X (fun r D' P' => ((D 7 p = 0 ∧ r = 1) ∨ (¬ (D 7 p = 0) ∧ r = 0)) ∧ D = D' ∧ P = P')) D P 0 0 := by
  refine cg_of (by decide +kernel) (Nat.le_of_ble_eq_true rfl) ?_
  intro K hKl hKR C
  refine PV_lv (lv' := [some (.ref (X.2.2 6)), some (.int (nI p))]) rfl ?_
  refine pv_aload_n (q := 1) C dX7_vacant_0 rfl rfl rfl ?_ 
  refine pg_7_1 (q := 4) C k6 tw_996 dX7_vacant_1 rfl (fun k1 => ?_) 
  refine pv_iload_n (q := 5) C dX7_vacant_4 rfl rfl rfl ?_ 
  refine pv_iald (q := 6) (j := p) C (iln_15 k1) rfl (by omega) dX7_vacant_5 rfl ?_ 
  refine pv_if_ne (q := 9) (tgt := 13) C dX7_vacant_6 (by decide) rfl (fun c_6 => ?_) (fun c_6 => ?_) 
  · refine pv_iconst (q := 14) (v := 0) C dX7_vacant_13 rfl (by decide) ?_
    exact pv_zret C (Or.inl rfl) (⟨Or.inr ⟨c_6, rfl⟩, rfl, rfl⟩) (by decide) (by decide) dX7_vacant_14
  · refine pv_iconst (q := 10) (v := 1) C dX7_vacant_9 rfl (by decide) ?_
    refine pv_goto (tgt := 14) C dX7_vacant_10 (by decide) ?_ 
    exact pv_zret C (Or.inr rfl) (⟨Or.inl ⟨c_6, rfl⟩, rfl, rfl⟩) (by decide) (by decide) dX7_vacant_14
set_option maxRecDepth 100000 in
set_option maxHeartbeats 4000000 in
theorem c_X7_taken (l : Launch) (X : XT) (D : DT) (P : PT)  : CG l X yX7_taken (.code yX7_taken cX7_taken 3 (some .int) :: AW) ({ frames := 1, cells := 0, slots := 0, locals := 36 } : Room) [.ref (X.2.2 6)] (qI X (fun r D' P' => r = nI (tk (D 7)) ∧ D = D' ∧ P = P')) D P 0 0 := by
  refine cg_of (by decide +kernel) (Nat.le_of_ble_eq_true rfl) ?_
  intro K hKl hKR C
  refine PV_lv (lv' := [some (.ref (X.2.2 6)), none, none]) rfl ?_
  refine pv_iconst (q := 1) (v := 0) C dX7_taken_0 rfl (by decide) ?_ 
  refine pv_istore_n (q := 2) C dX7_taken_1 rfl rfl (Nat.le_of_ble_eq_true rfl) rfl ?_ 
  refine pv_iconst (q := 3) (v := 0) C dX7_taken_2 rfl (by decide) ?_ 
  refine pv_istore_n (q := 4) C dX7_taken_3 rfl rfl (Nat.le_of_ble_eq_true rfl) rfl ?_ 
  have loop_4 : ∀ (nn : Nat) (i c : Nat), (17 ≤ i + nn) → i ≤ 16 → c = ct (fun p => decide (D 7 p ≠ 0)) i → PV K X (MK K X (qI X (fun r D' P' => r = nI (tk (D 7)) ∧ D = D' ∧ P = P')) 0 0) (0) (0) 4 [some (.ref (X.2.2 6)), some (.int (nI c)), some (.int (nI i))] [] D P := by
    intro nn
    induction nn with
    | zero =>
      intro i c hfuel hi hc
      exact absurd hfuel (by omega)
    | succ nn ih =>
      intro i c hfuel hi hc
      refine pv_iload_n (q := 5) C dX7_taken_4 rfl rfl rfl ?_ 
      refine pv_bipush (q := 7) (v := 16) C dX7_taken_5 rfl (by decide) ?_ 
      refine pv_icmp_geN (q := 10) (tgt := 32) (a := i) (b := 16) C rfl rfl (by omega) (by omega) dX7_taken_7 (by decide) rfl (fun c_7 => ?_) (fun c_7 => ?_) 
      · refine pv_iload_n (q := 33) C dX7_taken_32 rfl rfl rfl ?_
        exact pv_iret C (⟨by rw [hc, show i = 16 by omega]; rfl, rfl, rfl⟩) (by decide) (by decide) dX7_taken_33
      · refine pv_iload_n (q := 11) C dX7_taken_10 rfl rfl rfl ?_
        refine pv_aload_n (q := 12) C dX7_taken_11 rfl rfl rfl ?_ 
        refine pv_iload_n (q := 13) C dX7_taken_12 rfl rfl rfl ?_ 
        refine pv_callVi (q := 16) C hKl (c_X7_vacant l X D P _ (by omega)) tw_1065 k6 (by decide) rfl mm_X7_vacant ⟨rfl, rfl⟩ (by rw [hKR]; exact ⟨Nat.le_of_ble_eq_true rfl, Nat.le_of_ble_eq_true rfl⟩) (by rw [hKR]; exact ⟨Nat.le_of_ble_eq_true rfl, Nat.le_of_ble_eq_true rfl⟩) rfl rfl rfl (Nat.le_of_ble_eq_true rfl) dX7_taken_13 rfl (fun r13 D13 P13 hp13 => ?_) 
        rcases hp13 with ⟨⟨hy13, rfl⟩ | ⟨hn13, rfl⟩, rfl, rfl⟩
        · refine pv_if_eq (q := 19) (tgt := 23) C dX7_taken_16 (by decide) rfl (fun h => absurd h (by decide)) (fun _ => ?_)
          refine pv_iconst (q := 20) (v := 0) C dX7_taken_19 rfl (by decide) ?_ 
          refine pv_goto (tgt := 24) C dX7_taken_20 (by decide) ?_ 
          refine pv_iaddN (q := 25) (a := c) (b := 0) C rfl rfl dX7_taken_24 rfl ?_ 
          refine pv_istore_n (q := 26) C dX7_taken_25 rfl rfl (Nat.le_of_ble_eq_true rfl) rfl ?_ 
          refine pv_iinc (q := 29) (v := nI (i + 1)) C dX7_taken_26 rfl rfl (nI_add _ _) rfl ?_ 
          refine pv_goto (tgt := 4) C dX7_taken_29 (by decide) ?_ 
          exact ih (i + 1) (c + 0) (by omega) (by omega) (by rw [ct_s, if_neg (by simp [hy13]), hc])
        · refine pv_if_eq (q := 19) (tgt := 23) C dX7_taken_16 (by decide) rfl (fun _ => ?_) (fun h => absurd h (by decide))
          refine pv_iconst (q := 24) (v := 1) C dX7_taken_23 rfl (by decide) ?_ 
          refine pv_iaddN (q := 25) (a := c) (b := 1) C rfl rfl dX7_taken_24 rfl ?_ 
          refine pv_istore_n (q := 26) C dX7_taken_25 rfl rfl (Nat.le_of_ble_eq_true rfl) rfl ?_ 
          refine pv_iinc (q := 29) (v := nI (i + 1)) C dX7_taken_26 rfl rfl (nI_add _ _) rfl ?_ 
          refine pv_goto (tgt := 4) C dX7_taken_29 (by decide) ?_ 
          exact ih (i + 1) (c + 1) (by omega) (by omega) (by rw [ct_s, if_pos (by simp [hn13]), hc])
  exact loop_4 17 0 0 (by omega) (by omega) rfl
set_option maxRecDepth 100000 in
set_option maxHeartbeats 4000000 in
theorem c_X7_waits (l : Launch) (X : XT) (D : DT) (P : PT) (v : Nat) (hv : v < 3) : CG l X yX7_waits (.code yX7_waits cX7_waits 2 (some .int) :: AW) ({ frames := 1, cells := 0, slots := 0, locals := 36 } : Room) [.ref (X.2.2 6), .int (nI v)] (qI X (fun r D' P' => r = wt (D 7) v ∧ D = D' ∧ P = P')) D P 0 0 := by
  refine cg_of (by decide +kernel) (Nat.le_of_ble_eq_true rfl) ?_
  intro K hKl hKR C
  refine PV_lv (lv' := [some (.ref (X.2.2 6)), some (.int (nI v))]) rfl ?_
  refine pv_aload_n (q := 1) C dX7_waits_0 rfl rfl rfl ?_ 
  refine pg_7_1 (q := 4) C k6 tw_996 dX7_waits_1 rfl (fun k1 => ?_) 
  refine pv_sipush (q := 7) (v := 178) C dX7_waits_4 rfl (by decide) ?_ 
  refine pv_iald (q := 8) (j := 178) C (iln_15 k1) rfl (by decide) dX7_waits_7 rfl ?_ 
  refine pv_aload_n (q := 9) C dX7_waits_8 rfl rfl rfl ?_ 
  refine pg_7_1 (q := 12) C k6 tw_996 dX7_waits_9 rfl (fun k9 => ?_) 
  refine pv_iload_n (q := 13) C dX7_waits_12 rfl rfl rfl ?_ 
  refine pv_callSi (q := 16) C hKl (c_X7_base l X D P v) tw_1093 mm_X7_base ⟨rfl, rfl⟩ (by rw [hKR]; exact ⟨Nat.le_of_ble_eq_true rfl, Nat.le_of_ble_eq_true rfl⟩) (by rw [hKR]; exact ⟨Nat.le_of_ble_eq_true rfl, Nat.le_of_ble_eq_true rfl⟩) rfl rfl rfl (Nat.le_of_ble_eq_true rfl) dX7_waits_13 rfl (fun r13 D13 P13 hp13 => ?_) 
  obtain ⟨rfl, rfl, rfl⟩ := hp13
  refine pv_bipush (q := 18) (v := 37) C dX7_waits_16 rfl (by decide) ?_ 
  refine pv_iaddN (q := 19) (a := (32 + 38 * v)) (b := 37) C rfl rfl dX7_waits_18 rfl ?_ 
  refine pv_iald (q := 20) (j := ((32 + 38 * v) + 37)) C (iln_15 k9) rfl (by omega) dX7_waits_19 rfl ?_ 
  refine pv_isub (q := 21) C dX7_waits_20 rfl ?_ 
  exact pv_iret C (⟨rfl, rfl, rfl⟩) (by decide) (by decide) dX7_waits_21
set_option maxRecDepth 100000 in
set_option maxHeartbeats 4000000 in
theorem c_X7_naps (l : Launch) (X : XT) (D : DT) (P : PT) (v : Nat) (hv : v < 3) : CG l X yX7_naps (.code yX7_naps cX7_naps 2 (some .boolean) :: AW) ({ frames := 1, cells := 0, slots := 0, locals := 36 } : Room) [.ref (X.2.2 6), .int (nI v)] (qI X (fun r D' P' => ((D 7 (32 + 38 * v + 32) = 1 ∧ r = 1) ∨ (¬ (D 7 (32 + 38 * v + 32) = 1) ∧ r = 0)) ∧ D = D' ∧ P = P')) D P 0 0 := by
  refine cg_of (by decide +kernel) (Nat.le_of_ble_eq_true rfl) ?_
  intro K hKl hKR C
  refine PV_lv (lv' := [some (.ref (X.2.2 6)), some (.int (nI v))]) rfl ?_
  refine pv_aload_n (q := 1) C dX7_naps_0 rfl rfl rfl ?_ 
  refine pg_7_1 (q := 4) C k6 tw_996 dX7_naps_1 rfl (fun k1 => ?_) 
  refine pv_iload_n (q := 5) C dX7_naps_4 rfl rfl rfl ?_ 
  refine pv_callSi (q := 8) C hKl (c_X7_base l X D P v) tw_1093 mm_X7_base ⟨rfl, rfl⟩ (by rw [hKR]; exact ⟨Nat.le_of_ble_eq_true rfl, Nat.le_of_ble_eq_true rfl⟩) (by rw [hKR]; exact ⟨Nat.le_of_ble_eq_true rfl, Nat.le_of_ble_eq_true rfl⟩) rfl rfl rfl (Nat.le_of_ble_eq_true rfl) dX7_naps_5 rfl (fun r5 D5 P5 hp5 => ?_) 
  obtain ⟨rfl, rfl, rfl⟩ := hp5
  refine pv_bipush (q := 10) (v := 32) C dX7_naps_8 rfl (by decide) ?_ 
  refine pv_iaddN (q := 11) (a := (32 + 38 * v)) (b := 32) C rfl rfl dX7_naps_10 rfl ?_ 
  refine pv_iald (q := 12) (j := ((32 + 38 * v) + 32)) C (iln_15 k1) rfl (by omega) dX7_naps_11 rfl ?_ 
  refine pv_iconst (q := 13) (v := 1) C dX7_naps_12 rfl (by decide) ?_ 
  refine pv_icmp_ne (q := 16) (tgt := 20) C dX7_naps_13 (by decide) rfl (fun c_13 => ?_) (fun c_13 => ?_) 
  · refine pv_iconst (q := 21) (v := 0) C dX7_naps_20 rfl (by decide) ?_
    exact pv_zret C (Or.inl rfl) (⟨Or.inr ⟨c_13, rfl⟩, rfl, rfl⟩) (by decide) (by decide) dX7_naps_21
  · refine pv_iconst (q := 17) (v := 1) C dX7_naps_16 rfl (by decide) ?_
    refine pv_goto (tgt := 21) C dX7_naps_17 (by decide) ?_ 
    exact pv_zret C (Or.inr rfl) (⟨Or.inl ⟨c_13, rfl⟩, rfl, rfl⟩) (by decide) (by decide) dX7_naps_21
set_option maxRecDepth 100000 in
set_option maxHeartbeats 4000000 in
theorem c_X7_follow (l : Launch) (X : XT) (D : DT) (P : PT) (v : Nat) (hv : v < 3) : CG l X yX7_follow (.code yX7_follow cX7_follow 3 none :: AW) ({ frames := 1, cells := 0, slots := 0, locals := 36 } : Room) [.ref (X.2.2 6), .int (nI v)] (qV X (fun D' P' => D' = va_up D 7 (rowT (D 7) (one v 1)) ∧ P = P')) D P 0 0 := by
  refine cg_of (by decide +kernel) (Nat.le_of_ble_eq_true rfl) ?_
  intro K hKl hKR C
  refine PV_lv (lv' := [some (.ref (X.2.2 6)), some (.int (nI v)), none]) rfl ?_
  refine pv_iconst (q := 1) (v := 0) C dX7_follow_0 rfl (by decide) ?_ 
  refine pv_istore_n (q := 2) C dX7_follow_1 rfl rfl (Nat.le_of_ble_eq_true rfl) rfl ?_ 
  have loop_2 : ∀ (nn : Nat) (k : Nat) (g : Nat → Int32), (33 ≤ k + nn) → k ≤ 32 → (∀ j, g j = if 32 + 38 * v ≤ j ∧ j < 32 + 38 * v + k then D 7 (j - (32 + 38 * v)) else D 7 j) → PV K X (MK K X (qV X (fun D' P' => D' = va_up D 7 (rowT (D 7) (one v 1)) ∧ P = P')) 0 0) (0) (0) 2 [some (.ref (X.2.2 6)), some (.int (nI v)), some (.int (nI k))] [] (va_up D 7 g) P := by
    intro nn
    induction nn with
    | zero =>
      intro k g hfuel hk hg
      exact absurd hfuel (by omega)
    | succ nn ih =>
      intro k g hfuel hk hg
      refine pv_iload_n (q := 3) C dX7_follow_2 rfl rfl rfl ?_ 
      refine pv_bipush (q := 5) (v := 32) C dX7_follow_3 rfl (by decide) ?_ 
      refine pv_icmp_geN (q := 8) (tgt := 31) (a := k) (b := 32) C rfl rfl (by omega) (by omega) dX7_follow_5 (by decide) rfl (fun c_5 => ?_) (fun c_5 => ?_) 
      · refine pv_aload_n (q := 32) C dX7_follow_31 rfl rfl rfl ?_
        refine pg_7_1 (q := 35) C k6 tw_996 dX7_follow_32 rfl (fun k32 => ?_) 
        refine pv_iload_n (q := 36) C dX7_follow_35 rfl rfl rfl ?_ 
        refine pv_callSi (q := 39) C hKl (c_X7_base l X (va_up D 7 g) P v) tw_1093 mm_X7_base ⟨rfl, rfl⟩ (by rw [hKR]; exact ⟨Nat.le_of_ble_eq_true rfl, Nat.le_of_ble_eq_true rfl⟩) (by rw [hKR]; exact ⟨Nat.le_of_ble_eq_true rfl, Nat.le_of_ble_eq_true rfl⟩) rfl rfl rfl (Nat.le_of_ble_eq_true rfl) dX7_follow_36 rfl (fun r36 D36 P36 hp36 => ?_) 
        obtain ⟨rfl, rfl, rfl⟩ := hp36
        refine pv_bipush (q := 41) (v := 37) C dX7_follow_39 rfl (by decide) ?_ 
        refine pv_iaddN (q := 42) (a := (32 + 38 * v)) (b := 37) C rfl rfl dX7_follow_41 rfl ?_ 
        refine pv_aload_n (q := 43) C dX7_follow_42 rfl rfl rfl ?_ 
        refine pg_7_1 (q := 46) C k6 tw_996 dX7_follow_43 rfl (fun k43 => ?_) 
        refine pv_sipush (q := 49) (v := 178) C dX7_follow_46 rfl (by decide) ?_ 
        refine pv_iald (q := 50) (j := 178) C (iln_15 k43) rfl (by decide) dX7_follow_49 rfl ?_ 
        refine pv_iast (q := 51) (j := ((32 + 38 * v) + 37)) C (iln_15 k32) rfl (by omega) dX7_follow_50 rfl (fun D50 hD50 => ?_) 
        exact pv_vret C (by
            rw [show k = 32 by omega] at hg
            rw [hD50, up2_va, va_up_self, follow_eq hv hg]
            exact ⟨rfl, rfl⟩) (by decide) (by decide) dX7_follow_51
      · refine pv_aload_n (q := 9) C dX7_follow_8 rfl rfl rfl ?_
        refine pg_7_1 (q := 12) C k6 tw_996 dX7_follow_9 rfl (fun k9 => ?_) 
        refine pv_iload_n (q := 13) C dX7_follow_12 rfl rfl rfl ?_ 
        refine pv_callSi (q := 16) C hKl (c_X7_base l X (va_up D 7 g) P v) tw_1093 mm_X7_base ⟨rfl, rfl⟩ (by rw [hKR]; exact ⟨Nat.le_of_ble_eq_true rfl, Nat.le_of_ble_eq_true rfl⟩) (by rw [hKR]; exact ⟨Nat.le_of_ble_eq_true rfl, Nat.le_of_ble_eq_true rfl⟩) rfl rfl rfl (Nat.le_of_ble_eq_true rfl) dX7_follow_13 rfl (fun r13 D13 P13 hp13 => ?_) 
        obtain ⟨rfl, rfl, rfl⟩ := hp13
        refine pv_iload_n (q := 17) C dX7_follow_16 rfl rfl rfl ?_ 
        refine pv_iaddN (q := 18) (a := (32 + 38 * v)) (b := k) C rfl rfl dX7_follow_17 rfl ?_ 
        refine pv_aload_n (q := 19) C dX7_follow_18 rfl rfl rfl ?_ 
        refine pg_7_1 (q := 22) C k6 tw_996 dX7_follow_19 rfl (fun k19 => ?_) 
        refine pv_iload_n (q := 23) C dX7_follow_22 rfl rfl rfl ?_ 
        refine pv_iald (q := 24) (j := k) C (iln_15 k19) rfl (by omega) dX7_follow_23 rfl ?_ 
        refine pv_iast (q := 25) (j := ((32 + 38 * v) + k)) C (iln_15 k9) rfl (by omega) dX7_follow_24 rfl (fun D24 hD24 => ?_) 
        refine pv_iinc (q := 28) (v := nI (k + 1)) C dX7_follow_25 rfl rfl (nI_add _ _) rfl ?_ 
        refine pv_goto (tgt := 2) C dX7_follow_28 (by decide) ?_ 
        rw [up2_va] at hD24
        subst hD24
        exact ih (k + 1) _ (by omega) (by omega) (fun j => by
          by_cases e : j = 32 + 38 * v + k
          · subst e
            rw [va_up_self, va_up_self, hg, if_neg (by omega), if_pos (by omega), Nat.add_sub_cancel_left]
          · rw [va_up_ne _ _ e, hg]
            by_cases q : 32 + 38 * v ≤ j ∧ j < 32 + 38 * v + k
            · rw [if_pos q, if_pos (by omega)]
            · rw [if_neg q, if_neg (by omega)])
  refine PV_D (va_id D 7).symm ?_
  exact loop_2 33 0 (D 7) (by omega) (by omega) (fun j => by rw [if_neg (by omega)])
set_option maxRecDepth 100000 in
set_option maxHeartbeats 4000000 in
theorem c_X7_rouse (l : Launch) (X : XT) (D : DT) (P : PT) (v : Nat) (hv : v < 3) : CG l X yX7_rouse (.code yX7_rouse cX7_rouse 3 (some .int) :: AW) ({ frames := 2, cells := 0, slots := 0, locals := 72 } : Room) [.ref (X.2.2 6), .int (nI v)] (qI X (fun r D' P' => r = wt (D 7) v ∧ D' = va_up D 7 (m_wake (D 7) v) ∧ P = P')) D P 0 0 := by
  refine cg_of (by decide +kernel) (Nat.le_of_ble_eq_true rfl) ?_
  intro K hKl hKR C
  refine PV_lv (lv' := [some (.ref (X.2.2 6)), some (.int (nI v)), none]) rfl ?_
  refine pv_aload_n (q := 1) C dX7_rouse_0 rfl rfl rfl ?_ 
  refine pv_iload_n (q := 2) C dX7_rouse_1 rfl rfl rfl ?_ 
  refine pv_callVi (q := 5) C hKl (c_X7_waits l X D P _ (by omega)) tw_1100 k6 (by decide) rfl mm_X7_waits ⟨rfl, rfl⟩ (by rw [hKR]; exact ⟨Nat.le_of_ble_eq_true rfl, Nat.le_of_ble_eq_true rfl⟩) (by rw [hKR]; exact ⟨Nat.le_of_ble_eq_true rfl, Nat.le_of_ble_eq_true rfl⟩) rfl rfl rfl (Nat.le_of_ble_eq_true rfl) dX7_rouse_2 rfl (fun r2 D2 P2 hp2 => ?_) 
  obtain ⟨rfl, rfl, rfl⟩ := hp2
  refine pv_istore_n (q := 6) C dX7_rouse_5 rfl rfl (Nat.le_of_ble_eq_true rfl) rfl ?_ 
  refine pv_aload_n (q := 7) C dX7_rouse_6 rfl rfl rfl ?_ 
  refine pv_iload_n (q := 8) C dX7_rouse_7 rfl rfl rfl ?_ 
  refine pv_callVv (q := 11) C hKl (c_X7_follow l X D P _ (by omega)) tw_1096 k6 (by decide) rfl mm_X7_follow ⟨rfl, rfl⟩ (by rw [hKR]; exact ⟨Nat.le_of_ble_eq_true rfl, Nat.le_of_ble_eq_true rfl⟩) (by rw [hKR]; exact ⟨Nat.le_of_ble_eq_true rfl, Nat.le_of_ble_eq_true rfl⟩) rfl rfl rfl (Nat.le_of_ble_eq_true rfl) dX7_rouse_8 rfl (fun D8 P8 hp8 => ?_) 
  obtain ⟨hR8, rfl⟩ := hp8
  refine pv_aload_n (q := 12) C dX7_rouse_11 rfl rfl rfl ?_ 
  refine pg_7_1 (q := 15) C k6 tw_996 dX7_rouse_12 rfl (fun k12 => ?_) 
  refine pv_iload_n (q := 16) C dX7_rouse_15 rfl rfl rfl ?_ 
  refine pv_callSi (q := 19) C hKl (c_X7_base l X D8 P v) tw_1093 mm_X7_base ⟨rfl, rfl⟩ (by rw [hKR]; exact ⟨Nat.le_of_ble_eq_true rfl, Nat.le_of_ble_eq_true rfl⟩) (by rw [hKR]; exact ⟨Nat.le_of_ble_eq_true rfl, Nat.le_of_ble_eq_true rfl⟩) rfl rfl rfl (Nat.le_of_ble_eq_true rfl) dX7_rouse_16 rfl (fun r16 D16 P16 hp16 => ?_) 
  obtain ⟨rfl, rfl, rfl⟩ := hp16
  refine pv_bipush (q := 21) (v := 32) C dX7_rouse_19 rfl (by decide) ?_ 
  refine pv_iaddN (q := 22) (a := (32 + 38 * v)) (b := 32) C rfl rfl dX7_rouse_21 rfl ?_ 
  refine pv_iconst (q := 23) (v := 0) C dX7_rouse_22 rfl (by decide) ?_ 
  refine pv_iast (q := 24) (j := ((32 + 38 * v) + 32)) C (iln_15 k12) rfl (by omega) dX7_rouse_23 rfl (fun D23 hD23 => ?_) 
  refine pv_aload_n (q := 25) C dX7_rouse_24 rfl rfl rfl ?_ 
  refine pg_7_1 (q := 28) C k6 tw_996 dX7_rouse_25 rfl (fun k25 => ?_) 
  refine pv_iload_n (q := 29) C dX7_rouse_28 rfl rfl rfl ?_ 
  refine pv_callSi (q := 32) C hKl (c_X7_base l X D23 P v) tw_1093 mm_X7_base ⟨rfl, rfl⟩ (by rw [hKR]; exact ⟨Nat.le_of_ble_eq_true rfl, Nat.le_of_ble_eq_true rfl⟩) (by rw [hKR]; exact ⟨Nat.le_of_ble_eq_true rfl, Nat.le_of_ble_eq_true rfl⟩) rfl rfl rfl (Nat.le_of_ble_eq_true rfl) dX7_rouse_29 rfl (fun r29 D29 P29 hp29 => ?_) 
  obtain ⟨rfl, rfl, rfl⟩ := hp29
  refine pv_bipush (q := 34) (v := 33) C dX7_rouse_32 rfl (by decide) ?_ 
  refine pv_iaddN (q := 35) (a := (32 + 38 * v)) (b := 33) C rfl rfl dX7_rouse_34 rfl ?_ 
  refine pv_iconst (q := 36) (v := 0) C dX7_rouse_35 rfl (by decide) ?_ 
  refine pv_iast (q := 37) (j := ((32 + 38 * v) + 33)) C (iln_15 k25) rfl (by omega) dX7_rouse_36 rfl (fun D36 hD36 => ?_) 
  refine pv_aload_n (q := 38) C dX7_rouse_37 rfl rfl rfl ?_ 
  refine pg_7_1 (q := 41) C k6 tw_996 dX7_rouse_38 rfl (fun k38 => ?_) 
  refine pv_sipush (q := 44) (v := 180) C dX7_rouse_41 rfl (by decide) ?_ 
  refine pv_dup2 (q := 45) C dX7_rouse_44 rfl rfl rfl ?_ 
  refine pv_iald (q := 46) (j := 180) C (iln_15 k38) rfl (by decide) dX7_rouse_45 rfl ?_ 
  refine pv_iconst (q := 47) (v := 1) C dX7_rouse_46 rfl (by decide) ?_ 
  refine pv_iadd (q := 48) C dX7_rouse_47 rfl ?_ 
  refine pv_iast (q := 49) (j := 180) C (iln_15 k38) rfl (by decide) dX7_rouse_48 rfl (fun D48 hD48 => ?_) 
  refine pv_iload_n (q := 50) C dX7_rouse_49 rfl rfl rfl ?_ 
  exact pv_iret C (by
      refine ⟨rfl, ?_, rfl⟩
      rw [hD48, hD36, hD23, hR8, up2_va, up2_va, up2_va, va_up_self, ← rouse_eq hv]
      congr 2
      rw [va_up_ne _ _ (by omega), va_up_ne _ _ (by omega), rowT_out (by omega)]) (by decide) (by decide) dX7_rouse_50
set_option maxRecDepth 100000 in
set_option maxHeartbeats 4000000 in
theorem c_X7_rouseBehind (l : Launch) (X : XT) (D : DT) (P : PT) (hf : fl (D 7)) : CG l X yX7_rouseBehind (.code yX7_rouseBehind cX7_rouseBehind 3 none :: AW) ({ frames := 3, cells := 0, slots := 0, locals := 108 } : Room) [.ref (X.2.2 6)] (qV X (fun D' P' => D' = va_up D 7 (m_settle (D 7)) ∧ P = P')) D P 0 0 := by
  refine cg_of (by decide +kernel) (Nat.le_of_ble_eq_true rfl) ?_
  intro K hKl hKR C
  refine PV_lv (lv' := [some (.ref (X.2.2 6)), none, none]) rfl ?_
  refine pv_iconst (q := 1) (v := 0) C dX7_rouseBehind_0 rfl (by decide) ?_ 
  refine pv_istore_n (q := 2) C dX7_rouseBehind_1 rfl rfl (Nat.le_of_ble_eq_true rfl) rfl ?_ 
  have loop_2 : ∀ (nn : Nat) (v : Nat) (D1 : DT), (4 ≤ v + nn) → v ≤ 3 → D1 = va_up D 7 (sB (D 7) v) → PV K X (MK K X (qV X (fun D' P' => D' = va_up D 7 (m_settle (D 7)) ∧ P = P')) 0 0) (0) (0) 2 [some (.ref (X.2.2 6)), some (.int (nI v)), none] [] D1 P := by
    intro nn
    induction nn with
    | zero =>
      intro v D1 hfuel hv3 h1
      exact absurd hfuel (by omega)
    | succ nn ih =>
      intro v D1 hfuel hv3 h1
      refine pv_iload_n (q := 3) C dX7_rouseBehind_2 rfl rfl rfl ?_ 
      refine pv_iconst (q := 4) (v := 3) C dX7_rouseBehind_3 rfl (by decide) ?_ 
      refine pv_icmp_geN (q := 7) (tgt := 67) (a := v) (b := 3) C rfl rfl (by omega) (by omega) dX7_rouseBehind_4 (by decide) rfl (fun c_4 => ?_) (fun c_4 => ?_) 
      · exact pv_vret C (⟨by rw [h1, show v = 3 by omega, sB_3 hf], rfl⟩) (by decide) (by decide) dX7_rouseBehind_67
      · have h7 : D1 7 = sB (D 7) v := by rw [h1, va_up_self]
        have s32 : D1 7 (32 + 38 * v + 32) = D 7 (32 + 38 * v + 32) := by rw [h7]; exact (sB_at (by omega) (by omega)).resolve_right (by omega)
        have s35 : D1 7 (32 + 38 * v + 35) = D 7 (32 + 38 * v + 35) := by rw [h7]; exact (sB_at (by omega) (by omega)).resolve_right (by omega)
        have swt : wt (D1 7) v = wt (D 7) v := by unfold wt; rw [h7, sB_178, (sB_at (by omega) (by omega)).resolve_right (by omega)]
        refine pv_aload_n (q := 8) C dX7_rouseBehind_7 rfl rfl rfl ?_ 
        refine pv_iload_n (q := 9) C dX7_rouseBehind_8 rfl rfl rfl ?_ 
        refine pv_callVi (q := 12) C hKl (c_X7_naps l X D1 P _ (by omega)) tw_1089 k6 (by decide) rfl mm_X7_naps ⟨rfl, rfl⟩ (by rw [hKR]; exact ⟨Nat.le_of_ble_eq_true rfl, Nat.le_of_ble_eq_true rfl⟩) (by rw [hKR]; exact ⟨Nat.le_of_ble_eq_true rfl, Nat.le_of_ble_eq_true rfl⟩) rfl rfl rfl (Nat.le_of_ble_eq_true rfl) dX7_rouseBehind_9 rfl (fun r9 D9 P9 hp9 => ?_) 
        rcases hp9 with ⟨⟨hy9, rfl⟩ | ⟨hn9, rfl⟩, rfl, rfl⟩
        · refine pv_if_ne (q := 15) (tgt := 23) C dX7_rouseBehind_12 (by decide) rfl (fun _ => ?_) (fun h => absurd h (by decide))
          refine pv_aload_n (q := 24) C dX7_rouseBehind_23 rfl rfl rfl ?_ 
          refine pv_iload_n (q := 25) C dX7_rouseBehind_24 rfl rfl rfl ?_ 
          refine pv_callVi (q := 28) C hKl (c_X7_waits l X D1 P _ (by omega)) tw_1100 k6 (by decide) rfl mm_X7_waits ⟨rfl, rfl⟩ (by rw [hKR]; exact ⟨Nat.le_of_ble_eq_true rfl, Nat.le_of_ble_eq_true rfl⟩) (by rw [hKR]; exact ⟨Nat.le_of_ble_eq_true rfl, Nat.le_of_ble_eq_true rfl⟩) rfl rfl rfl (Nat.le_of_ble_eq_true rfl) dX7_rouseBehind_25 rfl (fun r25 D25 P25 hp25 => ?_) 
          obtain ⟨rfl, rfl, rfl⟩ := hp25
          refine pv_aload_n (q := 29) C dX7_rouseBehind_28 rfl rfl rfl ?_ 
          refine pg_7_1 (q := 32) C k6 tw_996 dX7_rouseBehind_29 rfl (fun k29 => ?_) 
          refine pv_iload_n (q := 33) C dX7_rouseBehind_32 rfl rfl rfl ?_ 
          refine pv_callSi (q := 36) C hKl (c_X7_base l X D1 P v) tw_1093 mm_X7_base ⟨rfl, rfl⟩ (by rw [hKR]; exact ⟨Nat.le_of_ble_eq_true rfl, Nat.le_of_ble_eq_true rfl⟩) (by rw [hKR]; exact ⟨Nat.le_of_ble_eq_true rfl, Nat.le_of_ble_eq_true rfl⟩) rfl rfl rfl (Nat.le_of_ble_eq_true rfl) dX7_rouseBehind_33 rfl (fun r33 D33 P33 hp33 => ?_) 
          obtain ⟨rfl, rfl, rfl⟩ := hp33
          refine pv_bipush (q := 38) (v := 35) C dX7_rouseBehind_36 rfl (by decide) ?_ 
          refine pv_iaddN (q := 39) (a := (32 + 38 * v)) (b := 35) C rfl rfl dX7_rouseBehind_38 rfl ?_ 
          refine pv_iald (q := 40) (j := ((32 + 38 * v) + 35)) C (iln_15 k29) rfl (by omega) dX7_rouseBehind_39 rfl ?_ 
          refine pv_icmp_le (q := 43) (tgt := 61) C dX7_rouseBehind_40 (by decide) rfl (fun c_40 => ?_) (fun c_40 => ?_) 
          · refine pv_iinc (q := 64) (v := nI (v + 1)) C dX7_rouseBehind_61 rfl rfl (nI_add _ _) rfl ?_
            refine pv_goto (tgt := 2) C dX7_rouseBehind_64 (by decide) ?_ 
            exact ih (v + 1) D1 (by omega) (by omega) (by rw [h1, sB_0 (by unfold mdB; rw [if_neg (fun z => z (s32.symm.trans hy9)), if_neg (Int32.not_lt.mpr (by rw [← s35, ← swt]; exact c_40))])])
          · refine pv_aload_n (q := 44) C dX7_rouseBehind_43 rfl rfl rfl ?_
            refine pv_iload_n (q := 45) C dX7_rouseBehind_44 rfl rfl rfl ?_ 
            refine pv_callVi (q := 48) C hKl (c_X7_rouse l X D1 P _ (by omega)) tw_1104 k6 (by decide) rfl mm_X7_rouse ⟨rfl, rfl⟩ (by rw [hKR]; exact ⟨Nat.le_of_ble_eq_true rfl, Nat.le_of_ble_eq_true rfl⟩) (by rw [hKR]; exact ⟨Nat.le_of_ble_eq_true rfl, Nat.le_of_ble_eq_true rfl⟩) rfl rfl rfl (Nat.le_of_ble_eq_true rfl) dX7_rouseBehind_45 rfl (fun r45 D45 P45 hp45 => ?_) 
            obtain ⟨rfl, hR45, rfl⟩ := hp45
            refine pv_istore_n (q := 49) C dX7_rouseBehind_48 rfl rfl (Nat.le_of_ble_eq_true rfl) rfl ?_ 
            refine pv_aload_n (q := 50) C dX7_rouseBehind_49 rfl rfl rfl ?_ 
            refine pg_7_1 (q := 53) C k6 tw_996 dX7_rouseBehind_50 rfl (fun k50 => ?_) 
            refine pv_sipush (q := 56) (v := 181) C dX7_rouseBehind_53 rfl (by decide) ?_ 
            refine pv_dup2 (q := 57) C dX7_rouseBehind_56 rfl rfl rfl ?_ 
            refine pv_iald (q := 58) (j := 181) C (iln_15 k50) rfl (by decide) dX7_rouseBehind_57 rfl ?_ 
            refine pv_iconst (q := 59) (v := 1) C dX7_rouseBehind_58 rfl (by decide) ?_ 
            refine pv_iadd (q := 60) C dX7_rouseBehind_59 rfl ?_ 
            refine pv_iast (q := 61) (j := 181) C (iln_15 k50) rfl (by decide) dX7_rouseBehind_60 rfl (fun D60 hD60 => ?_) 
            refine pv_iinc (q := 64) (v := nI (v + 1)) C dX7_rouseBehind_61 rfl rfl (nI_add _ _) rfl ?_ 
            refine pv_goto (tgt := 2) C dX7_rouseBehind_64 (by decide) ?_ 
            have e : D60 = va_up D 7 (plus (m_wake (sB (D 7) v) v) 181 1) := by
              rw [hD60, hR45, up2_va, va_up_self, h7, h1, va_up_up]
              rfl
            exact PV_le (ih (v + 1) D60 (by omega) (by omega) (by rw [e, sB_2 (by unfold mdB; rw [if_neg (fun z => z (s32.symm.trans hy9)), if_pos (by rw [← s35, ← swt]; exact Int32.not_le.mp c_40)])])) ⟨Or.inr rfl, Or.inr rfl, Or.inl rfl, trivial⟩
        · refine pv_if_ne (q := 15) (tgt := 23) C dX7_rouseBehind_12 (by decide) rfl (fun h => absurd h (by decide)) (fun _ => ?_)
          refine pv_aload_n (q := 16) C dX7_rouseBehind_15 rfl rfl rfl ?_ 
          refine pv_iload_n (q := 17) C dX7_rouseBehind_16 rfl rfl rfl ?_ 
          refine pv_callVv (q := 20) C hKl (c_X7_follow l X D1 P _ (by omega)) tw_1096 k6 (by decide) rfl mm_X7_follow ⟨rfl, rfl⟩ (by rw [hKR]; exact ⟨Nat.le_of_ble_eq_true rfl, Nat.le_of_ble_eq_true rfl⟩) (by rw [hKR]; exact ⟨Nat.le_of_ble_eq_true rfl, Nat.le_of_ble_eq_true rfl⟩) rfl rfl rfl (Nat.le_of_ble_eq_true rfl) dX7_rouseBehind_17 rfl (fun D17 P17 hp17 => ?_) 
          obtain ⟨hR17, rfl⟩ := hp17
          refine pv_goto (tgt := 61) C dX7_rouseBehind_20 (by decide) ?_ 
          refine pv_iinc (q := 64) (v := nI (v + 1)) C dX7_rouseBehind_61 rfl rfl (nI_add _ _) rfl ?_ 
          refine pv_goto (tgt := 2) C dX7_rouseBehind_64 (by decide) ?_ 
          exact ih (v + 1) D17 (by omega) (by omega) (by rw [hR17, h7, h1, va_up_up, sB_1 (by unfold mdB; rw [if_pos (fun z => hn9 (s32.trans z))])])
  exact loop_2 4 0 D (by omega) (by omega) (by rw [sB_z, va_id])
set_option maxRecDepth 100000 in
set_option maxHeartbeats 4000000 in
theorem c_X7_note (l : Launch) (X : XT) (D : DT) (P : PT) (a : Int32) (hd : dl (D 7) 0) : CG l X yX7_note (.code yX7_note cX7_note 2 none :: AW) ({ frames := 0, cells := 0, slots := 0, locals := 0 } : Room) [.ref (X.2.2 6), .int a] (qV X (fun D' P' => D' = va_up D 7 (m_nt (D 7) a) ∧ P = P')) D P 0 0 := by
  refine cg_of (by decide +kernel) (Nat.le_of_ble_eq_true rfl) ?_
  intro K hKl hKR C
  refine PV_lv (lv' := [some (.ref (X.2.2 6)), some (.int a)]) rfl ?_
  obtain ⟨wr, hwr, hw⟩ := hd
  refine pv_aload_n (q := 1) C dX7_note_0 rfl rfl rfl ?_ 
  refine pg_7_1 (q := 4) C k6 tw_996 dX7_note_1 rfl (fun k1 => ?_) 
  refine pv_sipush (q := 7) (v := 146) C dX7_note_4 rfl (by decide) ?_ 
  refine pv_aload_n (q := 8) C dX7_note_7 rfl rfl rfl ?_ 
  refine pg_7_1 (q := 11) C k6 tw_996 dX7_note_8 rfl (fun k8 => ?_) 
  refine pv_sipush (q := 14) (v := 178) C dX7_note_11 rfl (by decide) ?_ 
  refine pv_iald (q := 15) (j := 178) C (iln_15 k8) rfl (by decide) dX7_note_14 rfl ?_ 
  rw [hwr]
  refine pv_bipush (q := 17) (v := 32) C dX7_note_15 rfl (by decide) ?_ 
  refine pv_iremN (q := 18) (a := wr) (b := 32) C rfl rfl (by omega) (by decide) (by decide) dX7_note_17 rfl ?_ 
  refine pv_iaddN (q := 19) (a := 146) (b := (wr % 32)) C rfl rfl dX7_note_18 rfl ?_ 
  refine pv_iload_n (q := 20) C dX7_note_19 rfl rfl rfl ?_ 
  refine pv_iast (q := 21) (j := (146 + (wr % 32))) C (iln_15 k1) rfl (by omega) dX7_note_20 rfl (fun D20 hD20 => ?_) 
  refine pv_aload_n (q := 22) C dX7_note_21 rfl rfl rfl ?_ 
  refine pg_7_1 (q := 25) C k6 tw_996 dX7_note_22 rfl (fun k22 => ?_) 
  refine pv_sipush (q := 28) (v := 178) C dX7_note_25 rfl (by decide) ?_ 
  refine pv_dup2 (q := 29) C dX7_note_28 rfl rfl rfl ?_ 
  refine pv_iald (q := 30) (j := 178) C (iln_15 k22) rfl (by decide) dX7_note_29 rfl ?_ 
  refine pv_iconst (q := 31) (v := 1) C dX7_note_30 rfl (by decide) ?_ 
  refine pv_iadd (q := 32) C dX7_note_31 rfl ?_ 
  refine pv_iast (q := 33) (j := 178) C (iln_15 k22) rfl (by decide) dX7_note_32 rfl (fun D32 hD32 => ?_) 
  exact pv_vret C (by
      refine ⟨?_, rfl⟩
      unfold m_nt
      rw [hD32, hD20, up2_up2, up2_nk _ _ _ (by omega), hwr, nI_clamp (by omega)]) (by decide) (by decide) dX7_note_33
set_option maxRecDepth 100000 in
set_option maxHeartbeats 4000000 in
theorem c_X7_goInsert (l : Launch) (X : XT) (D : DT) (P : PT) (p : Nat) (hp : p < 16) (g a : Int32) (hf : fl (D 7)) (hd : dl (D 7) 1)  : CG l X yX7_goInsert (.code yX7_goInsert cX7_goInsert 4 (some .int) :: AW) ({ frames := 4, cells := 0, slots := 0, locals := 144 } : Room) [.ref (X.2.2 6), .int (nI p), .int g, .int a] (qI X (fun r D' P' => r = nI (tk (m_ins (D 7) p g a)) ∧ D' = va_up D 7 (m_ins (D 7) p g a) ∧ P = P')) D P 0 0 := by
  refine cg_of (by decide +kernel) (Nat.le_of_ble_eq_true rfl) ?_
  intro K hKl hKR C
  refine PV_lv (lv' := [some (.ref (X.2.2 6)), some (.int (nI p)), some (.int g), some (.int a)]) rfl ?_
  refine pv_aload_n (q := 1) C dX7_goInsert_0 rfl rfl rfl ?_ 
  refine pg_7_1 (q := 4) C k6 tw_996 dX7_goInsert_1 rfl (fun k1 => ?_) 
  refine pv_iload_n (q := 5) C dX7_goInsert_4 rfl rfl rfl ?_ 
  refine pv_iload_n (q := 6) C dX7_goInsert_5 rfl rfl rfl ?_ 
  refine pv_iconst (q := 7) (v := 1) C dX7_goInsert_6 rfl (by decide) ?_ 
  refine pv_iadd (q := 8) C dX7_goInsert_7 rfl ?_ 
  refine pv_iast (q := 9) (j := p) C (iln_15 k1) rfl (by omega) dX7_goInsert_8 rfl (fun D8 hD8 => ?_) 
  refine pv_aload_n (q := 10) C dX7_goInsert_9 rfl rfl rfl ?_ 
  refine pg_7_1 (q := 13) C k6 tw_996 dX7_goInsert_10 rfl (fun k10 => ?_) 
  refine pv_bipush (q := 15) (v := 16) C dX7_goInsert_13 rfl (by decide) ?_ 
  refine pv_iload_n (q := 16) C dX7_goInsert_15 rfl rfl rfl ?_ 
  refine pv_iaddN (q := 17) (a := 16) (b := p) C rfl rfl dX7_goInsert_16 rfl ?_ 
  refine pv_iload_n (q := 18) C dX7_goInsert_17 rfl rfl rfl ?_ 
  refine pv_iast (q := 19) (j := (16 + p)) C (iln_15 k10) rfl (by omega) dX7_goInsert_18 rfl (fun D18 hD18 => ?_) 
  have r18 : D18 7 = va_up (va_up (D 7) p (g + 1)) (16 + p) a := by rw [hD18, hD8, up2_row, up2_row]
  refine pv_aload_n (q := 20) C dX7_goInsert_19 rfl rfl rfl ?_ 
  refine pv_iload_n (q := 21) C dX7_goInsert_20 rfl rfl rfl ?_ 
  refine pv_callVv (q := 24) C hKl (c_X7_note l X D18 P _ (by rw [r18]; exact dl_up (dl_up (dl_le hd (by omega)) (by omega)) (by omega))) tw_1081 k6 (by decide) rfl mm_X7_note ⟨rfl, rfl⟩ (by rw [hKR]; exact ⟨Nat.le_of_ble_eq_true rfl, Nat.le_of_ble_eq_true rfl⟩) (by rw [hKR]; exact ⟨Nat.le_of_ble_eq_true rfl, Nat.le_of_ble_eq_true rfl⟩) rfl rfl rfl (Nat.le_of_ble_eq_true rfl) dX7_goInsert_21 rfl (fun D21 P21 hp21 => ?_) 
  obtain ⟨hR21, rfl⟩ := hp21
  have r21 : D21 7 = m_nt (va_up (va_up (D 7) p (g + 1)) (16 + p) a) a := by rw [hR21, va_up_self, r18]
  refine pv_aload_n (q := 25) C dX7_goInsert_24 rfl rfl rfl ?_ 
  refine pv_callVv (q := 28) C hKl (c_X7_rouseBehind l X D21 P (by rw [r21]; exact fl_nt (fl_up (fl_up hf (by omega)) (by omega)) (dl_up (dl_up hd (by omega)) (by omega)))) tw_1085 k6 (by decide) rfl mm_X7_rouseBehind ⟨rfl, rfl⟩ (by rw [hKR]; exact ⟨Nat.le_of_ble_eq_true rfl, Nat.le_of_ble_eq_true rfl⟩) (by rw [hKR]; exact ⟨Nat.le_of_ble_eq_true rfl, Nat.le_of_ble_eq_true rfl⟩) rfl rfl rfl (Nat.le_of_ble_eq_true rfl) dX7_goInsert_25 rfl (fun D25 P25 hp25 => ?_) 
  obtain ⟨hR25, rfl⟩ := hp25
  refine pv_aload_n (q := 29) C dX7_goInsert_28 rfl rfl rfl ?_ 
  refine pv_callVi (q := 32) C hKl (c_X7_taken l X D25 P ) tw_1108 k6 (by decide) rfl mm_X7_taken ⟨rfl, rfl⟩ (by rw [hKR]; exact ⟨Nat.le_of_ble_eq_true rfl, Nat.le_of_ble_eq_true rfl⟩) (by rw [hKR]; exact ⟨Nat.le_of_ble_eq_true rfl, Nat.le_of_ble_eq_true rfl⟩) rfl rfl rfl (Nat.le_of_ble_eq_true rfl) dX7_goInsert_29 rfl (fun r29 D29 P29 hp29 => ?_) 
  obtain ⟨rfl, rfl, rfl⟩ := hp29
  exact pv_iret C (by
      have e : D25 = va_up D 7 (m_ins (D 7) p g a) := by rw [hR25, r21, hR21, va_up_up, hD18, hD8, va_up2, va_up2]; rfl
      exact ⟨by rw [e, va_up_self], e, rfl⟩) (by decide) (by decide) dX7_goInsert_32
set_option maxRecDepth 100000 in
set_option maxHeartbeats 4000000 in
theorem c_X7_goChange (l : Launch) (X : XT) (D : DT) (P : PT) (p : Nat) (hp : p < 16) (a : Int32) (hf : fl (D 7)) (hd : dl (D 7) 2)  : CG l X yX7_goChange (.code yX7_goChange cX7_goChange 4 (some .int) :: AW) ({ frames := 4, cells := 0, slots := 0, locals := 144 } : Room) [.ref (X.2.2 6), .int (nI p), .int a] (qI X (fun r D' P' => r = D 7 (16 + p) ∧ D' = va_up D 7 (m_rep (D 7) p (D 7 p) a) ∧ P = P')) D P 0 0 := by
  refine cg_of (by decide +kernel) (Nat.le_of_ble_eq_true rfl) ?_
  intro K hKl hKR C
  refine PV_lv (lv' := [some (.ref (X.2.2 6)), some (.int (nI p)), some (.int a), none]) rfl ?_
  refine pv_aload_n (q := 1) C dX7_goChange_0 rfl rfl rfl ?_ 
  refine pg_7_1 (q := 4) C k6 tw_996 dX7_goChange_1 rfl (fun k1 => ?_) 
  refine pv_bipush (q := 6) (v := 16) C dX7_goChange_4 rfl (by decide) ?_ 
  refine pv_iload_n (q := 7) C dX7_goChange_6 rfl rfl rfl ?_ 
  refine pv_iaddN (q := 8) (a := 16) (b := p) C rfl rfl dX7_goChange_7 rfl ?_ 
  refine pv_iald (q := 9) (j := (16 + p)) C (iln_15 k1) rfl (by omega) dX7_goChange_8 rfl ?_ 
  refine pv_istore_n (q := 10) C dX7_goChange_9 rfl rfl (Nat.le_of_ble_eq_true rfl) rfl ?_ 
  refine pv_aload_n (q := 11) C dX7_goChange_10 rfl rfl rfl ?_ 
  refine pv_iload_n (q := 12) C dX7_goChange_11 rfl rfl rfl ?_ 
  refine pv_callVv (q := 15) C hKl (c_X7_note l X D P _ (dl_le hd (by omega))) tw_1081 k6 (by decide) rfl mm_X7_note ⟨rfl, rfl⟩ (by rw [hKR]; exact ⟨Nat.le_of_ble_eq_true rfl, Nat.le_of_ble_eq_true rfl⟩) (by rw [hKR]; exact ⟨Nat.le_of_ble_eq_true rfl, Nat.le_of_ble_eq_true rfl⟩) rfl rfl rfl (Nat.le_of_ble_eq_true rfl) dX7_goChange_12 rfl (fun D12 P12 hp12 => ?_) 
  obtain ⟨hR12, rfl⟩ := hp12
  have r12 : D12 7 = m_nt (D 7) (D 7 (16 + p)) := by rw [hR12, va_up_self]
  refine pv_aload_n (q := 16) C dX7_goChange_15 rfl rfl rfl ?_ 
  refine pg_7_1 (q := 19) C k6 tw_996 dX7_goChange_16 rfl (fun k16 => ?_) 
  refine pv_bipush (q := 21) (v := 16) C dX7_goChange_19 rfl (by decide) ?_ 
  refine pv_iload_n (q := 22) C dX7_goChange_21 rfl rfl rfl ?_ 
  refine pv_iaddN (q := 23) (a := 16) (b := p) C rfl rfl dX7_goChange_22 rfl ?_ 
  refine pv_iload_n (q := 24) C dX7_goChange_23 rfl rfl rfl ?_ 
  refine pv_iast (q := 25) (j := (16 + p)) C (iln_15 k16) rfl (by omega) dX7_goChange_24 rfl (fun D24 hD24 => ?_) 
  have r24 : D24 7 = va_up (va_up (m_nt (D 7) (D 7 (16 + p))) p (D 7 p)) (16 + p) a := by
    rw [hD24, up2_row, r12]
    congr 1
    have e : D 7 p = m_nt (D 7) (D 7 (16 + p)) p := (nt_lo (by obtain ⟨wr, q, _⟩ := hd; exact ⟨wr, q, by omega⟩) (by omega)).symm
    conv => rhs; arg 3; rw [e]
    rw [va_id]
  refine pv_aload_n (q := 26) C dX7_goChange_25 rfl rfl rfl ?_ 
  refine pv_iload_n (q := 27) C dX7_goChange_26 rfl rfl rfl ?_ 
  refine pv_callVv (q := 30) C hKl (c_X7_note l X D24 P _ (by rw [r24]; exact dl_up (dl_up (dl_nt (m := 0) (dl_le hd (by omega))) (by omega)) (by omega))) tw_1081 k6 (by decide) rfl mm_X7_note ⟨rfl, rfl⟩ (by rw [hKR]; exact ⟨Nat.le_of_ble_eq_true rfl, Nat.le_of_ble_eq_true rfl⟩) (by rw [hKR]; exact ⟨Nat.le_of_ble_eq_true rfl, Nat.le_of_ble_eq_true rfl⟩) rfl rfl rfl (Nat.le_of_ble_eq_true rfl) dX7_goChange_27 rfl (fun D27 P27 hp27 => ?_) 
  obtain ⟨hR27, rfl⟩ := hp27
  have r27 : D27 7 = m_nt (va_up (va_up (m_nt (D 7) (D 7 (16 + p))) p (D 7 p)) (16 + p) a) a := by rw [hR27, va_up_self, r24]
  refine pv_aload_n (q := 31) C dX7_goChange_30 rfl rfl rfl ?_ 
  refine pv_callVv (q := 34) C hKl (c_X7_rouseBehind l X D27 P (by rw [r27]; exact fl_nt (fl_up (fl_up (fl_nt hf hd) (by omega)) (by omega)) (dl_up (dl_up (dl_nt (m := 1) hd) (by omega)) (by omega)))) tw_1085 k6 (by decide) rfl mm_X7_rouseBehind ⟨rfl, rfl⟩ (by rw [hKR]; exact ⟨Nat.le_of_ble_eq_true rfl, Nat.le_of_ble_eq_true rfl⟩) (by rw [hKR]; exact ⟨Nat.le_of_ble_eq_true rfl, Nat.le_of_ble_eq_true rfl⟩) rfl rfl rfl (Nat.le_of_ble_eq_true rfl) dX7_goChange_31 rfl (fun D31 P31 hp31 => ?_) 
  obtain ⟨hR31, rfl⟩ := hp31
  refine pv_iload_n (q := 35) C dX7_goChange_34 rfl rfl rfl ?_ 
  exact pv_iret C (by
      refine ⟨rfl, ?_, rfl⟩
      rw [hR31, r27, hR27, va_up_up, hD24, va_up2, hR12, va_up_up]
      rfl) (by decide) (by decide) dX7_goChange_35
set_option maxRecDepth 100000 in
set_option maxHeartbeats 4000000 in
theorem c_X7_goRegroup (l : Launch) (X : XT) (D : DT) (P : PT) (p : Nat) (hp : p < 16) (g : Int32) (hf : fl (D 7)) (hd : dl (D 7) 2)  : CG l X yX7_goRegroup (.code yX7_goRegroup cX7_goRegroup 4 (some .int) :: AW) ({ frames := 4, cells := 0, slots := 0, locals := 144 } : Room) [.ref (X.2.2 6), .int (nI p), .int g] (qI X (fun r D' P' => r = D 7 p - 1 ∧ D' = va_up D 7 (m_rep (D 7) p (g + 1) (D 7 (16 + p))) ∧ P = P')) D P 0 0 := by
  refine cg_of (by decide +kernel) (Nat.le_of_ble_eq_true rfl) ?_
  intro K hKl hKR C
  refine PV_lv (lv' := [some (.ref (X.2.2 6)), some (.int (nI p)), some (.int g), none]) rfl ?_
  refine pv_aload_n (q := 1) C dX7_goRegroup_0 rfl rfl rfl ?_ 
  refine pg_7_1 (q := 4) C k6 tw_996 dX7_goRegroup_1 rfl (fun k1 => ?_) 
  refine pv_iload_n (q := 5) C dX7_goRegroup_4 rfl rfl rfl ?_ 
  refine pv_iald (q := 6) (j := p) C (iln_15 k1) rfl (by omega) dX7_goRegroup_5 rfl ?_ 
  refine pv_iconst (q := 7) (v := 1) C dX7_goRegroup_6 rfl (by decide) ?_ 
  refine pv_isub (q := 8) C dX7_goRegroup_7 rfl ?_ 
  refine pv_istore_n (q := 9) C dX7_goRegroup_8 rfl rfl (Nat.le_of_ble_eq_true rfl) rfl ?_ 
  refine pv_aload_n (q := 10) C dX7_goRegroup_9 rfl rfl rfl ?_ 
  refine pv_aload_n (q := 11) C dX7_goRegroup_10 rfl rfl rfl ?_ 
  refine pg_7_1 (q := 14) C k6 tw_996 dX7_goRegroup_11 rfl (fun k11 => ?_) 
  refine pv_bipush (q := 16) (v := 16) C dX7_goRegroup_14 rfl (by decide) ?_ 
  refine pv_iload_n (q := 17) C dX7_goRegroup_16 rfl rfl rfl ?_ 
  refine pv_iaddN (q := 18) (a := 16) (b := p) C rfl rfl dX7_goRegroup_17 rfl ?_ 
  refine pv_iald (q := 19) (j := (16 + p)) C (iln_15 k11) rfl (by omega) dX7_goRegroup_18 rfl ?_ 
  refine pv_callVv (q := 22) C hKl (c_X7_note l X D P _ (dl_le hd (by omega))) tw_1081 k6 (by decide) rfl mm_X7_note ⟨rfl, rfl⟩ (by rw [hKR]; exact ⟨Nat.le_of_ble_eq_true rfl, Nat.le_of_ble_eq_true rfl⟩) (by rw [hKR]; exact ⟨Nat.le_of_ble_eq_true rfl, Nat.le_of_ble_eq_true rfl⟩) rfl rfl rfl (Nat.le_of_ble_eq_true rfl) dX7_goRegroup_19 rfl (fun D19 P19 hp19 => ?_) 
  obtain ⟨hR19, rfl⟩ := hp19
  have r19 : D19 7 = m_nt (D 7) (D 7 (16 + p)) := by rw [hR19, va_up_self]
  refine pv_aload_n (q := 23) C dX7_goRegroup_22 rfl rfl rfl ?_ 
  refine pg_7_1 (q := 26) C k6 tw_996 dX7_goRegroup_23 rfl (fun k23 => ?_) 
  refine pv_iload_n (q := 27) C dX7_goRegroup_26 rfl rfl rfl ?_ 
  refine pv_iload_n (q := 28) C dX7_goRegroup_27 rfl rfl rfl ?_ 
  refine pv_iconst (q := 29) (v := 1) C dX7_goRegroup_28 rfl (by decide) ?_ 
  refine pv_iadd (q := 30) C dX7_goRegroup_29 rfl ?_ 
  refine pv_iast (q := 31) (j := p) C (iln_15 k23) rfl (by omega) dX7_goRegroup_30 rfl (fun D30 hD30 => ?_) 
  have r30 : D30 7 = va_up (va_up (m_nt (D 7) (D 7 (16 + p))) p (g + 1)) (16 + p) (D 7 (16 + p)) := by
    rw [hD30, up2_row, r19]
    have e : D 7 (16 + p) = va_up (m_nt (D 7) (D 7 (16 + p))) p (g + 1) (16 + p) := by rw [va_up_ne _ _ (by omega), nt_lo (by obtain ⟨wr, q, _⟩ := hd; exact ⟨wr, q, by omega⟩) (by omega)]
    conv => rhs; arg 3; rw [e]
    rw [va_id]
  have e40 : D30 7 (16 + p) = D 7 (16 + p) := by rw [r30, va_up_self]
  refine pv_aload_n (q := 32) C dX7_goRegroup_31 rfl rfl rfl ?_ 
  refine pv_aload_n (q := 33) C dX7_goRegroup_32 rfl rfl rfl ?_ 
  refine pg_7_1 (q := 36) C k6 tw_996 dX7_goRegroup_33 rfl (fun k33 => ?_) 
  refine pv_bipush (q := 38) (v := 16) C dX7_goRegroup_36 rfl (by decide) ?_ 
  refine pv_iload_n (q := 39) C dX7_goRegroup_38 rfl rfl rfl ?_ 
  refine pv_iaddN (q := 40) (a := 16) (b := p) C rfl rfl dX7_goRegroup_39 rfl ?_ 
  refine pv_iald (q := 41) (j := (16 + p)) C (iln_15 k33) rfl (by omega) dX7_goRegroup_40 rfl ?_ 
  refine pv_callVv (q := 44) C hKl (c_X7_note l X D30 P _ (by rw [r30]; exact dl_up (dl_up (dl_nt (m := 0) (dl_le hd (by omega))) (by omega)) (by omega))) tw_1081 k6 (by decide) rfl mm_X7_note ⟨rfl, rfl⟩ (by rw [hKR]; exact ⟨Nat.le_of_ble_eq_true rfl, Nat.le_of_ble_eq_true rfl⟩) (by rw [hKR]; exact ⟨Nat.le_of_ble_eq_true rfl, Nat.le_of_ble_eq_true rfl⟩) rfl rfl rfl (Nat.le_of_ble_eq_true rfl) dX7_goRegroup_41 rfl (fun D41 P41 hp41 => ?_) 
  obtain ⟨hR41, rfl⟩ := hp41
  have r41 : D41 7 = m_nt (va_up (va_up (m_nt (D 7) (D 7 (16 + p))) p (g + 1)) (16 + p) (D 7 (16 + p))) (D 7 (16 + p)) := by rw [hR41, va_up_self, r30, va_up_self]
  refine pv_aload_n (q := 45) C dX7_goRegroup_44 rfl rfl rfl ?_ 
  refine pv_callVv (q := 48) C hKl (c_X7_rouseBehind l X D41 P (by rw [r41]; exact fl_nt (fl_up (fl_up (fl_nt hf hd) (by omega)) (by omega)) (dl_up (dl_up (dl_nt (m := 1) hd) (by omega)) (by omega)))) tw_1085 k6 (by decide) rfl mm_X7_rouseBehind ⟨rfl, rfl⟩ (by rw [hKR]; exact ⟨Nat.le_of_ble_eq_true rfl, Nat.le_of_ble_eq_true rfl⟩) (by rw [hKR]; exact ⟨Nat.le_of_ble_eq_true rfl, Nat.le_of_ble_eq_true rfl⟩) rfl rfl rfl (Nat.le_of_ble_eq_true rfl) dX7_goRegroup_45 rfl (fun D45 P45 hp45 => ?_) 
  obtain ⟨hR45, rfl⟩ := hp45
  refine pv_iload_n (q := 49) C dX7_goRegroup_48 rfl rfl rfl ?_ 
  exact pv_iret C (by
      refine ⟨rfl, ?_, rfl⟩
      rw [hR45, r41, hR41, va_up_up, hD30, va_up2, hR19, va_up_up]
      rfl) (by decide) (by decide) dX7_goRegroup_49
set_option maxRecDepth 100000 in
set_option maxHeartbeats 4000000 in
theorem c_X7_goDelete (l : Launch) (X : XT) (D : DT) (P : PT) (p : Nat) (hp : p < 16) (hf : fl (D 7)) (hd : dl (D 7) 1)  : CG l X yX7_goDelete (.code yX7_goDelete cX7_goDelete 3 (some .int) :: AW) ({ frames := 4, cells := 0, slots := 0, locals := 144 } : Room) [.ref (X.2.2 6), .int (nI p)] (qI X (fun r D' P' => r = D 7 (16 + p) ∧ D' = va_up D 7 (m_del (D 7) p) ∧ P = P')) D P 0 0 := by
  refine cg_of (by decide +kernel) (Nat.le_of_ble_eq_true rfl) ?_
  intro K hKl hKR C
  refine PV_lv (lv' := [some (.ref (X.2.2 6)), some (.int (nI p)), none]) rfl ?_
  refine pv_aload_n (q := 1) C dX7_goDelete_0 rfl rfl rfl ?_ 
  refine pg_7_1 (q := 4) C k6 tw_996 dX7_goDelete_1 rfl (fun k1 => ?_) 
  refine pv_bipush (q := 6) (v := 16) C dX7_goDelete_4 rfl (by decide) ?_ 
  refine pv_iload_n (q := 7) C dX7_goDelete_6 rfl rfl rfl ?_ 
  refine pv_iaddN (q := 8) (a := 16) (b := p) C rfl rfl dX7_goDelete_7 rfl ?_ 
  refine pv_iald (q := 9) (j := (16 + p)) C (iln_15 k1) rfl (by omega) dX7_goDelete_8 rfl ?_ 
  refine pv_istore_n (q := 10) C dX7_goDelete_9 rfl rfl (Nat.le_of_ble_eq_true rfl) rfl ?_ 
  refine pv_aload_n (q := 11) C dX7_goDelete_10 rfl rfl rfl ?_ 
  refine pg_7_1 (q := 14) C k6 tw_996 dX7_goDelete_11 rfl (fun k11 => ?_) 
  refine pv_iload_n (q := 15) C dX7_goDelete_14 rfl rfl rfl ?_ 
  refine pv_iconst (q := 16) (v := 0) C dX7_goDelete_15 rfl (by decide) ?_ 
  refine pv_iast (q := 17) (j := p) C (iln_15 k11) rfl (by omega) dX7_goDelete_16 rfl (fun D16 hD16 => ?_) 
  refine pv_aload_n (q := 18) C dX7_goDelete_17 rfl rfl rfl ?_ 
  refine pg_7_1 (q := 21) C k6 tw_996 dX7_goDelete_18 rfl (fun k18 => ?_) 
  refine pv_bipush (q := 23) (v := 16) C dX7_goDelete_21 rfl (by decide) ?_ 
  refine pv_iload_n (q := 24) C dX7_goDelete_23 rfl rfl rfl ?_ 
  refine pv_iaddN (q := 25) (a := 16) (b := p) C rfl rfl dX7_goDelete_24 rfl ?_ 
  refine pv_iconst (q := 26) (v := 0) C dX7_goDelete_25 rfl (by decide) ?_ 
  refine pv_iast (q := 27) (j := (16 + p)) C (iln_15 k18) rfl (by omega) dX7_goDelete_26 rfl (fun D26 hD26 => ?_) 
  have r26 : D26 7 = va_up (va_up (D 7) p 0) (16 + p) 0 := by rw [hD26, hD16, up2_row, up2_row]
  refine pv_aload_n (q := 28) C dX7_goDelete_27 rfl rfl rfl ?_ 
  refine pv_iload_n (q := 29) C dX7_goDelete_28 rfl rfl rfl ?_ 
  refine pv_callVv (q := 32) C hKl (c_X7_note l X D26 P _ (by rw [r26]; exact dl_up (dl_up (dl_le hd (by omega)) (by omega)) (by omega))) tw_1081 k6 (by decide) rfl mm_X7_note ⟨rfl, rfl⟩ (by rw [hKR]; exact ⟨Nat.le_of_ble_eq_true rfl, Nat.le_of_ble_eq_true rfl⟩) (by rw [hKR]; exact ⟨Nat.le_of_ble_eq_true rfl, Nat.le_of_ble_eq_true rfl⟩) rfl rfl rfl (Nat.le_of_ble_eq_true rfl) dX7_goDelete_29 rfl (fun D29 P29 hp29 => ?_) 
  obtain ⟨hR29, rfl⟩ := hp29
  have r29 : D29 7 = m_nt (va_up (va_up (D 7) p 0) (16 + p) 0) (D 7 (16 + p)) := by rw [hR29, va_up_self, r26]
  refine pv_aload_n (q := 33) C dX7_goDelete_32 rfl rfl rfl ?_ 
  refine pv_callVv (q := 36) C hKl (c_X7_rouseBehind l X D29 P (by rw [r29]; exact fl_nt (fl_up (fl_up hf (by omega)) (by omega)) (dl_up (dl_up hd (by omega)) (by omega)))) tw_1085 k6 (by decide) rfl mm_X7_rouseBehind ⟨rfl, rfl⟩ (by rw [hKR]; exact ⟨Nat.le_of_ble_eq_true rfl, Nat.le_of_ble_eq_true rfl⟩) (by rw [hKR]; exact ⟨Nat.le_of_ble_eq_true rfl, Nat.le_of_ble_eq_true rfl⟩) rfl rfl rfl (Nat.le_of_ble_eq_true rfl) dX7_goDelete_33 rfl (fun D33 P33 hp33 => ?_) 
  obtain ⟨hR33, rfl⟩ := hp33
  refine pv_iload_n (q := 37) C dX7_goDelete_36 rfl rfl rfl ?_ 
  exact pv_iret C (by
      refine ⟨rfl, ?_, rfl⟩
      rw [hR33, r29, hR29, va_up_up, hD26, hD16, va_up2, va_up2]
      rfl) (by decide) (by decide) dX7_goDelete_37
set_option maxRecDepth 100000 in
set_option maxHeartbeats 4000000 in
theorem c_X7_goNap (l : Launch) (X : XT) (D : DT) (P : PT) (v : Nat) (hv : v < 3)  : CG l X yX7_goNap (.code yX7_goNap cX7_goNap 4 (some .int) :: AW) ({ frames := 2, cells := 0, slots := 0, locals := 72 } : Room) [.ref (X.2.2 6), .int (nI v)] (qI X (fun r D' P' => r = nI (nps (m_nap (D 7) v)) ∧ D' = va_up D 7 (m_nap (D 7) v) ∧ P = P')) D P 0 0 := by
  refine cg_of (by decide +kernel) (Nat.le_of_ble_eq_true rfl) ?_
  intro K hKl hKR C
  refine PV_lv (lv' := [some (.ref (X.2.2 6)), some (.int (nI v)), none, none]) rfl ?_
  refine pv_iconst (q := 1) (v := 0) C dX7_goNap_0 rfl (by decide) ?_ 
  refine pv_istore_n (q := 2) C dX7_goNap_1 rfl rfl (Nat.le_of_ble_eq_true rfl) rfl ?_ 
  refine pv_aload_n (q := 3) C dX7_goNap_2 rfl rfl rfl ?_ 
  refine pg_7_1 (q := 6) C k6 tw_996 dX7_goNap_3 rfl (fun k3 => ?_) 
  refine pv_iload_n (q := 7) C dX7_goNap_6 rfl rfl rfl ?_ 
  refine pv_callSi (q := 10) C hKl (c_X7_base l X D P v) tw_1093 mm_X7_base ⟨rfl, rfl⟩ (by rw [hKR]; exact ⟨Nat.le_of_ble_eq_true rfl, Nat.le_of_ble_eq_true rfl⟩) (by rw [hKR]; exact ⟨Nat.le_of_ble_eq_true rfl, Nat.le_of_ble_eq_true rfl⟩) rfl rfl rfl (Nat.le_of_ble_eq_true rfl) dX7_goNap_7 rfl (fun r7 D7 P7 hp7 => ?_) 
  obtain ⟨rfl, rfl, rfl⟩ := hp7
  refine pv_bipush (q := 12) (v := 32) C dX7_goNap_10 rfl (by decide) ?_ 
  refine pv_iaddN (q := 13) (a := (32 + 38 * v)) (b := 32) C rfl rfl dX7_goNap_12 rfl ?_ 
  refine pv_iconst (q := 14) (v := 1) C dX7_goNap_13 rfl (by decide) ?_ 
  refine pv_iast (q := 15) (j := ((32 + 38 * v) + 32)) C (iln_15 k3) rfl (by omega) dX7_goNap_14 rfl (fun D14 hD14 => ?_) 
  refine pv_aload_n (q := 16) C dX7_goNap_15 rfl rfl rfl ?_ 
  refine pg_7_1 (q := 19) C k6 tw_996 dX7_goNap_16 rfl (fun k16 => ?_) 
  refine pv_iload_n (q := 20) C dX7_goNap_19 rfl rfl rfl ?_ 
  refine pv_callSi (q := 23) C hKl (c_X7_base l X D14 P v) tw_1093 mm_X7_base ⟨rfl, rfl⟩ (by rw [hKR]; exact ⟨Nat.le_of_ble_eq_true rfl, Nat.le_of_ble_eq_true rfl⟩) (by rw [hKR]; exact ⟨Nat.le_of_ble_eq_true rfl, Nat.le_of_ble_eq_true rfl⟩) rfl rfl rfl (Nat.le_of_ble_eq_true rfl) dX7_goNap_20 rfl (fun r20 D20 P20 hp20 => ?_) 
  obtain ⟨rfl, rfl, rfl⟩ := hp20
  refine pv_bipush (q := 25) (v := 33) C dX7_goNap_23 rfl (by decide) ?_ 
  refine pv_iaddN (q := 26) (a := (32 + 38 * v)) (b := 33) C rfl rfl dX7_goNap_25 rfl ?_ 
  refine pv_iconst (q := 27) (v := 0) C dX7_goNap_26 rfl (by decide) ?_ 
  refine pv_iast (q := 28) (j := ((32 + 38 * v) + 33)) C (iln_15 k16) rfl (by omega) dX7_goNap_27 rfl (fun D27 hD27 => ?_) 
  refine pv_iconst (q := 29) (v := 0) C dX7_goNap_28 rfl (by decide) ?_ 
  refine pv_istore_n (q := 30) C dX7_goNap_29 rfl rfl (Nat.le_of_ble_eq_true rfl) rfl ?_ 
  have loop_30 : ∀ (nn : Nat) (i c : Nat), (4 ≤ i + nn) → i ≤ 3 → c = ct (fun u => decide (D27 7 (32 + 38 * u + 32) = 1)) i → PV K X (MK K X (qI X (fun r D' P' => r = nI (nps (m_nap (D 7) v)) ∧ D' = va_up D 7 (m_nap (D 7) v) ∧ P = P')) 0 0) (0) (0) 30 [some (.ref (X.2.2 6)), some (.int (nI v)), some (.int (nI c)), some (.int (nI i))] [] D27 P := by
    intro nn
    induction nn with
    | zero =>
      intro i c hfuel hi hc
      exact absurd hfuel (by omega)
    | succ nn ih =>
      intro i c hfuel hi hc
      refine pv_iload_n (q := 31) C dX7_goNap_30 rfl rfl rfl ?_ 
      refine pv_iconst (q := 32) (v := 3) C dX7_goNap_31 rfl (by decide) ?_ 
      refine pv_icmp_geN (q := 35) (tgt := 57) (a := i) (b := 3) C rfl rfl (by omega) (by omega) dX7_goNap_32 (by decide) rfl (fun c_32 => ?_) (fun c_32 => ?_) 
      · refine pv_iload_n (q := 58) C dX7_goNap_57 rfl rfl rfl ?_
        exact pv_iret C (by
            have e : D27 = va_up D 7 (m_nap (D 7) v) := by rw [hD27, hD14, up2_up2]; rfl
            refine ⟨?_, e, rfl⟩
            rw [hc, show i = 3 by omega, e, va_up_self]
            rfl) (by decide) (by decide) dX7_goNap_58
      · refine pv_iload_n (q := 36) C dX7_goNap_35 rfl rfl rfl ?_
        refine pv_aload_n (q := 37) C dX7_goNap_36 rfl rfl rfl ?_ 
        refine pv_iload_n (q := 38) C dX7_goNap_37 rfl rfl rfl ?_ 
        refine pv_callVi (q := 41) C hKl (c_X7_naps l X D27 P _ (by omega)) tw_1089 k6 (by decide) rfl mm_X7_naps ⟨rfl, rfl⟩ (by rw [hKR]; exact ⟨Nat.le_of_ble_eq_true rfl, Nat.le_of_ble_eq_true rfl⟩) (by rw [hKR]; exact ⟨Nat.le_of_ble_eq_true rfl, Nat.le_of_ble_eq_true rfl⟩) rfl rfl rfl (Nat.le_of_ble_eq_true rfl) dX7_goNap_38 rfl (fun r38 D38 P38 hp38 => ?_) 
        rcases hp38 with ⟨⟨hy38, rfl⟩ | ⟨hn38, rfl⟩, rfl, rfl⟩
        · refine pv_if_eq (q := 44) (tgt := 48) C dX7_goNap_41 (by decide) rfl (fun h => absurd h (by decide)) (fun _ => ?_)
          refine pv_iconst (q := 45) (v := 1) C dX7_goNap_44 rfl (by decide) ?_ 
          refine pv_goto (tgt := 49) C dX7_goNap_45 (by decide) ?_ 
          refine pv_iaddN (q := 50) (a := c) (b := 1) C rfl rfl dX7_goNap_49 rfl ?_ 
          refine pv_istore_n (q := 51) C dX7_goNap_50 rfl rfl (Nat.le_of_ble_eq_true rfl) rfl ?_ 
          refine pv_iinc (q := 54) (v := nI (i + 1)) C dX7_goNap_51 rfl rfl (nI_add _ _) rfl ?_ 
          refine pv_goto (tgt := 30) C dX7_goNap_54 (by decide) ?_ 
          exact ih (i + 1) (c + 1) (by omega) (by omega) (by rw [ct_s, if_pos (by simp [hy38]), hc])
        · refine pv_if_eq (q := 44) (tgt := 48) C dX7_goNap_41 (by decide) rfl (fun _ => ?_) (fun h => absurd h (by decide))
          refine pv_iconst (q := 49) (v := 0) C dX7_goNap_48 rfl (by decide) ?_ 
          refine pv_iaddN (q := 50) (a := c) (b := 0) C rfl rfl dX7_goNap_49 rfl ?_ 
          refine pv_istore_n (q := 51) C dX7_goNap_50 rfl rfl (Nat.le_of_ble_eq_true rfl) rfl ?_ 
          refine pv_iinc (q := 54) (v := nI (i + 1)) C dX7_goNap_51 rfl rfl (nI_add _ _) rfl ?_ 
          refine pv_goto (tgt := 30) C dX7_goNap_54 (by decide) ?_ 
          exact ih (i + 1) (c + 0) (by omega) (by omega) (by rw [ct_s, if_neg (by simp [hn38]), hc])
  exact loop_30 4 0 0 (by omega) (by omega) rfl
set_option maxRecDepth 100000 in
set_option maxHeartbeats 4000000 in
theorem c_X7_goRefresh (l : Launch) (X : XT) (D : DT) (P : PT) (v : Nat) (hv : v < 3)  : CG l X yX7_goRefresh (.code yX7_goRefresh cX7_goRefresh 3 (some .int) :: AW) ({ frames := 2, cells := 0, slots := 0, locals := 72 } : Room) [.ref (X.2.2 6), .int (nI v)] (qI X (fun r D' P' => r = wt (D 7) v ∧ D' = va_up D 7 (m_ref (D 7) v) ∧ P = P')) D P 0 0 := by
  refine cg_of (by decide +kernel) (Nat.le_of_ble_eq_true rfl) ?_
  intro K hKl hKR C
  refine PV_lv (lv' := [some (.ref (X.2.2 6)), some (.int (nI v)), none]) rfl ?_
  refine pv_aload_n (q := 1) C dX7_goRefresh_0 rfl rfl rfl ?_ 
  refine pv_iload_n (q := 2) C dX7_goRefresh_1 rfl rfl rfl ?_ 
  refine pv_callVi (q := 5) C hKl (c_X7_waits l X D P _ (by omega)) tw_1100 k6 (by decide) rfl mm_X7_waits ⟨rfl, rfl⟩ (by rw [hKR]; exact ⟨Nat.le_of_ble_eq_true rfl, Nat.le_of_ble_eq_true rfl⟩) (by rw [hKR]; exact ⟨Nat.le_of_ble_eq_true rfl, Nat.le_of_ble_eq_true rfl⟩) rfl rfl rfl (Nat.le_of_ble_eq_true rfl) dX7_goRefresh_2 rfl (fun r2 D2 P2 hp2 => ?_) 
  obtain ⟨rfl, rfl, rfl⟩ := hp2
  refine pv_istore_n (q := 6) C dX7_goRefresh_5 rfl rfl (Nat.le_of_ble_eq_true rfl) rfl ?_ 
  refine pv_aload_n (q := 7) C dX7_goRefresh_6 rfl rfl rfl ?_ 
  refine pv_iload_n (q := 8) C dX7_goRefresh_7 rfl rfl rfl ?_ 
  refine pv_callVv (q := 11) C hKl (c_X7_follow l X D P _ (by omega)) tw_1096 k6 (by decide) rfl mm_X7_follow ⟨rfl, rfl⟩ (by rw [hKR]; exact ⟨Nat.le_of_ble_eq_true rfl, Nat.le_of_ble_eq_true rfl⟩) (by rw [hKR]; exact ⟨Nat.le_of_ble_eq_true rfl, Nat.le_of_ble_eq_true rfl⟩) rfl rfl rfl (Nat.le_of_ble_eq_true rfl) dX7_goRefresh_8 rfl (fun D8 P8 hp8 => ?_) 
  obtain ⟨hR8, rfl⟩ := hp8
  refine pv_aload_n (q := 12) C dX7_goRefresh_11 rfl rfl rfl ?_ 
  refine pg_7_1 (q := 15) C k6 tw_996 dX7_goRefresh_12 rfl (fun k12 => ?_) 
  refine pv_sipush (q := 18) (v := 182) C dX7_goRefresh_15 rfl (by decide) ?_ 
  refine pv_dup2 (q := 19) C dX7_goRefresh_18 rfl rfl rfl ?_ 
  refine pv_iald (q := 20) (j := 182) C (iln_15 k12) rfl (by decide) dX7_goRefresh_19 rfl ?_ 
  refine pv_iconst (q := 21) (v := 1) C dX7_goRefresh_20 rfl (by decide) ?_ 
  refine pv_iadd (q := 22) C dX7_goRefresh_21 rfl ?_ 
  refine pv_iast (q := 23) (j := 182) C (iln_15 k12) rfl (by decide) dX7_goRefresh_22 rfl (fun D22 hD22 => ?_) 
  refine pv_iload_n (q := 24) C dX7_goRefresh_23 rfl rfl rfl ?_ 
  exact pv_iret C (by
      refine ⟨rfl, ?_, rfl⟩
      rw [hD22, hR8, up2_va, va_up_self]
      rfl) (by decide) (by decide) dX7_goRefresh_24
set_option maxRecDepth 100000 in
set_option maxHeartbeats 4000000 in
theorem c_X7_goPass (l : Launch) (X : XT) (D : DT) (P : PT) (t : Nat) (ht : t < 2 ^ 30) (hf : fl (D 7)) : CG l X yX7_goPass (.code yX7_goPass cX7_goPass 6 (some .int) :: AW) ({ frames := 3, cells := 0, slots := 0, locals := 108 } : Room) [.ref (X.2.2 6), .int (nI t)] (qI X (fun r D' P' => r = m_ticks (D 7) t 181 - D 7 181 ∧ D' = va_up D 7 (m_ticks (D 7) t) ∧ P = P')) D P 0 0 := by
  refine cg_of (by decide +kernel) (Nat.le_of_ble_eq_true rfl) ?_
  intro K hKl hKR C
  refine PV_lv (lv' := [some (.ref (X.2.2 6)), some (.int (nI t)), none, none, none, none]) rfl ?_
  refine pv_iconst (q := 1) (v := 0) C dX7_goPass_0 rfl (by decide) ?_ 
  refine pv_istore_n (q := 2) C dX7_goPass_1 rfl rfl (Nat.le_of_ble_eq_true rfl) rfl ?_ 
  refine pv_iconst (q := 3) (v := 0) C dX7_goPass_2 rfl (by decide) ?_ 
  refine pv_istore_n (q := 4) C dX7_goPass_3 rfl rfl (Nat.le_of_ble_eq_true rfl) rfl ?_ 
  have loop_4 : ∀ (nn : Nat) (k n : Nat) (D1 : DT), (t + 1 ≤ k + nn) → k ≤ t → n ≤ 3 * k → D1 = va_up D 7 (m_ticks (D 7) k) → nI n = m_ticks (D 7) k 181 - D 7 181 → PV K X (MK K X (qI X (fun r D' P' => r = m_ticks (D 7) t 181 - D 7 181 ∧ D' = va_up D 7 (m_ticks (D 7) t) ∧ P = P')) 0 0) (0) (0) 4 [some (.ref (X.2.2 6)), some (.int (nI t)), some (.int (nI n)), some (.int (nI k)), none, none] [] D1 P := by
    intro nn
    induction nn with
    | zero =>
      intro k n D1 hfuel hk hn h1 hc
      exact absurd hfuel (by omega)
    | succ nn ih =>
      intro k n D1 hfuel hk hn h1 hc
      have ihO := ih
      refine pv_iload_n (q := 5) C dX7_goPass_4 rfl rfl rfl ?_ 
      refine pv_iload_n (q := 6) C dX7_goPass_5 rfl rfl rfl ?_ 
      refine pv_icmp_geN (q := 9) (tgt := 133) (a := k) (b := t) C rfl rfl (by omega) (by omega) dX7_goPass_6 (by decide) rfl (fun c_6 => ?_) (fun c_6 => ?_) 
      · refine pv_iload_n (q := 134) C dX7_goPass_133 rfl rfl rfl ?_
        exact pv_iret C (by
            have e : k = t := by omega
            subst e
            exact ⟨hc, h1, rfl⟩) (by decide) (by decide) dX7_goPass_134
      · refine pv_iconst (q := 10) (v := 0) C dX7_goPass_9 rfl (by decide) ?_
        refine pv_istore (q := 12) C dX7_goPass_10 rfl (Nat.le_of_ble_eq_true rfl) rfl ?_ 
        have loop_12 : ∀ (nn : Nat) (v n2 : Nat) (D2 : DT), (4 ≤ v + nn) → v ≤ 3 → n2 ≤ 3 * k + v → D2 = va_up D 7 (m_ptv (m_ticks (D 7) k) v) → nI n2 = m_ptv (m_ticks (D 7) k) v 181 - D 7 181 → PV K X (MK K X (qI X (fun r D' P' => r = m_ticks (D 7) t 181 - D 7 181 ∧ D' = va_up D 7 (m_ticks (D 7) t) ∧ P = P')) 0 0) (0) (0) 12 [some (.ref (X.2.2 6)), some (.int (nI t)), some (.int (nI n2)), some (.int (nI k)), some (.int (nI v)), none] [] D2 P := by
          intro nn
          induction nn with
          | zero =>
            intro v n2 D2 hfuel hv3 hn2 h2 hc2
            exact absurd hfuel (by omega)
          | succ nn ih =>
            intro v n2 D2 hfuel hv3 hn2 h2 hc2
            refine pv_iload (q := 14) C dX7_goPass_12 rfl rfl ?_ 
            refine pv_iconst (q := 15) (v := 3) C dX7_goPass_14 rfl (by decide) ?_ 
            refine pv_icmp_geN (q := 18) (tgt := 115) (a := v) (b := 3) C rfl rfl (by omega) (by omega) dX7_goPass_15 (by decide) rfl (fun c_15 => ?_) (fun c_15 => ?_) 
            · refine pv_aload_n (q := 116) C dX7_goPass_115 rfl rfl rfl ?_
              refine pg_7_1 (q := 119) C k6 tw_996 dX7_goPass_116 rfl (fun k116 => ?_) 
              refine pv_sipush (q := 122) (v := 179) C dX7_goPass_119 rfl (by decide) ?_ 
              refine pv_dup2 (q := 123) C dX7_goPass_122 rfl rfl rfl ?_ 
              refine pv_iald (q := 124) (j := 179) C (iln_15 k116) rfl (by decide) dX7_goPass_123 rfl ?_ 
              refine pv_iconst (q := 125) (v := 1) C dX7_goPass_124 rfl (by decide) ?_ 
              refine pv_iadd (q := 126) C dX7_goPass_125 rfl ?_ 
              refine pv_iast (q := 127) (j := 179) C (iln_15 k116) rfl (by decide) dX7_goPass_126 rfl (fun D126 hD126 => ?_) 
              refine pv_iinc (q := 130) (v := nI (k + 1)) C dX7_goPass_127 rfl rfl (nI_add _ _) rfl ?_ 
              refine pv_goto (tgt := 4) C dX7_goPass_130 (by decide) ?_ 
              have e : D126 = va_up D 7 (m_ticks (D 7) (k + 1)) := by
                rw [hD126, h2, show v = 3 by omega, up2_va, va_up_self]
                rfl
              exact PV_le (ihO (k + 1) n2 D126 (by omega) (by omega) (by omega) e (by
                rw [hc2, show v = 3 by omega]
                show _ = m_tick (m_ticks (D 7) k) 181 - D 7 181
                unfold m_tick
                rw [plus_ne (by omega)])) ⟨Or.inr rfl, Or.inr rfl, Or.inr rfl, Or.inr rfl, Or.inl rfl, Or.inl rfl, trivial⟩
            · have r2 : D2 7 = m_ptv (m_ticks (D 7) k) v := by rw [h2, va_up_self]
              have hfl : fl (m_ptv (m_ticks (D 7) k) v) := fl_ptv' (fl_ticks hf k) v (by omega)
              refine pv_aload_n (q := 19) C dX7_goPass_18 rfl rfl rfl ?_ 
              refine pg_7_1 (q := 22) C k6 tw_996 dX7_goPass_19 rfl (fun k19 => ?_) 
              refine pv_iload (q := 24) C dX7_goPass_22 rfl rfl ?_ 
              refine pv_callSi (q := 27) C hKl (c_X7_base l X D2 P v) tw_1093 mm_X7_base ⟨rfl, rfl⟩ (by rw [hKR]; exact ⟨Nat.le_of_ble_eq_true rfl, Nat.le_of_ble_eq_true rfl⟩) (by rw [hKR]; exact ⟨Nat.le_of_ble_eq_true rfl, Nat.le_of_ble_eq_true rfl⟩) rfl rfl rfl (Nat.le_of_ble_eq_true rfl) dX7_goPass_24 rfl (fun r24 D24 P24 hp24 => ?_) 
              obtain ⟨rfl, rfl, rfl⟩ := hp24
              refine pv_bipush (q := 29) (v := 33) C dX7_goPass_27 rfl (by decide) ?_ 
              refine pv_iaddN (q := 30) (a := (32 + 38 * v)) (b := 33) C rfl rfl dX7_goPass_29 rfl ?_ 
              refine pv_dup2 (q := 31) C dX7_goPass_30 rfl rfl rfl ?_ 
              refine pv_iald (q := 32) (j := ((32 + 38 * v) + 33)) C (iln_15 k19) rfl (by omega) dX7_goPass_31 rfl ?_ 
              refine pv_aload_n (q := 33) C dX7_goPass_32 rfl rfl rfl ?_ 
              refine pv_iload (q := 35) C dX7_goPass_33 rfl rfl ?_ 
              refine pv_callVi (q := 38) C hKl (c_X7_naps l X D2 P _ (by omega)) tw_1089 k6 (by decide) rfl mm_X7_naps ⟨rfl, rfl⟩ (by rw [hKR]; exact ⟨Nat.le_of_ble_eq_true rfl, Nat.le_of_ble_eq_true rfl⟩) (by rw [hKR]; exact ⟨Nat.le_of_ble_eq_true rfl, Nat.le_of_ble_eq_true rfl⟩) rfl rfl rfl (Nat.le_of_ble_eq_true rfl) dX7_goPass_35 rfl (fun r35 D35 P35 hp35 => ?_) 
              rcases hp35 with ⟨⟨hy35, rfl⟩ | ⟨hn35, rfl⟩, rfl, rfl⟩
              · refine pv_if_eq (q := 41) (tgt := 45) C dX7_goPass_38 (by decide) rfl (fun h => absurd h (by decide)) (fun _ => ?_)
                refine pv_iconst (q := 42) (v := 1) C dX7_goPass_41 rfl (by decide) ?_ 
                refine pv_goto (tgt := 46) C dX7_goPass_42 (by decide) ?_ 
                refine pv_iadd (q := 47) C dX7_goPass_46 rfl ?_ 
                refine pv_iast (q := 48) (j := ((32 + 38 * v) + 33)) C (iln_15 k19) rfl (by omega) dX7_goPass_47 rfl (fun D47 hD47 => ?_) 
                refine pv_aload_n (q := 49) C dX7_goPass_48 rfl rfl rfl ?_ 
                refine pv_iload (q := 51) C dX7_goPass_49 rfl rfl ?_ 
                refine pv_callVi (q := 54) C hKl (c_X7_naps l X D47 P _ (by omega)) tw_1089 k6 (by decide) rfl mm_X7_naps ⟨rfl, rfl⟩ (by rw [hKR]; exact ⟨Nat.le_of_ble_eq_true rfl, Nat.le_of_ble_eq_true rfl⟩) (by rw [hKR]; exact ⟨Nat.le_of_ble_eq_true rfl, Nat.le_of_ble_eq_true rfl⟩) rfl rfl rfl (Nat.le_of_ble_eq_true rfl) dX7_goPass_51 rfl (fun r51 D51 P51 hp51 => ?_) 
                rcases hp51 with ⟨⟨hy51, rfl⟩ | ⟨hn51, rfl⟩, rfl, rfl⟩
                · have s32 : m_ptv (m_ticks (D 7) k) v (32 + 38 * v + 32) = 1 := by rw [← r2]; exact hy35
                  have e47 : D47 = va_up D 7 (plus (m_ptv (m_ticks (D 7) k) v) (32 + 38 * v + 33) 1) := by
                    rw [hD47]
                    unfold up2 plus
                    rw [r2, h2, va_up_up]
                  refine pv_if_eq (q := 57) (tgt := 109) C dX7_goPass_54 (by decide) rfl (fun h => absurd h (by decide)) (fun _ => ?_) 
                  refine pv_aload_n (q := 58) C dX7_goPass_57 rfl rfl rfl ?_ 
                  refine pg_7_1 (q := 61) C k6 tw_996 dX7_goPass_58 rfl (fun k58 => ?_) 
                  refine pv_iload (q := 63) C dX7_goPass_61 rfl rfl ?_ 
                  refine pv_callSi (q := 66) C hKl (c_X7_base l X D47 P v) tw_1093 mm_X7_base ⟨rfl, rfl⟩ (by rw [hKR]; exact ⟨Nat.le_of_ble_eq_true rfl, Nat.le_of_ble_eq_true rfl⟩) (by rw [hKR]; exact ⟨Nat.le_of_ble_eq_true rfl, Nat.le_of_ble_eq_true rfl⟩) rfl rfl rfl (Nat.le_of_ble_eq_true rfl) dX7_goPass_63 rfl (fun r63 D63 P63 hp63 => ?_) 
                  obtain ⟨rfl, rfl, rfl⟩ := hp63
                  refine pv_bipush (q := 68) (v := 33) C dX7_goPass_66 rfl (by decide) ?_ 
                  refine pv_iaddN (q := 69) (a := (32 + 38 * v)) (b := 33) C rfl rfl dX7_goPass_68 rfl ?_ 
                  refine pv_iald (q := 70) (j := ((32 + 38 * v) + 33)) C (iln_15 k58) rfl (by omega) dX7_goPass_69 rfl ?_ 
                  refine pv_aload_n (q := 71) C dX7_goPass_70 rfl rfl rfl ?_ 
                  refine pg_7_1 (q := 74) C k6 tw_996 dX7_goPass_71 rfl (fun k71 => ?_) 
                  refine pv_iload (q := 76) C dX7_goPass_74 rfl rfl ?_ 
                  refine pv_callSi (q := 79) C hKl (c_X7_base l X D47 P v) tw_1093 mm_X7_base ⟨rfl, rfl⟩ (by rw [hKR]; exact ⟨Nat.le_of_ble_eq_true rfl, Nat.le_of_ble_eq_true rfl⟩) (by rw [hKR]; exact ⟨Nat.le_of_ble_eq_true rfl, Nat.le_of_ble_eq_true rfl⟩) rfl rfl rfl (Nat.le_of_ble_eq_true rfl) dX7_goPass_76 rfl (fun r76 D76 P76 hp76 => ?_) 
                  obtain ⟨rfl, rfl, rfl⟩ := hp76
                  refine pv_bipush (q := 81) (v := 36) C dX7_goPass_79 rfl (by decide) ?_ 
                  refine pv_iaddN (q := 82) (a := (32 + 38 * v)) (b := 36) C rfl rfl dX7_goPass_81 rfl ?_ 
                  refine pv_iald (q := 83) (j := ((32 + 38 * v) + 36)) C (iln_15 k71) rfl (by omega) dX7_goPass_82 rfl ?_ 
                  refine pv_icmp_lt (q := 86) (tgt := 109) C dX7_goPass_83 (by decide) rfl (fun c_83 => ?_) (fun c_83 => ?_) 
                  · refine pv_iinc (q := 112) (v := nI (v + 1)) C dX7_goPass_109 rfl rfl (nI_add _ _) rfl ?_
                    refine pv_goto (tgt := 12) C dX7_goPass_112 (by decide) ?_ 
                    rw [e47, va_up_self, plus_at, plus_ne (by omega)] at c_83
                    have e1 : m_ptv (m_ticks (D 7) k) (v + 1) = plus (m_ptv (m_ticks (D 7) k) v) (32 + 38 * v + 33) 1 := by
                      show m_pt (m_ptv (m_ticks (D 7) k) v) v = _
                      unfold m_pt
                      rw [if_neg (by rw [s32]; decide), if_pos c_83]
                    exact ih (v + 1) n2 D47 (by omega) (by omega) (by omega) (by rw [e47, e1]) (by rw [e1, plus_ne (by omega)]; exact hc2)
                  · refine pv_aload_n (q := 87) C dX7_goPass_86 rfl rfl rfl ?_
                    refine pv_iload (q := 89) C dX7_goPass_87 rfl rfl ?_ 
                    refine pv_callVi (q := 92) C hKl (c_X7_rouse l X D47 P _ (by omega)) tw_1104 k6 (by decide) rfl mm_X7_rouse ⟨rfl, rfl⟩ (by rw [hKR]; exact ⟨Nat.le_of_ble_eq_true rfl, Nat.le_of_ble_eq_true rfl⟩) (by rw [hKR]; exact ⟨Nat.le_of_ble_eq_true rfl, Nat.le_of_ble_eq_true rfl⟩) rfl rfl rfl (Nat.le_of_ble_eq_true rfl) dX7_goPass_89 rfl (fun r89 D89 P89 hp89 => ?_) 
                    obtain ⟨rfl, hR89, rfl⟩ := hp89
                    refine pv_istore (q := 94) C dX7_goPass_92 rfl (Nat.le_of_ble_eq_true rfl) rfl ?_ 
                    refine pv_aload_n (q := 95) C dX7_goPass_94 rfl rfl rfl ?_ 
                    refine pg_7_1 (q := 98) C k6 tw_996 dX7_goPass_95 rfl (fun k95 => ?_) 
                    refine pv_sipush (q := 101) (v := 181) C dX7_goPass_98 rfl (by decide) ?_ 
                    refine pv_dup2 (q := 102) C dX7_goPass_101 rfl rfl rfl ?_ 
                    refine pv_iald (q := 103) (j := 181) C (iln_15 k95) rfl (by decide) dX7_goPass_102 rfl ?_ 
                    refine pv_iconst (q := 104) (v := 1) C dX7_goPass_103 rfl (by decide) ?_ 
                    refine pv_iadd (q := 105) C dX7_goPass_104 rfl ?_ 
                    refine pv_iast (q := 106) (j := 181) C (iln_15 k95) rfl (by decide) dX7_goPass_105 rfl (fun D105 hD105 => ?_) 
                    refine pv_iinc (q := 109) (v := nI (n2 + 1)) C dX7_goPass_106 rfl rfl (nI_add _ _) rfl ?_ 
                    refine pv_iinc (q := 112) (v := nI (v + 1)) C dX7_goPass_109 rfl rfl (nI_add _ _) rfl ?_ 
                    refine pv_goto (tgt := 12) C dX7_goPass_112 (by decide) ?_ 
                    rw [e47, va_up_self, plus_at, plus_ne (by omega)] at c_83
                    have e2 : m_ptv (m_ticks (D 7) k) (v + 1) = plus (m_wake (plus (m_ptv (m_ticks (D 7) k) v) (32 + 38 * v + 33) 1) v) 181 1 := by
                      show m_pt (m_ptv (m_ticks (D 7) k) v) v = _
                      unfold m_pt
                      rw [if_neg (by rw [s32]; decide), if_neg c_83]
                    exact PV_le (ih (v + 1) (n2 + 1) D105 (by omega) (by omega) (by omega) (by
                      rw [hD105, hR89, up2_va, va_up_self, e47, va_up_self, va_up_up, e2]
                      rfl) (by
                      rw [e2, plus_at]
                      unfold m_wake
                      rw [plus_ne (by omega), rowT_out (by omega), plus_ne (by omega), ← nI_1, hc2, sub_add1])) ⟨Or.inr rfl, Or.inr rfl, Or.inr rfl, Or.inr rfl, Or.inr rfl, Or.inl rfl, trivial⟩
                · have s32 : m_ptv (m_ticks (D 7) k) v (32 + 38 * v + 32) = 1 := by rw [← r2]; exact hy35
                  have e47 : D47 = va_up D 7 (plus (m_ptv (m_ticks (D 7) k) v) (32 + 38 * v + 33) 1) := by
                    rw [hD47]
                    unfold up2 plus
                    rw [r2, h2, va_up_up]
                  refine pv_if_eq (q := 57) (tgt := 109) C dX7_goPass_54 (by decide) rfl (fun _ => ?_) (fun h => absurd h (by decide)) 
                  refine pv_iinc (q := 112) (v := nI (v + 1)) C dX7_goPass_109 rfl rfl (nI_add _ _) rfl ?_ 
                  refine pv_goto (tgt := 12) C dX7_goPass_112 (by decide) ?_ 
                  exfalso
                  exact hn51 (by rw [e47, va_up_self, plus_ne (by omega)]; exact s32)
              · refine pv_if_eq (q := 41) (tgt := 45) C dX7_goPass_38 (by decide) rfl (fun _ => ?_) (fun h => absurd h (by decide))
                refine pv_iconst (q := 46) (v := 0) C dX7_goPass_45 rfl (by decide) ?_ 
                refine pv_iadd (q := 47) C dX7_goPass_46 rfl ?_ 
                refine pv_iast (q := 48) (j := ((32 + 38 * v) + 33)) C (iln_15 k19) rfl (by omega) dX7_goPass_47 rfl (fun D47 hD47 => ?_) 
                refine pv_aload_n (q := 49) C dX7_goPass_48 rfl rfl rfl ?_ 
                refine pv_iload (q := 51) C dX7_goPass_49 rfl rfl ?_ 
                refine pv_callVi (q := 54) C hKl (c_X7_naps l X D47 P _ (by omega)) tw_1089 k6 (by decide) rfl mm_X7_naps ⟨rfl, rfl⟩ (by rw [hKR]; exact ⟨Nat.le_of_ble_eq_true rfl, Nat.le_of_ble_eq_true rfl⟩) (by rw [hKR]; exact ⟨Nat.le_of_ble_eq_true rfl, Nat.le_of_ble_eq_true rfl⟩) rfl rfl rfl (Nat.le_of_ble_eq_true rfl) dX7_goPass_51 rfl (fun r51 D51 P51 hp51 => ?_) 
                rcases hp51 with ⟨⟨hy51, rfl⟩ | ⟨hn51, rfl⟩, rfl, rfl⟩
                · have e47 : D47 = va_up D 7 (m_ptv (m_ticks (D 7) k) v) := by
                    rw [hD47]
                    unfold up2
                    rw [Int32.add_zero, va_id, va_id]
                    exact h2
                  refine pv_if_eq (q := 57) (tgt := 109) C dX7_goPass_54 (by decide) rfl (fun h => absurd h (by decide)) (fun _ => ?_) 
                  refine pv_aload_n (q := 58) C dX7_goPass_57 rfl rfl rfl ?_ 
                  refine pg_7_1 (q := 61) C k6 tw_996 dX7_goPass_58 rfl (fun k58 => ?_) 
                  refine pv_iload (q := 63) C dX7_goPass_61 rfl rfl ?_ 
                  refine pv_callSi (q := 66) C hKl (c_X7_base l X D47 P v) tw_1093 mm_X7_base ⟨rfl, rfl⟩ (by rw [hKR]; exact ⟨Nat.le_of_ble_eq_true rfl, Nat.le_of_ble_eq_true rfl⟩) (by rw [hKR]; exact ⟨Nat.le_of_ble_eq_true rfl, Nat.le_of_ble_eq_true rfl⟩) rfl rfl rfl (Nat.le_of_ble_eq_true rfl) dX7_goPass_63 rfl (fun r63 D63 P63 hp63 => ?_) 
                  obtain ⟨rfl, rfl, rfl⟩ := hp63
                  refine pv_bipush (q := 68) (v := 33) C dX7_goPass_66 rfl (by decide) ?_ 
                  refine pv_iaddN (q := 69) (a := (32 + 38 * v)) (b := 33) C rfl rfl dX7_goPass_68 rfl ?_ 
                  refine pv_iald (q := 70) (j := ((32 + 38 * v) + 33)) C (iln_15 k58) rfl (by omega) dX7_goPass_69 rfl ?_ 
                  refine pv_aload_n (q := 71) C dX7_goPass_70 rfl rfl rfl ?_ 
                  refine pg_7_1 (q := 74) C k6 tw_996 dX7_goPass_71 rfl (fun k71 => ?_) 
                  refine pv_iload (q := 76) C dX7_goPass_74 rfl rfl ?_ 
                  refine pv_callSi (q := 79) C hKl (c_X7_base l X D47 P v) tw_1093 mm_X7_base ⟨rfl, rfl⟩ (by rw [hKR]; exact ⟨Nat.le_of_ble_eq_true rfl, Nat.le_of_ble_eq_true rfl⟩) (by rw [hKR]; exact ⟨Nat.le_of_ble_eq_true rfl, Nat.le_of_ble_eq_true rfl⟩) rfl rfl rfl (Nat.le_of_ble_eq_true rfl) dX7_goPass_76 rfl (fun r76 D76 P76 hp76 => ?_) 
                  obtain ⟨rfl, rfl, rfl⟩ := hp76
                  refine pv_bipush (q := 81) (v := 36) C dX7_goPass_79 rfl (by decide) ?_ 
                  refine pv_iaddN (q := 82) (a := (32 + 38 * v)) (b := 36) C rfl rfl dX7_goPass_81 rfl ?_ 
                  refine pv_iald (q := 83) (j := ((32 + 38 * v) + 36)) C (iln_15 k71) rfl (by omega) dX7_goPass_82 rfl ?_ 
                  refine pv_icmp_lt (q := 86) (tgt := 109) C dX7_goPass_83 (by decide) rfl (fun c_83 => ?_) (fun c_83 => ?_) 
                  · refine pv_iinc (q := 112) (v := nI (v + 1)) C dX7_goPass_109 rfl rfl (nI_add _ _) rfl ?_
                    refine pv_goto (tgt := 12) C dX7_goPass_112 (by decide) ?_ 
                    exfalso
                    exact hn35 (by rw [r2]; rw [e47, va_up_self] at hy51; exact hy51)
                  · refine pv_aload_n (q := 87) C dX7_goPass_86 rfl rfl rfl ?_
                    refine pv_iload (q := 89) C dX7_goPass_87 rfl rfl ?_ 
                    refine pv_callVi (q := 92) C hKl (c_X7_rouse l X D47 P _ (by omega)) tw_1104 k6 (by decide) rfl mm_X7_rouse ⟨rfl, rfl⟩ (by rw [hKR]; exact ⟨Nat.le_of_ble_eq_true rfl, Nat.le_of_ble_eq_true rfl⟩) (by rw [hKR]; exact ⟨Nat.le_of_ble_eq_true rfl, Nat.le_of_ble_eq_true rfl⟩) rfl rfl rfl (Nat.le_of_ble_eq_true rfl) dX7_goPass_89 rfl (fun r89 D89 P89 hp89 => ?_) 
                    obtain ⟨rfl, hR89, rfl⟩ := hp89
                    refine pv_istore (q := 94) C dX7_goPass_92 rfl (Nat.le_of_ble_eq_true rfl) rfl ?_ 
                    refine pv_aload_n (q := 95) C dX7_goPass_94 rfl rfl rfl ?_ 
                    refine pg_7_1 (q := 98) C k6 tw_996 dX7_goPass_95 rfl (fun k95 => ?_) 
                    refine pv_sipush (q := 101) (v := 181) C dX7_goPass_98 rfl (by decide) ?_ 
                    refine pv_dup2 (q := 102) C dX7_goPass_101 rfl rfl rfl ?_ 
                    refine pv_iald (q := 103) (j := 181) C (iln_15 k95) rfl (by decide) dX7_goPass_102 rfl ?_ 
                    refine pv_iconst (q := 104) (v := 1) C dX7_goPass_103 rfl (by decide) ?_ 
                    refine pv_iadd (q := 105) C dX7_goPass_104 rfl ?_ 
                    refine pv_iast (q := 106) (j := 181) C (iln_15 k95) rfl (by decide) dX7_goPass_105 rfl (fun D105 hD105 => ?_) 
                    refine pv_iinc (q := 109) (v := nI (n2 + 1)) C dX7_goPass_106 rfl rfl (nI_add _ _) rfl ?_ 
                    refine pv_iinc (q := 112) (v := nI (v + 1)) C dX7_goPass_109 rfl rfl (nI_add _ _) rfl ?_ 
                    refine pv_goto (tgt := 12) C dX7_goPass_112 (by decide) ?_ 
                    exfalso
                    exact hn35 (by rw [r2]; rw [e47, va_up_self] at hy51; exact hy51)
                · have e47 : D47 = va_up D 7 (m_ptv (m_ticks (D 7) k) v) := by
                    rw [hD47]
                    unfold up2
                    rw [Int32.add_zero, va_id, va_id]
                    exact h2
                  refine pv_if_eq (q := 57) (tgt := 109) C dX7_goPass_54 (by decide) rfl (fun _ => ?_) (fun h => absurd h (by decide)) 
                  refine pv_iinc (q := 112) (v := nI (v + 1)) C dX7_goPass_109 rfl rfl (nI_add _ _) rfl ?_ 
                  refine pv_goto (tgt := 12) C dX7_goPass_112 (by decide) ?_ 
                  have e1 : m_ptv (m_ticks (D 7) k) (v + 1) = m_ptv (m_ticks (D 7) k) v := by
                    show m_pt (m_ptv (m_ticks (D 7) k) v) v = _
                    unfold m_pt
                    rw [if_pos ((hfl v (by omega)).resolve_right (fun z => hn35 (by rw [r2]; exact z)))]
                  exact ih (v + 1) n2 D47 (by omega) (by omega) (by omega) (by rw [e47, e1]) (by rw [e1]; exact hc2)
        exact loop_12 4 0 n D1 (by omega) (by omega) (by omega) h1 hc
  exact loop_4 (t + 1) 0 0 D (by omega) (by omega) (by omega) (va_id D 7).symm (by show nI 0 = D 7 181 - D 7 181; rw [Int32.sub_self]; rfl)
