set_option maxRecDepth 100000 in
set_option maxHeartbeats 4000000 in
theorem c_X2_digitAhead (l : Launch) (X : XT) (D : DT) (P : PT) (n a : Nat) (ht : ctx D n a)  : CG l X yX2_digitAhead (.code yX2_digitAhead cX2_digitAhead 1 (some .int) :: AW) ({ frames := 0, cells := 0, slots := 0, locals := 0 } : Room) [.ref (X.2.2 2)] (qI X (fun r D' P' => (((rg (dg (D 3) n a) 0 9) ∧ r = dg (D 3) n a) ∨ (¬ (rg (dg (D 3) n a) 0 9) ∧ r = -1)) ∧ D = D' ∧ P = P')) D P 0 0 := by
  refine cg_of (by decide +kernel) (Nat.le_of_ble_eq_true rfl) ?_
  intro K hKl hKR C
  refine PV_lv (lv' := [some (.ref (X.2.2 2))]) rfl ?_
  obtain ⟨t1, t2, t3, t4⟩ := id ht
  refine pv_aload_n (q := 1) C dX2_digitAhead_0 rfl rfl rfl ?_ 
  refine pg_2_2 (q := 4) C k2 tw_171 dX2_digitAhead_1 rfl ?_ 
  rw [t3]
  refine pv_aload_n (q := 5) C dX2_digitAhead_4 rfl rfl rfl ?_ 
  refine pg_2_1 (q := 8) C k2 tw_169 dX2_digitAhead_5 rfl ?_ 
  rw [t1]
  refine pv_icmp_geN (q := 11) (tgt := 51) (a := a) (b := n) C rfl rfl (by omega) (by omega) dX2_digitAhead_8 (by decide) rfl (fun c_8 => ?_) (fun c_8 => ?_) 
  · refine pv_iconst (q := 52) (v := (-1)) C dX2_digitAhead_51 rfl (by decide) ?_
    exact pv_iret C (⟨Or.inr ⟨fun z => absurd ((rg_dig _).mp z).1 (by rw [hr_out (by omega)]; decide), rfl⟩, rfl, rfl⟩) (by decide) (by decide) dX2_digitAhead_52
  · refine pv_aload_n (q := 12) C dX2_digitAhead_11 rfl rfl rfl ?_
    refine pg_2_2 (q := 15) C k2 tw_171 dX2_digitAhead_12 rfl ?_ 
    rw [t3]
    refine pv_aload_n (q := 16) C dX2_digitAhead_15 rfl rfl rfl ?_ 
    refine pg_2_0 (q := 19) C k2 tw_168 dX2_digitAhead_16 rfl (fun k16 => ?_) 
    refine pv_alen_8 (q := 20) C k16 dX2_digitAhead_19 rfl ?_ 
    refine pv_icmp_geN (q := 23) (tgt := 51) (a := a) (b := 60) C rfl rfl (by omega) (by omega) dX2_digitAhead_20 (by decide) rfl (fun c_20 => ?_) (fun c_20 => ?_) 
    · refine pv_iconst (q := 52) (v := (-1)) C dX2_digitAhead_51 rfl (by decide) ?_
      exact pv_iret C (⟨Or.inr ⟨fun z => absurd t2 (by omega), rfl⟩, rfl, rfl⟩) (by decide) (by decide) dX2_digitAhead_52
    · refine pv_aload_n (q := 24) C dX2_digitAhead_23 rfl rfl rfl ?_
      refine pg_2_0 (q := 27) C k2 tw_168 dX2_digitAhead_24 rfl (fun k24 => ?_) 
      refine pv_aload_n (q := 28) C dX2_digitAhead_27 rfl rfl rfl ?_ 
      refine pg_2_2 (q := 31) C k2 tw_171 dX2_digitAhead_28 rfl ?_ 
      rw [t3]
      refine pv_cald (q := 32) (j := a) C k24 rfl (by omega) dX2_digitAhead_31 rfl ?_ 
      refine pv_bipush (q := 34) (v := 48) C dX2_digitAhead_32 rfl (by decide) ?_ 
      refine pv_icmp_lt (q := 37) (tgt := 51) C dX2_digitAhead_34 (by decide) rfl (fun c_34 => ?_) (fun c_34 => ?_) 
      · refine pv_iconst (q := 52) (v := (-1)) C dX2_digitAhead_51 rfl (by decide) ?_
        exact pv_iret C (⟨Or.inr ⟨fun z => absurd ((rg_dig _).mp z).1 (Int32.not_le.mpr (by rw [hr_in (by omega)]; exact c_34)), rfl⟩, rfl, rfl⟩) (by decide) (by decide) dX2_digitAhead_52
      · refine pv_aload_n (q := 38) C dX2_digitAhead_37 rfl rfl rfl ?_
        refine pg_2_0 (q := 41) C k2 tw_168 dX2_digitAhead_38 rfl (fun k38 => ?_) 
        refine pv_aload_n (q := 42) C dX2_digitAhead_41 rfl rfl rfl ?_ 
        refine pg_2_2 (q := 45) C k2 tw_171 dX2_digitAhead_42 rfl ?_ 
        rw [t3]
        refine pv_cald (q := 46) (j := a) C k38 rfl (by omega) dX2_digitAhead_45 rfl ?_ 
        refine pv_bipush (q := 48) (v := 57) C dX2_digitAhead_46 rfl (by decide) ?_ 
        refine pv_icmp_le (q := 51) (tgt := 53) C dX2_digitAhead_48 (by decide) rfl (fun c_48 => ?_) (fun c_48 => ?_) 
        · refine pv_aload_n (q := 54) C dX2_digitAhead_53 rfl rfl rfl ?_
          refine pg_2_0 (q := 57) C k2 tw_168 dX2_digitAhead_54 rfl (fun k54 => ?_) 
          refine pv_aload_n (q := 58) C dX2_digitAhead_57 rfl rfl rfl ?_ 
          refine pg_2_2 (q := 61) C k2 tw_171 dX2_digitAhead_58 rfl ?_ 
          rw [t3]
          refine pv_cald (q := 62) (j := a) C k54 rfl (by omega) dX2_digitAhead_61 rfl ?_ 
          refine pv_bipush (q := 64) (v := 48) C dX2_digitAhead_62 rfl (by decide) ?_ 
          refine pv_isub (q := 65) C dX2_digitAhead_64 rfl ?_ 
          exact pv_iret C (⟨Or.inl ⟨(rg_dig _).mpr (by rw [hr_in (by omega)]; exact ⟨Int32.not_lt.mp c_34, c_48⟩), by unfold dg; rw [hr_in (by omega)]⟩, rfl, rfl⟩) (by decide) (by decide) dX2_digitAhead_65
        · refine pv_iconst (q := 52) (v := (-1)) C dX2_digitAhead_51 rfl (by decide) ?_
          exact pv_iret C (⟨Or.inr ⟨fun z => c_48 (by have := ((rg_dig _).mp z).2; rw [hr_in (by omega)] at this; exact this), rfl⟩, rfl, rfl⟩) (by decide) (by decide) dX2_digitAhead_52
set_option maxRecDepth 100000 in
set_option maxHeartbeats 4000000 in
theorem c_X2_readSign (l : Launch) (X : XT) (D : DT) (P : PT) (c : Int32) (hc : ¬ c = -1) (n a : Nat) (ht : ctx D n a)  : CG l X yX2_readSign (.code yX2_readSign cX2_readSign 2 (some .boolean) :: AW) ({ frames := 0, cells := 0, slots := 0, locals := 0 } : Room) [.ref (X.2.2 2), .int c] (qI X (fun r D' P' => ((hr (D 3) n a = c ∧ a < n ∧ r = 1 ∧ D' = up2 D 2 2 (nI (a + 1))) ∨ (¬ hr (D 3) n a = c ∧ r = 0 ∧ D' = D)) ∧ P = P')) D P 0 0 := by
  refine cg_of (by decide +kernel) (Nat.le_of_ble_eq_true rfl) ?_
  intro K hKl hKR C
  refine PV_lv (lv' := [some (.ref (X.2.2 2)), some (.int c)]) rfl ?_
  obtain ⟨t1, t2, t3, t4⟩ := id ht
  refine pv_aload_n (q := 1) C dX2_readSign_0 rfl rfl rfl ?_ 
  refine pg_2_2 (q := 4) C k2 tw_171 dX2_readSign_1 rfl ?_ 
  rw [t3]
  refine pv_aload_n (q := 5) C dX2_readSign_4 rfl rfl rfl ?_ 
  refine pg_2_1 (q := 8) C k2 tw_169 dX2_readSign_5 rfl ?_ 
  rw [t1]
  refine pv_icmp_geN (q := 11) (tgt := 36) (a := a) (b := n) C rfl rfl (by omega) (by omega) dX2_readSign_8 (by decide) rfl (fun c_8 => ?_) (fun c_8 => ?_) 
  · refine pv_iconst (q := 37) (v := 0) C dX2_readSign_36 rfl (by decide) ?_
    exact pv_zret C (Or.inl rfl) (⟨Or.inr ⟨by rw [hr_out (by omega)]; exact fun z => hc z.symm, rfl, rfl⟩, rfl⟩) (by decide) (by decide) dX2_readSign_37
  · refine pv_aload_n (q := 12) C dX2_readSign_11 rfl rfl rfl ?_
    refine pg_2_2 (q := 15) C k2 tw_171 dX2_readSign_12 rfl ?_ 
    rw [t3]
    refine pv_aload_n (q := 16) C dX2_readSign_15 rfl rfl rfl ?_ 
    refine pg_2_0 (q := 19) C k2 tw_168 dX2_readSign_16 rfl (fun k16 => ?_) 
    refine pv_alen_8 (q := 20) C k16 dX2_readSign_19 rfl ?_ 
    refine pv_icmp_geN (q := 23) (tgt := 36) (a := a) (b := 60) C rfl rfl (by omega) (by omega) dX2_readSign_20 (by decide) rfl (fun c_20 => ?_) (fun c_20 => ?_) 
    · refine pv_iconst (q := 37) (v := 0) C dX2_readSign_36 rfl (by decide) ?_
      exact pv_zret C (Or.inl rfl) (⟨Or.inr ⟨fun z => absurd t2 (by omega), rfl, rfl⟩, rfl⟩) (by decide) (by decide) dX2_readSign_37
    · refine pv_aload_n (q := 24) C dX2_readSign_23 rfl rfl rfl ?_
      refine pg_2_0 (q := 27) C k2 tw_168 dX2_readSign_24 rfl (fun k24 => ?_) 
      refine pv_aload_n (q := 28) C dX2_readSign_27 rfl rfl rfl ?_ 
      refine pg_2_2 (q := 31) C k2 tw_171 dX2_readSign_28 rfl ?_ 
      rw [t3]
      refine pv_cald (q := 32) (j := a) C k24 rfl (by omega) dX2_readSign_31 rfl ?_ 
      refine pv_iload_n (q := 33) C dX2_readSign_32 rfl rfl rfl ?_ 
      refine pv_icmp_eq (q := 36) (tgt := 38) C dX2_readSign_33 (by decide) rfl (fun c_33 => ?_) (fun c_33 => ?_) 
      · refine pv_aload_n (q := 39) C dX2_readSign_38 rfl rfl rfl ?_
        refine pv_dup (q := 40) C dX2_readSign_39 rfl rfl ?_ 
        refine pg_2_2 (q := 43) C k2 tw_171 dX2_readSign_40 rfl ?_ 
        rw [t3]
        refine pv_iconst (q := 44) (v := 1) C dX2_readSign_43 rfl (by decide) ?_ 
        refine pv_iaddN (q := 45) (a := a) (b := 1) C rfl rfl dX2_readSign_44 rfl ?_ 
        refine pp_2_2 (q := 48) C k2 tw_171 dX2_readSign_45 rfl (fun D45 hD45 => ?_) 
        refine pv_iconst (q := 49) (v := 1) C dX2_readSign_48 rfl (by decide) ?_ 
        exact pv_zret C (Or.inr rfl) (⟨Or.inl ⟨by rw [hr_in (by omega)]; exact c_33, by omega, rfl, hD45⟩, rfl⟩) (by decide) (by decide) dX2_readSign_49
      · refine pv_iconst (q := 37) (v := 0) C dX2_readSign_36 rfl (by decide) ?_
        exact pv_zret C (Or.inl rfl) (⟨Or.inr ⟨by rw [hr_in (by omega)]; exact c_33, rfl, rfl⟩, rfl⟩) (by decide) (by decide) dX2_readSign_37
set_option maxRecDepth 100000 in
set_option maxHeartbeats 4000000 in
theorem c_X2_readGroup (l : Launch) (X : XT) (D : DT) (P : PT) (n a : Nat) (ht : ctx D n a)  : CG l X yX2_readGroup (.code yX2_readGroup cX2_readGroup 1 (some .boolean) :: AW) ({ frames := 0, cells := 0, slots := 0, locals := 0 } : Room) [.ref (X.2.2 2)] (qI X (fun r D' P' => ((∃ g, pG (D 3) n a = (some g, a + 1) ∧ a < n ∧ r = 1 ∧ D' = up2 (up2 D 2 5 g) 2 2 (nI (a + 1))) ∨ (pG (D 3) n a = (none, a) ∧ r = 0 ∧ D' = D)) ∧ P = P')) D P 0 0 := by
  refine cg_of (by decide +kernel) (Nat.le_of_ble_eq_true rfl) ?_
  intro K hKl hKR C
  refine PV_lv (lv' := [some (.ref (X.2.2 2))]) rfl ?_
  obtain ⟨t1, t2, t3, t4⟩ := id ht
  refine pv_aload_n (q := 1) C dX2_readGroup_0 rfl rfl rfl ?_ 
  refine pg_2_2 (q := 4) C k2 tw_171 dX2_readGroup_1 rfl ?_ 
  rw [t3]
  refine pv_aload_n (q := 5) C dX2_readGroup_4 rfl rfl rfl ?_ 
  refine pg_2_1 (q := 8) C k2 tw_169 dX2_readGroup_5 rfl ?_ 
  rw [t1]
  refine pv_icmp_geN (q := 11) (tgt := 51) (a := a) (b := n) C rfl rfl (by omega) (by omega) dX2_readGroup_8 (by decide) rfl (fun c_8 => ?_) (fun c_8 => ?_) 
  · refine pv_iconst (q := 52) (v := 0) C dX2_readGroup_51 rfl (by decide) ?_
    exact pv_zret C (Or.inl rfl) (⟨Or.inr ⟨by unfold pG; rw [if_neg (fun z => absurd ((rg_grp _).mp z).1 (by rw [hr_out (by omega)]; decide))], rfl, rfl⟩, rfl⟩) (by decide) (by decide) dX2_readGroup_52
  · refine pv_aload_n (q := 12) C dX2_readGroup_11 rfl rfl rfl ?_
    refine pg_2_2 (q := 15) C k2 tw_171 dX2_readGroup_12 rfl ?_ 
    rw [t3]
    refine pv_aload_n (q := 16) C dX2_readGroup_15 rfl rfl rfl ?_ 
    refine pg_2_0 (q := 19) C k2 tw_168 dX2_readGroup_16 rfl (fun k16 => ?_) 
    refine pv_alen_8 (q := 20) C k16 dX2_readGroup_19 rfl ?_ 
    refine pv_icmp_geN (q := 23) (tgt := 51) (a := a) (b := 60) C rfl rfl (by omega) (by omega) dX2_readGroup_20 (by decide) rfl (fun c_20 => ?_) (fun c_20 => ?_) 
    · refine pv_iconst (q := 52) (v := 0) C dX2_readGroup_51 rfl (by decide) ?_
      exact pv_zret C (Or.inl rfl) (⟨Or.inr ⟨absurd t2 (by omega), rfl, rfl⟩, rfl⟩) (by decide) (by decide) dX2_readGroup_52
    · refine pv_aload_n (q := 24) C dX2_readGroup_23 rfl rfl rfl ?_
      refine pg_2_0 (q := 27) C k2 tw_168 dX2_readGroup_24 rfl (fun k24 => ?_) 
      refine pv_aload_n (q := 28) C dX2_readGroup_27 rfl rfl rfl ?_ 
      refine pg_2_2 (q := 31) C k2 tw_171 dX2_readGroup_28 rfl ?_ 
      rw [t3]
      refine pv_cald (q := 32) (j := a) C k24 rfl (by omega) dX2_readGroup_31 rfl ?_ 
      refine pv_bipush (q := 34) (v := 97) C dX2_readGroup_32 rfl (by decide) ?_ 
      refine pv_icmp_lt (q := 37) (tgt := 51) C dX2_readGroup_34 (by decide) rfl (fun c_34 => ?_) (fun c_34 => ?_) 
      · refine pv_iconst (q := 52) (v := 0) C dX2_readGroup_51 rfl (by decide) ?_
        exact pv_zret C (Or.inl rfl) (⟨Or.inr ⟨by unfold pG; rw [if_neg (fun z => absurd ((rg_grp _).mp z).1 (Int32.not_le.mpr (by rw [hr_in (by omega)]; exact c_34)))], rfl, rfl⟩, rfl⟩) (by decide) (by decide) dX2_readGroup_52
      · refine pv_aload_n (q := 38) C dX2_readGroup_37 rfl rfl rfl ?_
        refine pg_2_0 (q := 41) C k2 tw_168 dX2_readGroup_38 rfl (fun k38 => ?_) 
        refine pv_aload_n (q := 42) C dX2_readGroup_41 rfl rfl rfl ?_ 
        refine pg_2_2 (q := 45) C k2 tw_171 dX2_readGroup_42 rfl ?_ 
        rw [t3]
        refine pv_cald (q := 46) (j := a) C k38 rfl (by omega) dX2_readGroup_45 rfl ?_ 
        refine pv_bipush (q := 48) (v := 100) C dX2_readGroup_46 rfl (by decide) ?_ 
        refine pv_icmp_le (q := 51) (tgt := 53) C dX2_readGroup_48 (by decide) rfl (fun c_48 => ?_) (fun c_48 => ?_) 
        · refine pv_aload_n (q := 54) C dX2_readGroup_53 rfl rfl rfl ?_
          refine pv_aload_n (q := 55) C dX2_readGroup_54 rfl rfl rfl ?_ 
          refine pg_2_0 (q := 58) C k2 tw_168 dX2_readGroup_55 rfl (fun k55 => ?_) 
          refine pv_aload_n (q := 59) C dX2_readGroup_58 rfl rfl rfl ?_ 
          refine pg_2_2 (q := 62) C k2 tw_171 dX2_readGroup_59 rfl ?_ 
          rw [t3]
          refine pv_cald (q := 63) (j := a) C k55 rfl (by omega) dX2_readGroup_62 rfl ?_ 
          refine pv_bipush (q := 65) (v := 97) C dX2_readGroup_63 rfl (by decide) ?_ 
          refine pv_isub (q := 66) C dX2_readGroup_65 rfl ?_ 
          refine pp_2_5 (q := 69) C k2 tw_177 dX2_readGroup_66 rfl (fun D66 hD66 => ?_) 
          refine pv_aload_n (q := 70) C dX2_readGroup_69 rfl rfl rfl ?_ 
          refine pv_dup (q := 71) C dX2_readGroup_70 rfl rfl ?_ 
          refine pg_2_2 (q := 74) C k2 tw_171 dX2_readGroup_71 rfl ?_ 
          rw [show D66 2 2 = nI a by rw [hD66, up2_nk _ _ _ (by decide)]; exact t3]
          refine pv_iconst (q := 75) (v := 1) C dX2_readGroup_74 rfl (by decide) ?_ 
          refine pv_iaddN (q := 76) (a := a) (b := 1) C rfl rfl dX2_readGroup_75 rfl ?_ 
          refine pp_2_2 (q := 79) C k2 tw_171 dX2_readGroup_76 rfl (fun D76 hD76 => ?_) 
          refine pv_iconst (q := 80) (v := 1) C dX2_readGroup_79 rfl (by decide) ?_ 
          exact pv_zret C (Or.inr rfl) (⟨Or.inl ⟨D 3 a - 97, by unfold pG; rw [hr_in (by omega), if_pos ((rg_grp _).mpr ⟨Int32.not_lt.mp c_34, c_48⟩)], by omega, rfl, by rw [hD76, hD66]⟩, rfl⟩) (by decide) (by decide) dX2_readGroup_80
        · refine pv_iconst (q := 52) (v := 0) C dX2_readGroup_51 rfl (by decide) ?_
          exact pv_zret C (Or.inl rfl) (⟨Or.inr ⟨by unfold pG; rw [if_neg (fun z => c_48 (by have := ((rg_grp _).mp z).2; rw [hr_in (by omega)] at this; exact this))], rfl, rfl⟩, rfl⟩) (by decide) (by decide) dX2_readGroup_52
set_option maxRecDepth 100000 in
set_option maxHeartbeats 4000000 in
theorem c_X2_readNumber0 (l : Launch) (X : XT) (D : DT) (P : PT) (n a : Nat) (ht : ctx D n a) (hi : Nat) (hhi : hi ≤ 99) : CG l X yX2_readNumber (.code yX2_readNumber cX2_readNumber 5 (some .boolean) :: AW) ({ frames := 1, cells := 0, slots := 0, locals := 36 } : Room) [.ref (X.2.2 2), .int 0, .int (nI hi)] (qI X (fun r D' P' => ((∃ v b, pN (D 3) n a 0 hi = some (v, b) ∧ b ≤ n ∧ r = 1 ∧ D' 2 4 = nI v ∧ D' 2 2 = nI b ∧ cu [2, 4] D D') ∨ (pN (D 3) n a 0 hi = none ∧ r = 0 ∧ D' = D)) ∧ P = P')) D P 0 0 := by
  refine cg_of (by decide +kernel) (Nat.le_of_ble_eq_true rfl) ?_
  intro K hKl hKR C
  refine PV_lv (lv' := [some (.ref (X.2.2 2)), some (.int 0), some (.int (nI hi)), none, none]) rfl ?_
  obtain ⟨t1, t2, t3, t4⟩ := id ht
  refine pv_aload_n (q := 1) C dX2_readNumber_0 rfl rfl rfl ?_ 
  refine pv_callVi (q := 4) C hKl (c_X2_digitAhead l X D P n a ht) tw_967 k2 (by decide) rfl mm_X2_digitAhead ⟨rfl, rfl⟩ (by rw [hKR]; exact ⟨Nat.le_of_ble_eq_true rfl, Nat.le_of_ble_eq_true rfl⟩) (by rw [hKR]; exact ⟨Nat.le_of_ble_eq_true rfl, Nat.le_of_ble_eq_true rfl⟩) rfl rfl rfl (Nat.le_of_ble_eq_true rfl) dX2_readNumber_1 rfl (fun r1 D1 P1 hp1 => ?_) 
  rcases hp1 with ⟨⟨hy1, hq1⟩ | ⟨hn1, rfl⟩, rfl, rfl⟩
  · obtain ⟨d, hd, ed⟩ := rg_N 9 hy1 rfl
    rw [ed] at hq1
    subst hq1
    refine pv_istore_n (q := 5) C dX2_readNumber_4 rfl rfl (Nat.le_of_ble_eq_true rfl) rfl ?_ 
    refine pv_iload_n (q := 6) C dX2_readNumber_5 rfl rfl rfl ?_ 
    refine pv_iload_n (q := 7) C dX2_readNumber_6 rfl rfl rfl ?_ 
    refine pv_icmp_ltN (q := 10) (tgt := 15) (a := d) (b := 0) C rfl rfl (by omega) (by omega) dX2_readNumber_7 (by decide) rfl (fun c_7 => absurd c_7 (by omega)) (fun c_7 => ?_) 
    refine pv_iload_n (q := 11) C dX2_readNumber_10 rfl rfl rfl ?_ 
    refine pv_iload_n (q := 12) C dX2_readNumber_11 rfl rfl rfl ?_ 
    refine pv_icmp_leN (q := 15) (tgt := 17) (a := d) (b := hi) C rfl rfl (by omega) (by omega) dX2_readNumber_12 (by decide) rfl (fun c_12 => ?_) (fun c_12 => ?_) 
    · refine pv_aload_n (q := 18) C dX2_readNumber_17 rfl rfl rfl ?_
      refine pv_iload_n (q := 19) C dX2_readNumber_18 rfl rfl rfl ?_ 
      refine pp_2_4 (q := 22) C k2 tw_175 dX2_readNumber_19 rfl (fun D19 hD19 => ?_) 
      refine pv_aload_n (q := 23) C dX2_readNumber_22 rfl rfl rfl ?_ 
      refine pv_dup (q := 24) C dX2_readNumber_23 rfl rfl ?_ 
      refine pg_2_2 (q := 27) C k2 tw_171 dX2_readNumber_24 rfl ?_ 
      rw [show D19 2 2 = nI a by rw [hD19, up2_nk _ _ _ (by decide)]; exact t3]
      refine pv_iconst (q := 28) (v := 1) C dX2_readNumber_27 rfl (by decide) ?_ 
      refine pv_iaddN (q := 29) (a := a) (b := 1) C rfl rfl dX2_readNumber_28 rfl ?_ 
      refine pp_2_2 (q := 32) C k2 tw_171 dX2_readNumber_29 rfl (fun D29 hD29 => ?_) 
      have x29 : D29 3 = D 3 := by rw [hD29, hD19]; rfl
      have w29 : ctx D29 n (a + 1) := ⟨by rw [hD29, hD19]; exact t1, t2, by rw [hD29, up2_self], dg_lt ed (by omega)⟩
      refine pv_aload_n (q := 33) C dX2_readNumber_32 rfl rfl rfl ?_ 
      refine pv_callVi (q := 36) C hKl (c_X2_digitAhead l X D29 P n (a + 1) w29) tw_967 k2 (by decide) rfl mm_X2_digitAhead ⟨rfl, rfl⟩ (by rw [hKR]; exact ⟨Nat.le_of_ble_eq_true rfl, Nat.le_of_ble_eq_true rfl⟩) (by rw [hKR]; exact ⟨Nat.le_of_ble_eq_true rfl, Nat.le_of_ble_eq_true rfl⟩) rfl rfl rfl (Nat.le_of_ble_eq_true rfl) dX2_readNumber_33 rfl (fun r33 D33 P33 hp33 => ?_) 
      rcases hp33 with ⟨⟨hy33, hq33⟩ | ⟨hn33, rfl⟩, rfl, rfl⟩
      · rw [x29] at hy33 hq33
        obtain ⟨d2, hd2, ed2⟩ := rg_N 9 hy33 rfl
        rw [ed2] at hq33
        subst hq33
        refine pv_istore (q := 38) C dX2_readNumber_36 rfl (Nat.le_of_ble_eq_true rfl) rfl ?_ 
        refine pv_iload_n (q := 39) C dX2_readNumber_38 rfl rfl rfl ?_ 
        refine pv_if_eqN (q := 42) (tgt := 80) (a := d) (b := 0) C rfl rfl (by omega) (by omega) dX2_readNumber_39 (by decide) rfl (fun c_39 => ?_) (fun c_39 => ?_) 
        · refine pv_iconst (q := 81) (v := 1) C dX2_readNumber_80 rfl (by decide) ?_
          exact pv_zret C (Or.inr rfl) (⟨Or.inl ⟨d, a + 1, by unfold pN; rw [ed, if_pos ⟨⟨nI_le (by omega) (by omega), nI_le (a := d) (b := 9) (by omega) (by decide)⟩, nI_le (by omega) (by omega)⟩, if_neg (fun z => z.1 (by rw [c_39]; rfl)), ix_n (by omega)], dg_lt ed (by omega), rfl, by rw [hD29, up2_nk _ _ _ (by decide), hD19, up2_self], by rw [hD29, up2_self], by rw [hD29, hD19]; exact ((cu_rf _ D).up (by decide)).up (by decide)⟩, rfl⟩) (by decide) (by decide) dX2_readNumber_81
        · refine pv_iload (q := 44) C dX2_readNumber_42 rfl rfl ?_
          refine pv_iconst (q := 45) (v := (-1)) C dX2_readNumber_44 rfl (by decide) ?_ 
          refine pv_icmp_eq (q := 48) (tgt := 80) C dX2_readNumber_45 (by decide) rfl (fun c_45 => absurd c_45 (nI_m9 (by omega))) (fun c_45 => ?_) 
          refine pv_bipush (q := 50) (v := 10) C dX2_readNumber_48 rfl (by decide) ?_ 
          refine pv_iload_n (q := 51) C dX2_readNumber_50 rfl rfl rfl ?_ 
          refine pv_imulN (q := 52) (a := 10) (b := d) C rfl rfl dX2_readNumber_51 rfl ?_ 
          refine pv_iload (q := 54) C dX2_readNumber_52 rfl rfl ?_ 
          refine pv_iaddN (q := 55) (a := (10 * d)) (b := d2) C rfl rfl dX2_readNumber_54 rfl ?_ 
          refine pv_iload_n (q := 56) C dX2_readNumber_55 rfl rfl rfl ?_ 
          refine pv_icmp_gtN (q := 59) (tgt := 80) (a := ((10 * d) + d2)) (b := hi) C rfl rfl (by omega) (by omega) dX2_readNumber_56 (by decide) rfl (fun c_56 => ?_) (fun c_56 => ?_) 
          · refine pv_iconst (q := 81) (v := 1) C dX2_readNumber_80 rfl (by decide) ?_
            exact pv_zret C (Or.inr rfl) (⟨Or.inl ⟨d, a + 1, by unfold pN; rw [ed, if_pos ⟨⟨nI_le (by omega) (by omega), nI_le (a := d) (b := 9) (by omega) (by decide)⟩, nI_le (by omega) (by omega)⟩, if_neg (fun z => absurd z.2.2 (by rw [ed2, ix_n (by omega), ix_n (by omega)]; omega)), ix_n (by omega)], dg_lt ed (by omega), rfl, by rw [hD29, up2_nk _ _ _ (by decide), hD19, up2_self], by rw [hD29, up2_self], by rw [hD29, hD19]; exact ((cu_rf _ D).up (by decide)).up (by decide)⟩, rfl⟩) (by decide) (by decide) dX2_readNumber_81
          · refine pv_aload_n (q := 60) C dX2_readNumber_59 rfl rfl rfl ?_
            refine pv_bipush (q := 62) (v := 10) C dX2_readNumber_60 rfl (by decide) ?_ 
            refine pv_iload_n (q := 63) C dX2_readNumber_62 rfl rfl rfl ?_ 
            refine pv_imulN (q := 64) (a := 10) (b := d) C rfl rfl dX2_readNumber_63 rfl ?_ 
            refine pv_iload (q := 66) C dX2_readNumber_64 rfl rfl ?_ 
            refine pv_iaddN (q := 67) (a := (10 * d)) (b := d2) C rfl rfl dX2_readNumber_66 rfl ?_ 
            refine pp_2_4 (q := 70) C k2 tw_175 dX2_readNumber_67 rfl (fun D67 hD67 => ?_) 
            refine pv_aload_n (q := 71) C dX2_readNumber_70 rfl rfl rfl ?_ 
            refine pv_dup (q := 72) C dX2_readNumber_71 rfl rfl ?_ 
            refine pg_2_2 (q := 75) C k2 tw_171 dX2_readNumber_72 rfl ?_ 
            rw [show D67 2 2 = nI (a + 1) by rw [hD67, up2_nk _ _ _ (by decide)]; exact w29.2.2.1]
            refine pv_iconst (q := 76) (v := 1) C dX2_readNumber_75 rfl (by decide) ?_ 
            refine pv_iaddN (q := 77) (a := (a + 1)) (b := 1) C rfl rfl dX2_readNumber_76 rfl ?_ 
            refine pp_2_2 (q := 80) C k2 tw_171 dX2_readNumber_77 rfl (fun D77 hD77 => ?_) 
            refine pv_iconst (q := 81) (v := 1) C dX2_readNumber_80 rfl (by decide) ?_ 
            exact pv_zret C (Or.inr rfl) (⟨Or.inl ⟨10 * d + d2, a + 1 + 1, by unfold pN; rw [ed, if_pos ⟨⟨nI_le (by omega) (by omega), nI_le (a := d) (b := 9) (by omega) (by decide)⟩, nI_le (by omega) (by omega)⟩, if_pos ⟨nI_ne0 (by omega) (by omega), hy33, by rw [ed2, ix_n (by omega), ix_n (by omega)]; omega⟩, ed2, ix_n (by omega), ix_n (by omega)], dg_lt ed2 (by omega), rfl, by rw [hD77, up2_nk _ _ _ (by decide), hD67, up2_self], by rw [hD77, up2_self], by rw [hD77, hD67, hD29, hD19]; exact ((((cu_rf _ D).up (by decide)).up (by decide)).up (by decide)).up (by decide)⟩, rfl⟩) (by decide) (by decide) dX2_readNumber_81
      · rw [x29] at hn33
        refine pv_istore (q := 38) C dX2_readNumber_36 rfl (Nat.le_of_ble_eq_true rfl) rfl ?_ 
        refine pv_iload_n (q := 39) C dX2_readNumber_38 rfl rfl rfl ?_ 
        refine pv_if_eqN (q := 42) (tgt := 80) (a := d) (b := 0) C rfl rfl (by omega) (by omega) dX2_readNumber_39 (by decide) rfl (fun c_39 => ?_) (fun c_39 => ?_) 
        · refine pv_iconst (q := 81) (v := 1) C dX2_readNumber_80 rfl (by decide) ?_
          exact pv_zret C (Or.inr rfl) (⟨Or.inl ⟨d, a + 1, by unfold pN; rw [ed, if_pos ⟨⟨nI_le (by omega) (by omega), nI_le (a := d) (b := 9) (by omega) (by decide)⟩, nI_le (by omega) (by omega)⟩, if_neg (fun z => z.1 (by rw [c_39]; rfl)), ix_n (by omega)], dg_lt ed (by omega), rfl, by rw [hD29, up2_nk _ _ _ (by decide), hD19, up2_self], by rw [hD29, up2_self], by rw [hD29, hD19]; exact ((cu_rf _ D).up (by decide)).up (by decide)⟩, rfl⟩) (by decide) (by decide) dX2_readNumber_81
        · refine pv_iload (q := 44) C dX2_readNumber_42 rfl rfl ?_
          refine pv_iconst (q := 45) (v := (-1)) C dX2_readNumber_44 rfl (by decide) ?_ 
          refine pv_icmp_eq (q := 48) (tgt := 80) C dX2_readNumber_45 (by decide) rfl (fun _ => ?_) (fun h => absurd h (by decide)) 
          refine pv_iconst (q := 81) (v := 1) C dX2_readNumber_80 rfl (by decide) ?_ 
          exact pv_zret C (Or.inr rfl) (⟨Or.inl ⟨d, a + 1, by unfold pN; rw [ed, if_pos ⟨⟨nI_le (by omega) (by omega), nI_le (a := d) (b := 9) (by omega) (by decide)⟩, nI_le (by omega) (by omega)⟩, if_neg (fun z => hn33 z.2.1), ix_n (by omega)], dg_lt ed (by omega), rfl, by rw [hD29, up2_nk _ _ _ (by decide), hD19, up2_self], by rw [hD29, up2_self], by rw [hD29, hD19]; exact ((cu_rf _ D).up (by decide)).up (by decide)⟩, rfl⟩) (by decide) (by decide) dX2_readNumber_81
    · refine pv_iconst (q := 16) (v := 0) C dX2_readNumber_15 rfl (by decide) ?_
      exact pv_zret C (Or.inl rfl) (⟨Or.inr ⟨by unfold pN; rw [if_neg (fun z => absurd ((nI_leI (a := d) (b := hi) (by omega) (by omega)).mp (by rw [← ed]; exact z.2)) (by omega))], rfl, rfl⟩, rfl⟩) (by decide) (by decide) dX2_readNumber_16
  · refine pv_istore_n (q := 5) C dX2_readNumber_4 rfl rfl (Nat.le_of_ble_eq_true rfl) rfl ?_
    refine pv_iload_n (q := 6) C dX2_readNumber_5 rfl rfl rfl ?_ 
    refine pv_iload_n (q := 7) C dX2_readNumber_6 rfl rfl rfl ?_ 
    refine pv_icmp_lt (q := 10) (tgt := 15) C dX2_readNumber_7 (by decide) rfl (fun _ => ?_) (fun h => absurd h (by decide)) 
    refine pv_iconst (q := 16) (v := 0) C dX2_readNumber_15 rfl (by decide) ?_ 
    exact pv_zret C (Or.inl rfl) (⟨Or.inr ⟨by unfold pN; rw [if_neg (fun z => hn1 ⟨z.1.1, z.1.2⟩)], rfl, rfl⟩, rfl⟩) (by decide) (by decide) dX2_readNumber_16
set_option maxRecDepth 100000 in
set_option maxHeartbeats 4000000 in
theorem c_X2_readNumber1 (l : Launch) (X : XT) (D : DT) (P : PT) (n a : Nat) (ht : ctx D n a) (hi : Nat) (hhi : hi ≤ 99) : CG l X yX2_readNumber (.code yX2_readNumber cX2_readNumber 5 (some .boolean) :: AW) ({ frames := 1, cells := 0, slots := 0, locals := 36 } : Room) [.ref (X.2.2 2), .int 1, .int (nI hi)] (qI X (fun r D' P' => ((∃ v b, pN (D 3) n a 1 hi = some (v, b) ∧ b ≤ n ∧ r = 1 ∧ D' 2 4 = nI v ∧ D' 2 2 = nI b ∧ cu [2, 4] D D') ∨ (pN (D 3) n a 1 hi = none ∧ r = 0 ∧ D' = D)) ∧ P = P')) D P 0 0 := by
  refine cg_of (by decide +kernel) (Nat.le_of_ble_eq_true rfl) ?_
  intro K hKl hKR C
  refine PV_lv (lv' := [some (.ref (X.2.2 2)), some (.int 1), some (.int (nI hi)), none, none]) rfl ?_
  obtain ⟨t1, t2, t3, t4⟩ := id ht
  refine pv_aload_n (q := 1) C dX2_readNumber_0 rfl rfl rfl ?_ 
  refine pv_callVi (q := 4) C hKl (c_X2_digitAhead l X D P n a ht) tw_967 k2 (by decide) rfl mm_X2_digitAhead ⟨rfl, rfl⟩ (by rw [hKR]; exact ⟨Nat.le_of_ble_eq_true rfl, Nat.le_of_ble_eq_true rfl⟩) (by rw [hKR]; exact ⟨Nat.le_of_ble_eq_true rfl, Nat.le_of_ble_eq_true rfl⟩) rfl rfl rfl (Nat.le_of_ble_eq_true rfl) dX2_readNumber_1 rfl (fun r1 D1 P1 hp1 => ?_) 
  rcases hp1 with ⟨⟨hy1, hq1⟩ | ⟨hn1, rfl⟩, rfl, rfl⟩
  · obtain ⟨d, hd, ed⟩ := rg_N 9 hy1 rfl
    rw [ed] at hq1
    subst hq1
    refine pv_istore_n (q := 5) C dX2_readNumber_4 rfl rfl (Nat.le_of_ble_eq_true rfl) rfl ?_ 
    refine pv_iload_n (q := 6) C dX2_readNumber_5 rfl rfl rfl ?_ 
    refine pv_iload_n (q := 7) C dX2_readNumber_6 rfl rfl rfl ?_ 
    refine pv_icmp_ltN (q := 10) (tgt := 15) (a := d) (b := 1) C rfl rfl (by omega) (by omega) dX2_readNumber_7 (by decide) rfl (fun c_7 => ?_) (fun c_7 => ?_) 
    · refine pv_iconst (q := 16) (v := 0) C dX2_readNumber_15 rfl (by decide) ?_
      exact pv_zret C (Or.inl rfl) (⟨Or.inr ⟨by unfold pN; rw [if_neg (fun z => absurd ((nI_leI (a := 1) (b := d) (by omega) (by omega)).mp (by rw [← ed]; exact z.1.1)) (by omega))], rfl, rfl⟩, rfl⟩) (by decide) (by decide) dX2_readNumber_16
    · refine pv_iload_n (q := 11) C dX2_readNumber_10 rfl rfl rfl ?_
      refine pv_iload_n (q := 12) C dX2_readNumber_11 rfl rfl rfl ?_ 
      refine pv_icmp_leN (q := 15) (tgt := 17) (a := d) (b := hi) C rfl rfl (by omega) (by omega) dX2_readNumber_12 (by decide) rfl (fun c_12 => ?_) (fun c_12 => ?_) 
      · refine pv_aload_n (q := 18) C dX2_readNumber_17 rfl rfl rfl ?_
        refine pv_iload_n (q := 19) C dX2_readNumber_18 rfl rfl rfl ?_ 
        refine pp_2_4 (q := 22) C k2 tw_175 dX2_readNumber_19 rfl (fun D19 hD19 => ?_) 
        refine pv_aload_n (q := 23) C dX2_readNumber_22 rfl rfl rfl ?_ 
        refine pv_dup (q := 24) C dX2_readNumber_23 rfl rfl ?_ 
        refine pg_2_2 (q := 27) C k2 tw_171 dX2_readNumber_24 rfl ?_ 
        rw [show D19 2 2 = nI a by rw [hD19, up2_nk _ _ _ (by decide)]; exact t3]
        refine pv_iconst (q := 28) (v := 1) C dX2_readNumber_27 rfl (by decide) ?_ 
        refine pv_iaddN (q := 29) (a := a) (b := 1) C rfl rfl dX2_readNumber_28 rfl ?_ 
        refine pp_2_2 (q := 32) C k2 tw_171 dX2_readNumber_29 rfl (fun D29 hD29 => ?_) 
        have x29 : D29 3 = D 3 := by rw [hD29, hD19]; rfl
        have w29 : ctx D29 n (a + 1) := ⟨by rw [hD29, hD19]; exact t1, t2, by rw [hD29, up2_self], dg_lt ed (by omega)⟩
        refine pv_aload_n (q := 33) C dX2_readNumber_32 rfl rfl rfl ?_ 
        refine pv_callVi (q := 36) C hKl (c_X2_digitAhead l X D29 P n (a + 1) w29) tw_967 k2 (by decide) rfl mm_X2_digitAhead ⟨rfl, rfl⟩ (by rw [hKR]; exact ⟨Nat.le_of_ble_eq_true rfl, Nat.le_of_ble_eq_true rfl⟩) (by rw [hKR]; exact ⟨Nat.le_of_ble_eq_true rfl, Nat.le_of_ble_eq_true rfl⟩) rfl rfl rfl (Nat.le_of_ble_eq_true rfl) dX2_readNumber_33 rfl (fun r33 D33 P33 hp33 => ?_) 
        rcases hp33 with ⟨⟨hy33, hq33⟩ | ⟨hn33, rfl⟩, rfl, rfl⟩
        · rw [x29] at hy33 hq33
          obtain ⟨d2, hd2, ed2⟩ := rg_N 9 hy33 rfl
          rw [ed2] at hq33
          subst hq33
          refine pv_istore (q := 38) C dX2_readNumber_36 rfl (Nat.le_of_ble_eq_true rfl) rfl ?_ 
          refine pv_iload_n (q := 39) C dX2_readNumber_38 rfl rfl rfl ?_ 
          refine pv_if_eqN (q := 42) (tgt := 80) (a := d) (b := 0) C rfl rfl (by omega) (by omega) dX2_readNumber_39 (by decide) rfl (fun c_39 => ?_) (fun c_39 => ?_) 
          · refine pv_iconst (q := 81) (v := 1) C dX2_readNumber_80 rfl (by decide) ?_
            exact pv_zret C (Or.inr rfl) (⟨Or.inl ⟨d, a + 1, by unfold pN; rw [ed, if_pos ⟨⟨nI_le (by omega) (by omega), nI_le (a := d) (b := 9) (by omega) (by decide)⟩, nI_le (by omega) (by omega)⟩, if_neg (fun z => z.1 (by rw [c_39]; rfl)), ix_n (by omega)], dg_lt ed (by omega), rfl, by rw [hD29, up2_nk _ _ _ (by decide), hD19, up2_self], by rw [hD29, up2_self], by rw [hD29, hD19]; exact ((cu_rf _ D).up (by decide)).up (by decide)⟩, rfl⟩) (by decide) (by decide) dX2_readNumber_81
          · refine pv_iload (q := 44) C dX2_readNumber_42 rfl rfl ?_
            refine pv_iconst (q := 45) (v := (-1)) C dX2_readNumber_44 rfl (by decide) ?_ 
            refine pv_icmp_eq (q := 48) (tgt := 80) C dX2_readNumber_45 (by decide) rfl (fun c_45 => absurd c_45 (nI_m9 (by omega))) (fun c_45 => ?_) 
            refine pv_bipush (q := 50) (v := 10) C dX2_readNumber_48 rfl (by decide) ?_ 
            refine pv_iload_n (q := 51) C dX2_readNumber_50 rfl rfl rfl ?_ 
            refine pv_imulN (q := 52) (a := 10) (b := d) C rfl rfl dX2_readNumber_51 rfl ?_ 
            refine pv_iload (q := 54) C dX2_readNumber_52 rfl rfl ?_ 
            refine pv_iaddN (q := 55) (a := (10 * d)) (b := d2) C rfl rfl dX2_readNumber_54 rfl ?_ 
            refine pv_iload_n (q := 56) C dX2_readNumber_55 rfl rfl rfl ?_ 
            refine pv_icmp_gtN (q := 59) (tgt := 80) (a := ((10 * d) + d2)) (b := hi) C rfl rfl (by omega) (by omega) dX2_readNumber_56 (by decide) rfl (fun c_56 => ?_) (fun c_56 => ?_) 
            · refine pv_iconst (q := 81) (v := 1) C dX2_readNumber_80 rfl (by decide) ?_
              exact pv_zret C (Or.inr rfl) (⟨Or.inl ⟨d, a + 1, by unfold pN; rw [ed, if_pos ⟨⟨nI_le (by omega) (by omega), nI_le (a := d) (b := 9) (by omega) (by decide)⟩, nI_le (by omega) (by omega)⟩, if_neg (fun z => absurd z.2.2 (by rw [ed2, ix_n (by omega), ix_n (by omega)]; omega)), ix_n (by omega)], dg_lt ed (by omega), rfl, by rw [hD29, up2_nk _ _ _ (by decide), hD19, up2_self], by rw [hD29, up2_self], by rw [hD29, hD19]; exact ((cu_rf _ D).up (by decide)).up (by decide)⟩, rfl⟩) (by decide) (by decide) dX2_readNumber_81
            · refine pv_aload_n (q := 60) C dX2_readNumber_59 rfl rfl rfl ?_
              refine pv_bipush (q := 62) (v := 10) C dX2_readNumber_60 rfl (by decide) ?_ 
              refine pv_iload_n (q := 63) C dX2_readNumber_62 rfl rfl rfl ?_ 
              refine pv_imulN (q := 64) (a := 10) (b := d) C rfl rfl dX2_readNumber_63 rfl ?_ 
              refine pv_iload (q := 66) C dX2_readNumber_64 rfl rfl ?_ 
              refine pv_iaddN (q := 67) (a := (10 * d)) (b := d2) C rfl rfl dX2_readNumber_66 rfl ?_ 
              refine pp_2_4 (q := 70) C k2 tw_175 dX2_readNumber_67 rfl (fun D67 hD67 => ?_) 
              refine pv_aload_n (q := 71) C dX2_readNumber_70 rfl rfl rfl ?_ 
              refine pv_dup (q := 72) C dX2_readNumber_71 rfl rfl ?_ 
              refine pg_2_2 (q := 75) C k2 tw_171 dX2_readNumber_72 rfl ?_ 
              rw [show D67 2 2 = nI (a + 1) by rw [hD67, up2_nk _ _ _ (by decide)]; exact w29.2.2.1]
              refine pv_iconst (q := 76) (v := 1) C dX2_readNumber_75 rfl (by decide) ?_ 
              refine pv_iaddN (q := 77) (a := (a + 1)) (b := 1) C rfl rfl dX2_readNumber_76 rfl ?_ 
              refine pp_2_2 (q := 80) C k2 tw_171 dX2_readNumber_77 rfl (fun D77 hD77 => ?_) 
              refine pv_iconst (q := 81) (v := 1) C dX2_readNumber_80 rfl (by decide) ?_ 
              exact pv_zret C (Or.inr rfl) (⟨Or.inl ⟨10 * d + d2, a + 1 + 1, by unfold pN; rw [ed, if_pos ⟨⟨nI_le (by omega) (by omega), nI_le (a := d) (b := 9) (by omega) (by decide)⟩, nI_le (by omega) (by omega)⟩, if_pos ⟨nI_ne0 (by omega) (by omega), hy33, by rw [ed2, ix_n (by omega), ix_n (by omega)]; omega⟩, ed2, ix_n (by omega), ix_n (by omega)], dg_lt ed2 (by omega), rfl, by rw [hD77, up2_nk _ _ _ (by decide), hD67, up2_self], by rw [hD77, up2_self], by rw [hD77, hD67, hD29, hD19]; exact ((((cu_rf _ D).up (by decide)).up (by decide)).up (by decide)).up (by decide)⟩, rfl⟩) (by decide) (by decide) dX2_readNumber_81
        · rw [x29] at hn33
          refine pv_istore (q := 38) C dX2_readNumber_36 rfl (Nat.le_of_ble_eq_true rfl) rfl ?_ 
          refine pv_iload_n (q := 39) C dX2_readNumber_38 rfl rfl rfl ?_ 
          refine pv_if_eqN (q := 42) (tgt := 80) (a := d) (b := 0) C rfl rfl (by omega) (by omega) dX2_readNumber_39 (by decide) rfl (fun c_39 => ?_) (fun c_39 => ?_) 
          · refine pv_iconst (q := 81) (v := 1) C dX2_readNumber_80 rfl (by decide) ?_
            exact pv_zret C (Or.inr rfl) (⟨Or.inl ⟨d, a + 1, by unfold pN; rw [ed, if_pos ⟨⟨nI_le (by omega) (by omega), nI_le (a := d) (b := 9) (by omega) (by decide)⟩, nI_le (by omega) (by omega)⟩, if_neg (fun z => z.1 (by rw [c_39]; rfl)), ix_n (by omega)], dg_lt ed (by omega), rfl, by rw [hD29, up2_nk _ _ _ (by decide), hD19, up2_self], by rw [hD29, up2_self], by rw [hD29, hD19]; exact ((cu_rf _ D).up (by decide)).up (by decide)⟩, rfl⟩) (by decide) (by decide) dX2_readNumber_81
          · refine pv_iload (q := 44) C dX2_readNumber_42 rfl rfl ?_
            refine pv_iconst (q := 45) (v := (-1)) C dX2_readNumber_44 rfl (by decide) ?_ 
            refine pv_icmp_eq (q := 48) (tgt := 80) C dX2_readNumber_45 (by decide) rfl (fun _ => ?_) (fun h => absurd h (by decide)) 
            refine pv_iconst (q := 81) (v := 1) C dX2_readNumber_80 rfl (by decide) ?_ 
            exact pv_zret C (Or.inr rfl) (⟨Or.inl ⟨d, a + 1, by unfold pN; rw [ed, if_pos ⟨⟨nI_le (by omega) (by omega), nI_le (a := d) (b := 9) (by omega) (by decide)⟩, nI_le (by omega) (by omega)⟩, if_neg (fun z => hn33 z.2.1), ix_n (by omega)], dg_lt ed (by omega), rfl, by rw [hD29, up2_nk _ _ _ (by decide), hD19, up2_self], by rw [hD29, up2_self], by rw [hD29, hD19]; exact ((cu_rf _ D).up (by decide)).up (by decide)⟩, rfl⟩) (by decide) (by decide) dX2_readNumber_81
      · refine pv_iconst (q := 16) (v := 0) C dX2_readNumber_15 rfl (by decide) ?_
        exact pv_zret C (Or.inl rfl) (⟨Or.inr ⟨by unfold pN; rw [if_neg (fun z => absurd ((nI_leI (a := d) (b := hi) (by omega) (by omega)).mp (by rw [← ed]; exact z.2)) (by omega))], rfl, rfl⟩, rfl⟩) (by decide) (by decide) dX2_readNumber_16
  · refine pv_istore_n (q := 5) C dX2_readNumber_4 rfl rfl (Nat.le_of_ble_eq_true rfl) rfl ?_
    refine pv_iload_n (q := 6) C dX2_readNumber_5 rfl rfl rfl ?_ 
    refine pv_iload_n (q := 7) C dX2_readNumber_6 rfl rfl rfl ?_ 
    refine pv_icmp_lt (q := 10) (tgt := 15) C dX2_readNumber_7 (by decide) rfl (fun _ => ?_) (fun h => absurd h (by decide)) 
    refine pv_iconst (q := 16) (v := 0) C dX2_readNumber_15 rfl (by decide) ?_ 
    exact pv_zret C (Or.inl rfl) (⟨Or.inr ⟨by unfold pN; rw [if_neg (fun z => hn1 ⟨Int32.le_trans (by decide) z.1.1, z.1.2⟩)], rfl, rfl⟩, rfl⟩) (by decide) (by decide) dX2_readNumber_16
set_option maxRecDepth 100000 in
set_option maxHeartbeats 4000000 in
theorem c_X2_readAmount (l : Launch) (X : XT) (D : DT) (P : PT) (n a : Nat) (ht : ctx D n a)  : CG l X yX2_readAmount (.code yX2_readAmount cX2_readAmount 4 (some .boolean) :: AW) ({ frames := 2, cells := 0, slots := 0, locals := 72 } : Room) [.ref (X.2.2 2)] (qI X (fun r D' P' => ((∃ x b, pA (D 3) n a = (some x, b) ∧ b ≤ n ∧ r = 1 ∧ D' 2 2 = nI b ∧ D' 2 6 = x ∧ cu [2, 6] D D') ∨ (∃ b, pA (D 3) n a = (none, b) ∧ b ≤ n ∧ r = 0 ∧ D' 2 2 = nI b ∧ cu [2, 6] D D')) ∧ P = P')) D P 0 0 := by
  refine cg_of (by decide +kernel) (Nat.le_of_ble_eq_true rfl) ?_
  intro K hKl hKR C
  refine PV_lv (lv' := [some (.ref (X.2.2 2)), none, none, none]) rfl ?_
  obtain ⟨t1, t2, t3, t4⟩ := id ht
  refine pv_aload_n (q := 1) C dX2_readAmount_0 rfl rfl rfl ?_ 
  refine pg_2_4 (q := 4) C k2 tw_175 dX2_readAmount_1 rfl ?_ 
  refine pv_istore_n (q := 5) C dX2_readAmount_4 rfl rfl (Nat.le_of_ble_eq_true rfl) rfl ?_ 
  refine pv_aload_n (q := 6) C dX2_readAmount_5 rfl rfl rfl ?_ 
  refine pv_bipush (q := 8) (v := 45) C dX2_readAmount_6 rfl (by decide) ?_ 
  refine pv_callVi (q := 11) C hKl (c_X2_readSign l X D P 45 (by decide) n a ht) tw_979 k2 (by decide) rfl mm_X2_readSign ⟨rfl, rfl⟩ (by rw [hKR]; exact ⟨Nat.le_of_ble_eq_true rfl, Nat.le_of_ble_eq_true rfl⟩) (by rw [hKR]; exact ⟨Nat.le_of_ble_eq_true rfl, Nat.le_of_ble_eq_true rfl⟩) rfl rfl rfl (Nat.le_of_ble_eq_true rfl) dX2_readAmount_8 rfl (fun r8 D8 P8 hp8 => ?_) 
  rcases hp8 with ⟨⟨hS8, hl8, rfl, hD8⟩ | ⟨hn8, rfl, hD8⟩, rfl⟩
  · have x8 : D8 3 = D 3 := by rw [hD8]; rfl
    have w8 : ctx D8 n (a + 1) := ⟨by rw [hD8]; exact t1, t2, by rw [hD8, up2_self], hl8⟩
    have c8 : cu [2, 4] D D8 := by rw [hD8]; exact (cu_rf _ D).up (by decide)
    refine pv_istore_n (q := 12) C dX2_readAmount_11 rfl rfl (Nat.le_of_ble_eq_true rfl) rfl ?_ 
    refine pv_aload_n (q := 13) C dX2_readAmount_12 rfl rfl rfl ?_ 
    refine pv_iload_n (q := 14) C dX2_readAmount_13 rfl rfl rfl ?_ 
    refine pv_if_eq (q := 17) (tgt := 21) C dX2_readAmount_14 (by decide) rfl (fun h => absurd h (by decide)) (fun _ => ?_) 
    refine pv_iconst (q := 18) (v := 1) C dX2_readAmount_17 rfl (by decide) ?_ 
    refine pv_goto (tgt := 22) C dX2_readAmount_18 (by decide) ?_ 
    refine pv_bipush (q := 24) (v := 99) C dX2_readAmount_22 rfl (by decide) ?_ 
    refine pv_callVi (q := 27) C hKl (c_X2_readNumber1 l X D8 P n (a + 1) w8 99 (by decide)) tw_963 k2 (by decide) rfl mm_X2_readNumber ⟨rfl, rfl⟩ (by rw [hKR]; exact ⟨Nat.le_of_ble_eq_true rfl, Nat.le_of_ble_eq_true rfl⟩) (by rw [hKR]; exact ⟨Nat.le_of_ble_eq_true rfl, Nat.le_of_ble_eq_true rfl⟩) rfl rfl rfl (Nat.le_of_ble_eq_true rfl) dX2_readAmount_24 rfl (fun r24 D24 P24 hp24 => ?_) 
    rcases hp24 with ⟨⟨v24, b24, hN24, hb24, rfl, hf24, ha24, hc24⟩ | ⟨hN24, rfl, hE24⟩, rfl⟩
    · rw [x8] at hN24
      have hcu : cu [2, 4] D D24 := c8.tr hc24
      refine pv_istore_n (q := 28) C dX2_readAmount_27 rfl rfl (Nat.le_of_ble_eq_true rfl) rfl ?_ 
      refine pv_aload_n (q := 29) C dX2_readAmount_28 rfl rfl rfl ?_ 
      refine pv_iload_n (q := 30) C dX2_readAmount_29 rfl rfl rfl ?_ 
      refine pv_if_eq (q := 33) (tgt := 41) C dX2_readAmount_30 (by decide) rfl (fun h => absurd h (by decide)) (fun _ => ?_) 
      refine pv_aload_n (q := 34) C dX2_readAmount_33 rfl rfl rfl ?_ 
      refine pg_2_4 (q := 37) C k2 tw_175 dX2_readAmount_34 rfl ?_ 
      refine pv_ineg (q := 38) C dX2_readAmount_37 rfl ?_ 
      refine pv_goto (tgt := 45) C dX2_readAmount_38 (by decide) ?_ 
      refine pp_2_6 (q := 48) C k2 tw_179 dX2_readAmount_45 rfl (fun D45 hD45 => ?_) 
      refine pv_aload_n (q := 49) C dX2_readAmount_48 rfl rfl rfl ?_ 
      refine pv_iload_n (q := 50) C dX2_readAmount_49 rfl rfl rfl ?_ 
      refine pp_2_4 (q := 53) C k2 tw_175 dX2_readAmount_50 rfl (fun D50 hD50 => ?_) 
      refine pv_iload_n (q := 54) C dX2_readAmount_53 rfl rfl rfl ?_ 
      exact pv_zret C (Or.inr rfl) (⟨Or.inl ⟨-(nI v24), b24, by unfold pA; rw [if_pos hS8, hN24], hb24, rfl, by rw [hD50, up2_nk _ _ _ (by decide), hD45, up2_nk _ _ _ (by decide)]; exact ha24, by rw [hD50, up2_nk _ _ _ (by decide), hD45, up2_self, hf24], by
              refine ⟨fun i hi => by rw [hD50, up2_ne _ _ _ hi, hD45, up2_ne _ _ _ hi]; exact hcu.1 i hi, fun k hk => ?_⟩
              by_cases e : k = 4
              · subst e; rw [hD50, up2_self]
              · rw [hD50, up2_nk _ _ _ e, hD45, up2_nk _ _ _ (fun z => hk (by rw [z]; decide))]
                exact hcu.2 k (by simp only [List.mem_cons, List.not_mem_nil, or_false, not_or] at hk ⊢; exact ⟨hk.1, e⟩)⟩, rfl⟩) (by decide) (by decide) dX2_readAmount_54
    · rw [x8] at hN24
      have hcu : cu [2, 4] D D24 := by rw [hE24]; exact c8
      refine pv_istore_n (q := 28) C dX2_readAmount_27 rfl rfl (Nat.le_of_ble_eq_true rfl) rfl ?_ 
      refine pv_aload_n (q := 29) C dX2_readAmount_28 rfl rfl rfl ?_ 
      refine pv_iload_n (q := 30) C dX2_readAmount_29 rfl rfl rfl ?_ 
      refine pv_if_eq (q := 33) (tgt := 41) C dX2_readAmount_30 (by decide) rfl (fun h => absurd h (by decide)) (fun _ => ?_) 
      refine pv_aload_n (q := 34) C dX2_readAmount_33 rfl rfl rfl ?_ 
      refine pg_2_4 (q := 37) C k2 tw_175 dX2_readAmount_34 rfl ?_ 
      refine pv_ineg (q := 38) C dX2_readAmount_37 rfl ?_ 
      refine pv_goto (tgt := 45) C dX2_readAmount_38 (by decide) ?_ 
      refine pp_2_6 (q := 48) C k2 tw_179 dX2_readAmount_45 rfl (fun D45 hD45 => ?_) 
      refine pv_aload_n (q := 49) C dX2_readAmount_48 rfl rfl rfl ?_ 
      refine pv_iload_n (q := 50) C dX2_readAmount_49 rfl rfl rfl ?_ 
      refine pp_2_4 (q := 53) C k2 tw_175 dX2_readAmount_50 rfl (fun D50 hD50 => ?_) 
      refine pv_iload_n (q := 54) C dX2_readAmount_53 rfl rfl rfl ?_ 
      exact pv_zret C (Or.inl rfl) (⟨Or.inr ⟨a + 1, by unfold pA; rw [if_pos hS8, hN24], by omega, rfl, by rw [hD50, up2_nk _ _ _ (by decide), hD45, up2_nk _ _ _ (by decide), hE24]; exact w8.2.2.1, by
              refine ⟨fun i hi => by rw [hD50, up2_ne _ _ _ hi, hD45, up2_ne _ _ _ hi]; exact hcu.1 i hi, fun k hk => ?_⟩
              by_cases e : k = 4
              · subst e; rw [hD50, up2_self]
              · rw [hD50, up2_nk _ _ _ e, hD45, up2_nk _ _ _ (fun z => hk (by rw [z]; decide))]
                exact hcu.2 k (by simp only [List.mem_cons, List.not_mem_nil, or_false, not_or] at hk ⊢; exact ⟨hk.1, e⟩)⟩, rfl⟩) (by decide) (by decide) dX2_readAmount_54
  · have x8 : D8 3 = D 3 := by rw [hD8]
    have w8 : ctx D8 n a := by rw [hD8]; exact ht
    have c8 : cu [2, 4] D D8 := by rw [hD8]; exact cu_rf _ D
    refine pv_istore_n (q := 12) C dX2_readAmount_11 rfl rfl (Nat.le_of_ble_eq_true rfl) rfl ?_ 
    refine pv_aload_n (q := 13) C dX2_readAmount_12 rfl rfl rfl ?_ 
    refine pv_iload_n (q := 14) C dX2_readAmount_13 rfl rfl rfl ?_ 
    refine pv_if_eq (q := 17) (tgt := 21) C dX2_readAmount_14 (by decide) rfl (fun _ => ?_) (fun h => absurd h (by decide)) 
    refine pv_iconst (q := 22) (v := 0) C dX2_readAmount_21 rfl (by decide) ?_ 
    refine pv_bipush (q := 24) (v := 99) C dX2_readAmount_22 rfl (by decide) ?_ 
    refine pv_callVi (q := 27) C hKl (c_X2_readNumber0 l X D8 P n a w8 99 (by decide)) tw_963 k2 (by decide) rfl mm_X2_readNumber ⟨rfl, rfl⟩ (by rw [hKR]; exact ⟨Nat.le_of_ble_eq_true rfl, Nat.le_of_ble_eq_true rfl⟩) (by rw [hKR]; exact ⟨Nat.le_of_ble_eq_true rfl, Nat.le_of_ble_eq_true rfl⟩) rfl rfl rfl (Nat.le_of_ble_eq_true rfl) dX2_readAmount_24 rfl (fun r24 D24 P24 hp24 => ?_) 
    rcases hp24 with ⟨⟨v24, b24, hN24, hb24, rfl, hf24, ha24, hc24⟩ | ⟨hN24, rfl, hE24⟩, rfl⟩
    · rw [x8] at hN24
      have hcu : cu [2, 4] D D24 := c8.tr hc24
      refine pv_istore_n (q := 28) C dX2_readAmount_27 rfl rfl (Nat.le_of_ble_eq_true rfl) rfl ?_ 
      refine pv_aload_n (q := 29) C dX2_readAmount_28 rfl rfl rfl ?_ 
      refine pv_iload_n (q := 30) C dX2_readAmount_29 rfl rfl rfl ?_ 
      refine pv_if_eq (q := 33) (tgt := 41) C dX2_readAmount_30 (by decide) rfl (fun _ => ?_) (fun h => absurd h (by decide)) 
      refine pv_aload_n (q := 42) C dX2_readAmount_41 rfl rfl rfl ?_ 
      refine pg_2_4 (q := 45) C k2 tw_175 dX2_readAmount_42 rfl ?_ 
      refine pp_2_6 (q := 48) C k2 tw_179 dX2_readAmount_45 rfl (fun D45 hD45 => ?_) 
      refine pv_aload_n (q := 49) C dX2_readAmount_48 rfl rfl rfl ?_ 
      refine pv_iload_n (q := 50) C dX2_readAmount_49 rfl rfl rfl ?_ 
      refine pp_2_4 (q := 53) C k2 tw_175 dX2_readAmount_50 rfl (fun D50 hD50 => ?_) 
      refine pv_iload_n (q := 54) C dX2_readAmount_53 rfl rfl rfl ?_ 
      exact pv_zret C (Or.inr rfl) (⟨Or.inl ⟨nI v24, b24, by unfold pA; rw [if_neg hn8, hN24], hb24, rfl, by rw [hD50, up2_nk _ _ _ (by decide), hD45, up2_nk _ _ _ (by decide)]; exact ha24, by rw [hD50, up2_nk _ _ _ (by decide), hD45, up2_self, hf24], by
              refine ⟨fun i hi => by rw [hD50, up2_ne _ _ _ hi, hD45, up2_ne _ _ _ hi]; exact hcu.1 i hi, fun k hk => ?_⟩
              by_cases e : k = 4
              · subst e; rw [hD50, up2_self]
              · rw [hD50, up2_nk _ _ _ e, hD45, up2_nk _ _ _ (fun z => hk (by rw [z]; decide))]
                exact hcu.2 k (by simp only [List.mem_cons, List.not_mem_nil, or_false, not_or] at hk ⊢; exact ⟨hk.1, e⟩)⟩, rfl⟩) (by decide) (by decide) dX2_readAmount_54
    · rw [x8] at hN24
      have hcu : cu [2, 4] D D24 := by rw [hE24]; exact c8
      refine pv_istore_n (q := 28) C dX2_readAmount_27 rfl rfl (Nat.le_of_ble_eq_true rfl) rfl ?_ 
      refine pv_aload_n (q := 29) C dX2_readAmount_28 rfl rfl rfl ?_ 
      refine pv_iload_n (q := 30) C dX2_readAmount_29 rfl rfl rfl ?_ 
      refine pv_if_eq (q := 33) (tgt := 41) C dX2_readAmount_30 (by decide) rfl (fun _ => ?_) (fun h => absurd h (by decide)) 
      refine pv_aload_n (q := 42) C dX2_readAmount_41 rfl rfl rfl ?_ 
      refine pg_2_4 (q := 45) C k2 tw_175 dX2_readAmount_42 rfl ?_ 
      refine pp_2_6 (q := 48) C k2 tw_179 dX2_readAmount_45 rfl (fun D45 hD45 => ?_) 
      refine pv_aload_n (q := 49) C dX2_readAmount_48 rfl rfl rfl ?_ 
      refine pv_iload_n (q := 50) C dX2_readAmount_49 rfl rfl rfl ?_ 
      refine pp_2_4 (q := 53) C k2 tw_175 dX2_readAmount_50 rfl (fun D50 hD50 => ?_) 
      refine pv_iload_n (q := 54) C dX2_readAmount_53 rfl rfl rfl ?_ 
      exact pv_zret C (Or.inl rfl) (⟨Or.inr ⟨a, by unfold pA; rw [if_neg hn8, hN24], t4, rfl, by rw [hD50, up2_nk _ _ _ (by decide), hD45, up2_nk _ _ _ (by decide), hE24]; exact w8.2.2.1, by
              refine ⟨fun i hi => by rw [hD50, up2_ne _ _ _ hi, hD45, up2_ne _ _ _ hi]; exact hcu.1 i hi, fun k hk => ?_⟩
              by_cases e : k = 4
              · subst e; rw [hD50, up2_self]
              · rw [hD50, up2_nk _ _ _ e, hD45, up2_nk _ _ _ (fun z => hk (by rw [z]; decide))]
                exact hcu.2 k (by simp only [List.mem_cons, List.not_mem_nil, or_false, not_or] at hk ⊢; exact ⟨hk.1, e⟩)⟩, rfl⟩) (by decide) (by decide) dX2_readAmount_54
set_option maxRecDepth 100000 in
set_option maxHeartbeats 4000000 in
theorem c_X2_readPart (l : Launch) (X : XT) (D : DT) (P : PT) (n a : Nat) (ht : ctx D n a)  : CG l X yX2_readPart (.code yX2_readPart cX2_readPart 1 (some .boolean) :: AW) ({ frames := 3, cells := 0, slots := 0, locals := 108 } : Room) [.ref (X.2.2 2)] (qI X (fun r D' P' => ((∃ p b, pPart (D 3) n a = (some p, b) ∧ b ≤ n ∧ r = 1 ∧ D' 2 2 = nI b ∧ D' 2 3 = p.1 ∧ D' 2 4 = nI p.2.1 ∧ (p.1 = 105 ∨ p.1 = 103 → D' 2 5 = p.2.2.1) ∧ (p.1 = 105 ∨ p.1 = 117 → D' 2 6 = p.2.2.2) ∧ cu [2, 3, 4, 5, 6] D D') ∨ (∃ b, pPart (D 3) n a = (none, b) ∧ b ≤ n ∧ r = 0 ∧ D' 2 2 = nI b ∧ cu [2, 3, 4, 5, 6] D D')) ∧ P = P')) D P 0 0 := by
  refine cg_of (by decide +kernel) (Nat.le_of_ble_eq_true rfl) ?_
  intro K hKl hKR C
  refine PV_lv (lv' := [some (.ref (X.2.2 2))]) rfl ?_
  obtain ⟨t1, t2, t3, t4⟩ := id ht
  refine pv_aload_n (q := 1) C dX2_readPart_0 rfl rfl rfl ?_ 
  refine pg_2_2 (q := 4) C k2 tw_171 dX2_readPart_1 rfl ?_ 
  rw [t3]
  refine pv_aload_n (q := 5) C dX2_readPart_4 rfl rfl rfl ?_ 
  refine pg_2_1 (q := 8) C k2 tw_169 dX2_readPart_5 rfl ?_ 
  rw [t1]
  refine pv_icmp_geN (q := 11) (tgt := 23) (a := a) (b := n) C rfl rfl (by omega) (by omega) dX2_readPart_8 (by decide) rfl (fun c_8 => ?_) (fun c_8 => ?_) 
  · refine pv_iconst (q := 24) (v := 0) C dX2_readPart_23 rfl (by decide) ?_
    exact pv_zret C (Or.inl rfl) (⟨Or.inr ⟨a, by unfold pPart; rw [hr_out (by omega)]; rfl, t4, rfl, t3, cu_rf _ D⟩, rfl⟩) (by decide) (by decide) dX2_readPart_24
  · refine pv_aload_n (q := 12) C dX2_readPart_11 rfl rfl rfl ?_
    refine pg_2_2 (q := 15) C k2 tw_171 dX2_readPart_12 rfl ?_ 
    rw [t3]
    refine pv_aload_n (q := 16) C dX2_readPart_15 rfl rfl rfl ?_ 
    refine pg_2_0 (q := 19) C k2 tw_168 dX2_readPart_16 rfl (fun k16 => ?_) 
    refine pv_alen_8 (q := 20) C k16 dX2_readPart_19 rfl ?_ 
    refine pv_icmp_ltN (q := 23) (tgt := 25) (a := a) (b := 60) C rfl rfl (by omega) (by omega) dX2_readPart_20 (by decide) rfl (fun c_20 => ?_) (fun c_20 => ?_) 
    · refine pv_aload_n (q := 26) C dX2_readPart_25 rfl rfl rfl ?_
      refine pv_aload_n (q := 27) C dX2_readPart_26 rfl rfl rfl ?_ 
      refine pg_2_0 (q := 30) C k2 tw_168 dX2_readPart_27 rfl (fun k27 => ?_) 
      refine pv_aload_n (q := 31) C dX2_readPart_30 rfl rfl rfl ?_ 
      refine pg_2_2 (q := 34) C k2 tw_171 dX2_readPart_31 rfl ?_ 
      rw [t3]
      refine pv_cald (q := 35) (j := a) C k27 rfl (by omega) dX2_readPart_34 rfl ?_ 
      refine pp_2_3 (q := 38) C k2 tw_173 dX2_readPart_35 rfl (fun D35 hD35 => ?_) 
      refine pv_aload_n (q := 39) C dX2_readPart_38 rfl rfl rfl ?_ 
      refine pg_2_3 (q := 42) C k2 tw_173 dX2_readPart_39 rfl ?_ 
      rw [show D35 2 3 = D 3 a by rw [hD35, up2_self]]
      by_cases s_103 : D 3 a = 103
      · refine pv_tableIn (tgt := 218) (off := 176) C dX2_readPart_42 (by rw [s_103]; decide) (by rw [s_103]; decide) (by rw [s_103]; rfl) (by decide) ?_
        refine pv_aload_n (q := 219) C dX2_readPart_218 rfl rfl rfl ?_ 
        refine pv_dup (q := 220) C dX2_readPart_219 rfl rfl ?_ 
        refine pg_2_2 (q := 223) C k2 tw_171 dX2_readPart_220 rfl ?_ 
        rw [show D35 2 2 = nI a by rw [hD35, up2_nk _ _ _ (by decide)]; exact t3]
        refine pv_iconst (q := 224) (v := 1) C dX2_readPart_223 rfl (by decide) ?_ 
        refine pv_iaddN (q := 225) (a := a) (b := 1) C rfl rfl dX2_readPart_224 rfl ?_ 
        refine pp_2_2 (q := 228) C k2 tw_171 dX2_readPart_225 rfl (fun D225 hD225 => ?_) 
        have w1 : ctx D225 n (a + 1) := ⟨by rw [hD225, hD35]; exact t1, t2, by rw [hD225, up2_self], by omega⟩
        have x1 : D225 3 = D 3 := by rw [hD225, hD35]; rfl
        have c1 : cu [2, 3, 4, 5, 6] D D225 := by rw [hD225, hD35]; exact ((cu_rf _ D).up (by decide)).up (by decide)
        have kk : D225 2 3 = D 3 a := by rw [hD225, up2_nk _ _ _ (by decide), hD35, up2_self]
        refine pv_aload_n (q := 229) C dX2_readPart_228 rfl rfl rfl ?_ 
        refine pv_iconst (q := 230) (v := 0) C dX2_readPart_229 rfl (by decide) ?_ 
        refine pv_bipush (q := 232) (v := 15) C dX2_readPart_230 rfl (by decide) ?_ 
        refine pv_callVi (q := 235) C hKl (c_X2_readNumber0 l X D225 P n (a + 1) w1 15 (by decide)) tw_963 k2 (by decide) rfl mm_X2_readNumber ⟨rfl, rfl⟩ (by rw [hKR]; exact ⟨Nat.le_of_ble_eq_true rfl, Nat.le_of_ble_eq_true rfl⟩) (by rw [hKR]; exact ⟨Nat.le_of_ble_eq_true rfl, Nat.le_of_ble_eq_true rfl⟩) rfl rfl rfl (Nat.le_of_ble_eq_true rfl) dX2_readPart_232 rfl (fun r232 D232 P232 hp232 => ?_) 
        rcases hp232 with ⟨⟨v, b, hN, hb, rfl, hf, ha, hc⟩ | ⟨hN, rfl, hE⟩, rfl⟩
        · rw [x1] at hN
          have c2 := c1.tr (hc.mono (fun k hk => by simp only [List.mem_cons, List.not_mem_nil, or_false] at hk ⊢; omega))
          have x2 : D232 3 = D 3 := c2.1 3 (by decide)
          have w2 : ctx D232 n b := ⟨(c2.2 1 (by decide)).trans t1, t2, ha, hb⟩
          have kk2 : D232 2 3 = D 3 a := (hc.2 3 (by decide)).trans kk
          refine pv_if_eq (q := 238) (tgt := 249) C dX2_readPart_235 (by decide) rfl (fun h => absurd h (by decide)) (fun _ => ?_) 
          refine pv_aload_n (q := 239) C dX2_readPart_238 rfl rfl rfl ?_ 
          refine pv_callVi (q := 242) C hKl (c_X2_readGroup l X D232 P n b w2) tw_971 k2 (by decide) rfl mm_X2_readGroup ⟨rfl, rfl⟩ (by rw [hKR]; exact ⟨Nat.le_of_ble_eq_true rfl, Nat.le_of_ble_eq_true rfl⟩) (by rw [hKR]; exact ⟨Nat.le_of_ble_eq_true rfl, Nat.le_of_ble_eq_true rfl⟩) rfl rfl rfl (Nat.le_of_ble_eq_true rfl) dX2_readPart_239 rfl (fun r239 D239 P239 hp239 => ?_) 
          rcases hp239 with ⟨⟨g, hG, hgl, rfl, hDg⟩ | ⟨hG, rfl, hDg⟩, rfl⟩
          · rw [x2] at hG
            have c3 : cu [2, 3, 4, 5, 6] D D239 := by rw [hDg]; exact (c2.up (by decide)).up (by decide)
            have x3 : D239 3 = D 3 := c3.1 3 (by decide)
            have w3 : ctx D239 n (b + 1) := ⟨(c3.2 1 (by decide)).trans t1, t2, by rw [hDg, up2_self], hgl⟩
            have kk3 : D239 2 3 = D 3 a := by rw [hDg, up2_nk _ _ _ (by decide), up2_nk _ _ _ (by decide)]; exact kk2
            have nn3 : D239 2 4 = nI v := by rw [hDg, up2_nk _ _ _ (by decide), up2_nk _ _ _ (by decide)]; exact hf
            have gg3 : D239 2 5 = g := by rw [hDg, up2_nk _ _ _ (by decide), up2_self]
            refine pv_if_eq (q := 245) (tgt := 249) C dX2_readPart_242 (by decide) rfl (fun h => absurd h (by decide)) (fun _ => ?_) 
            refine pv_iconst (q := 246) (v := 1) C dX2_readPart_245 rfl (by decide) ?_ 
            refine pv_goto (tgt := 250) C dX2_readPart_246 (by decide) ?_ 
            exact pv_zret C (Or.inr rfl) (⟨Or.inl ⟨(103, v, g, 0), b + 1, by unfold pPart; rw [hr_in (show a < n by omega), s_103, if_pos (by decide)]; unfold pRow; rw [hN]; (try dsimp only); rw [if_neg (by decide), if_pos rfl, hG], hgl, rfl, w3.2.2.1, kk3.trans s_103, nn3, (fun _ => gg3), (fun z => by dsimp only at z; rcases z with z | z <;> exact absurd z (by decide)), c3⟩, rfl⟩) (by decide) (by decide) dX2_readPart_250
          · rw [x2] at hG
            refine pv_if_eq (q := 245) (tgt := 249) C dX2_readPart_242 (by decide) rfl (fun _ => ?_) (fun h => absurd h (by decide)) 
            refine pv_iconst (q := 250) (v := 0) C dX2_readPart_249 rfl (by decide) ?_ 
            exact pv_zret C (Or.inl rfl) (⟨Or.inr ⟨b, by unfold pPart; rw [hr_in (show a < n by omega), s_103, if_pos (by decide)]; unfold pRow; rw [hN]; (try dsimp only); rw [if_neg (by decide), if_pos rfl, hG], hb, rfl, by rw [hDg]; exact ha, by rw [hDg]; exact c2⟩, rfl⟩) (by decide) (by decide) dX2_readPart_250
        · rw [x1] at hN
          refine pv_if_eq (q := 238) (tgt := 249) C dX2_readPart_235 (by decide) rfl (fun _ => ?_) (fun h => absurd h (by decide)) 
          refine pv_iconst (q := 250) (v := 0) C dX2_readPart_249 rfl (by decide) ?_ 
          exact pv_zret C (Or.inl rfl) (⟨Or.inr ⟨a + 1, by unfold pPart; rw [hr_in (show a < n by omega), s_103, if_pos (by decide)]; unfold pRow; rw [hN], by omega, rfl, by rw [hE]; exact w1.2.2.1, by rw [hE]; exact c1⟩, rfl⟩) (by decide) (by decide) dX2_readPart_250
      by_cases s_105 : D 3 a = 105
      · refine pv_tableIn (tgt := 136) (off := 94) C dX2_readPart_42 (by rw [s_105]; decide) (by rw [s_105]; decide) (by rw [s_105]; rfl) (by decide) ?_
        refine pv_aload_n (q := 137) C dX2_readPart_136 rfl rfl rfl ?_ 
        refine pv_dup (q := 138) C dX2_readPart_137 rfl rfl ?_ 
        refine pg_2_2 (q := 141) C k2 tw_171 dX2_readPart_138 rfl ?_ 
        rw [show D35 2 2 = nI a by rw [hD35, up2_nk _ _ _ (by decide)]; exact t3]
        refine pv_iconst (q := 142) (v := 1) C dX2_readPart_141 rfl (by decide) ?_ 
        refine pv_iaddN (q := 143) (a := a) (b := 1) C rfl rfl dX2_readPart_142 rfl ?_ 
        refine pp_2_2 (q := 146) C k2 tw_171 dX2_readPart_143 rfl (fun D143 hD143 => ?_) 
        have w1 : ctx D143 n (a + 1) := ⟨by rw [hD143, hD35]; exact t1, t2, by rw [hD143, up2_self], by omega⟩
        have x1 : D143 3 = D 3 := by rw [hD143, hD35]; rfl
        have c1 : cu [2, 3, 4, 5, 6] D D143 := by rw [hD143, hD35]; exact ((cu_rf _ D).up (by decide)).up (by decide)
        have kk : D143 2 3 = D 3 a := by rw [hD143, up2_nk _ _ _ (by decide), hD35, up2_self]
        refine pv_aload_n (q := 147) C dX2_readPart_146 rfl rfl rfl ?_ 
        refine pv_iconst (q := 148) (v := 0) C dX2_readPart_147 rfl (by decide) ?_ 
        refine pv_bipush (q := 150) (v := 15) C dX2_readPart_148 rfl (by decide) ?_ 
        refine pv_callVi (q := 153) C hKl (c_X2_readNumber0 l X D143 P n (a + 1) w1 15 (by decide)) tw_963 k2 (by decide) rfl mm_X2_readNumber ⟨rfl, rfl⟩ (by rw [hKR]; exact ⟨Nat.le_of_ble_eq_true rfl, Nat.le_of_ble_eq_true rfl⟩) (by rw [hKR]; exact ⟨Nat.le_of_ble_eq_true rfl, Nat.le_of_ble_eq_true rfl⟩) rfl rfl rfl (Nat.le_of_ble_eq_true rfl) dX2_readPart_150 rfl (fun r150 D150 P150 hp150 => ?_) 
        rcases hp150 with ⟨⟨v, b, hN, hb, rfl, hf, ha, hc⟩ | ⟨hN, rfl, hE⟩, rfl⟩
        · rw [x1] at hN
          have c2 := c1.tr (hc.mono (fun k hk => by simp only [List.mem_cons, List.not_mem_nil, or_false] at hk ⊢; omega))
          have x2 : D150 3 = D 3 := c2.1 3 (by decide)
          have w2 : ctx D150 n b := ⟨(c2.2 1 (by decide)).trans t1, t2, ha, hb⟩
          have kk2 : D150 2 3 = D 3 a := (hc.2 3 (by decide)).trans kk
          refine pv_if_eq (q := 156) (tgt := 174) C dX2_readPart_153 (by decide) rfl (fun h => absurd h (by decide)) (fun _ => ?_) 
          refine pv_aload_n (q := 157) C dX2_readPart_156 rfl rfl rfl ?_ 
          refine pv_callVi (q := 160) C hKl (c_X2_readGroup l X D150 P n b w2) tw_971 k2 (by decide) rfl mm_X2_readGroup ⟨rfl, rfl⟩ (by rw [hKR]; exact ⟨Nat.le_of_ble_eq_true rfl, Nat.le_of_ble_eq_true rfl⟩) (by rw [hKR]; exact ⟨Nat.le_of_ble_eq_true rfl, Nat.le_of_ble_eq_true rfl⟩) rfl rfl rfl (Nat.le_of_ble_eq_true rfl) dX2_readPart_157 rfl (fun r157 D157 P157 hp157 => ?_) 
          rcases hp157 with ⟨⟨g, hG, hgl, rfl, hDg⟩ | ⟨hG, rfl, hDg⟩, rfl⟩
          · rw [x2] at hG
            have c3 : cu [2, 3, 4, 5, 6] D D157 := by rw [hDg]; exact (c2.up (by decide)).up (by decide)
            have x3 : D157 3 = D 3 := c3.1 3 (by decide)
            have w3 : ctx D157 n (b + 1) := ⟨(c3.2 1 (by decide)).trans t1, t2, by rw [hDg, up2_self], hgl⟩
            have kk3 : D157 2 3 = D 3 a := by rw [hDg, up2_nk _ _ _ (by decide), up2_nk _ _ _ (by decide)]; exact kk2
            have nn3 : D157 2 4 = nI v := by rw [hDg, up2_nk _ _ _ (by decide), up2_nk _ _ _ (by decide)]; exact hf
            have gg3 : D157 2 5 = g := by rw [hDg, up2_nk _ _ _ (by decide), up2_self]
            refine pv_if_eq (q := 163) (tgt := 174) C dX2_readPart_160 (by decide) rfl (fun h => absurd h (by decide)) (fun _ => ?_) 
            refine pv_aload_n (q := 164) C dX2_readPart_163 rfl rfl rfl ?_ 
            refine pv_callVi (q := 167) C hKl (c_X2_readAmount l X D157 P n (b + 1) w3) tw_975 k2 (by decide) rfl mm_X2_readAmount ⟨rfl, rfl⟩ (by rw [hKR]; exact ⟨Nat.le_of_ble_eq_true rfl, Nat.le_of_ble_eq_true rfl⟩) (by rw [hKR]; exact ⟨Nat.le_of_ble_eq_true rfl, Nat.le_of_ble_eq_true rfl⟩) rfl rfl rfl (Nat.le_of_ble_eq_true rfl) dX2_readPart_164 rfl (fun r164 D164 P164 hp164 => ?_) 
            rcases hp164 with ⟨⟨x, e, hA, he, rfl, ha4, hx4, hc4⟩ | ⟨e, hA, he, rfl, ha4, hc4⟩, rfl⟩
            · rw [x3] at hA
              have c4 := c3.tr (hc4.mono (fun k hk => by simp only [List.mem_cons, List.not_mem_nil, or_false] at hk ⊢; omega))
              refine pv_if_eq (q := 170) (tgt := 174) C dX2_readPart_167 (by decide) rfl (fun h => absurd h (by decide)) (fun _ => ?_) 
              refine pv_iconst (q := 171) (v := 1) C dX2_readPart_170 rfl (by decide) ?_ 
              refine pv_goto (tgt := 175) C dX2_readPart_171 (by decide) ?_ 
              exact pv_zret C (Or.inr rfl) (⟨Or.inl ⟨(105, v, g, x), e, by unfold pPart; rw [hr_in (show a < n by omega), s_105, if_pos (by decide)]; unfold pRow; rw [hN]; (try dsimp only); rw [if_pos rfl, hG]; (try dsimp only); rw [hA], he, rfl, ha4, ((hc4.2 3 (by decide)).trans kk3).trans s_105, (hc4.2 4 (by decide)).trans nn3, (fun _ => (hc4.2 5 (by decide)).trans gg3), (fun _ => hx4), c4⟩, rfl⟩) (by decide) (by decide) dX2_readPart_175
            · rw [x3] at hA
              have c4 := c3.tr (hc4.mono (fun k hk => by simp only [List.mem_cons, List.not_mem_nil, or_false] at hk ⊢; omega))
              refine pv_if_eq (q := 170) (tgt := 174) C dX2_readPart_167 (by decide) rfl (fun _ => ?_) (fun h => absurd h (by decide)) 
              refine pv_iconst (q := 175) (v := 0) C dX2_readPart_174 rfl (by decide) ?_ 
              exact pv_zret C (Or.inl rfl) (⟨Or.inr ⟨e, by unfold pPart; rw [hr_in (show a < n by omega), s_105, if_pos (by decide)]; unfold pRow; rw [hN]; (try dsimp only); rw [if_pos rfl, hG]; (try dsimp only); rw [hA], he, rfl, ha4, c4⟩, rfl⟩) (by decide) (by decide) dX2_readPart_175
          · rw [x2] at hG
            refine pv_if_eq (q := 163) (tgt := 174) C dX2_readPart_160 (by decide) rfl (fun _ => ?_) (fun h => absurd h (by decide)) 
            refine pv_iconst (q := 175) (v := 0) C dX2_readPart_174 rfl (by decide) ?_ 
            exact pv_zret C (Or.inl rfl) (⟨Or.inr ⟨b, by unfold pPart; rw [hr_in (show a < n by omega), s_105, if_pos (by decide)]; unfold pRow; rw [hN]; (try dsimp only); rw [if_pos rfl, hG], hb, rfl, by rw [hDg]; exact ha, by rw [hDg]; exact c2⟩, rfl⟩) (by decide) (by decide) dX2_readPart_175
        · rw [x1] at hN
          refine pv_if_eq (q := 156) (tgt := 174) C dX2_readPart_153 (by decide) rfl (fun _ => ?_) (fun h => absurd h (by decide)) 
          refine pv_iconst (q := 175) (v := 0) C dX2_readPart_174 rfl (by decide) ?_ 
          exact pv_zret C (Or.inl rfl) (⟨Or.inr ⟨a + 1, by unfold pPart; rw [hr_in (show a < n by omega), s_105, if_pos (by decide)]; unfold pRow; rw [hN], by omega, rfl, by rw [hE]; exact w1.2.2.1, by rw [hE]; exact c1⟩, rfl⟩) (by decide) (by decide) dX2_readPart_175
      by_cases s_114 : D 3 a = 114
      · refine pv_tableIn (tgt := 287) (off := 245) C dX2_readPart_42 (by rw [s_114]; decide) (by rw [s_114]; decide) (by rw [s_114]; rfl) (by decide) ?_
        refine pv_aload_n (q := 288) C dX2_readPart_287 rfl rfl rfl ?_ 
        refine pv_dup (q := 289) C dX2_readPart_288 rfl rfl ?_ 
        refine pg_2_2 (q := 292) C k2 tw_171 dX2_readPart_289 rfl ?_ 
        rw [show D35 2 2 = nI a by rw [hD35, up2_nk _ _ _ (by decide)]; exact t3]
        refine pv_iconst (q := 293) (v := 1) C dX2_readPart_292 rfl (by decide) ?_ 
        refine pv_iaddN (q := 294) (a := a) (b := 1) C rfl rfl dX2_readPart_293 rfl ?_ 
        refine pp_2_2 (q := 297) C k2 tw_171 dX2_readPart_294 rfl (fun D294 hD294 => ?_) 
        have w1 : ctx D294 n (a + 1) := ⟨by rw [hD294, hD35]; exact t1, t2, by rw [hD294, up2_self], by omega⟩
        have x1 : D294 3 = D 3 := by rw [hD294, hD35]; rfl
        have c1 : cu [2, 3, 4, 5, 6] D D294 := by rw [hD294, hD35]; exact ((cu_rf _ D).up (by decide)).up (by decide)
        have kk : D294 2 3 = D 3 a := by rw [hD294, up2_nk _ _ _ (by decide), hD35, up2_self]
        refine pv_aload_n (q := 298) C dX2_readPart_297 rfl rfl rfl ?_ 
        refine pv_iconst (q := 299) (v := 0) C dX2_readPart_298 rfl (by decide) ?_ 
        refine pv_iconst (q := 300) (v := 2) C dX2_readPart_299 rfl (by decide) ?_ 
        refine pv_callVi (q := 303) C hKl (c_X2_readNumber0 l X D294 P n (a + 1) w1 2 (by decide)) tw_963 k2 (by decide) rfl mm_X2_readNumber ⟨rfl, rfl⟩ (by rw [hKR]; exact ⟨Nat.le_of_ble_eq_true rfl, Nat.le_of_ble_eq_true rfl⟩) (by rw [hKR]; exact ⟨Nat.le_of_ble_eq_true rfl, Nat.le_of_ble_eq_true rfl⟩) rfl rfl rfl (Nat.le_of_ble_eq_true rfl) dX2_readPart_300 rfl (fun r300 D300 P300 hp300 => ?_) 
        rcases hp300 with ⟨⟨v, b, hN, hb, rfl, hf, ha, hc⟩ | ⟨hN, rfl, hE⟩, rfl⟩
        · rw [x1] at hN
          have c2 := c1.tr (hc.mono (fun k hk => by simp only [List.mem_cons, List.not_mem_nil, or_false] at hk ⊢; omega))
          have x2 : D300 3 = D 3 := c2.1 3 (by decide)
          have w2 : ctx D300 n b := ⟨(c2.2 1 (by decide)).trans t1, t2, ha, hb⟩
          have kk2 : D300 2 3 = D 3 a := (hc.2 3 (by decide)).trans kk
          exact pv_zret C (Or.inr rfl) (⟨Or.inl ⟨(114, v, 0, 0), b, by unfold pPart; rw [hr_in (show a < n by omega), s_114, if_neg (by decide), if_neg (by decide), if_pos (by decide), hN], hb, rfl, ha, kk2.trans s_114, hf, (fun z => by dsimp only at z; rcases z with z | z <;> exact absurd z (by decide)), (fun z => by dsimp only at z; rcases z with z | z <;> exact absurd z (by decide)), c2⟩, rfl⟩) (by decide) (by decide) dX2_readPart_303
        · rw [x1] at hN
          exact pv_zret C (Or.inl rfl) (⟨Or.inr ⟨a + 1, by unfold pPart; rw [hr_in (show a < n by omega), s_114, if_neg (by decide), if_neg (by decide), if_pos (by decide), hN], by omega, rfl, by rw [hE]; exact w1.2.2.1, by rw [hE]; exact c1⟩, rfl⟩) (by decide) (by decide) dX2_readPart_303
      by_cases s_116 : D 3 a = 116
      · refine pv_tableIn (tgt := 269) (off := 227) C dX2_readPart_42 (by rw [s_116]; decide) (by rw [s_116]; decide) (by rw [s_116]; rfl) (by decide) ?_
        refine pv_aload_n (q := 270) C dX2_readPart_269 rfl rfl rfl ?_ 
        refine pv_dup (q := 271) C dX2_readPart_270 rfl rfl ?_ 
        refine pg_2_2 (q := 274) C k2 tw_171 dX2_readPart_271 rfl ?_ 
        rw [show D35 2 2 = nI a by rw [hD35, up2_nk _ _ _ (by decide)]; exact t3]
        refine pv_iconst (q := 275) (v := 1) C dX2_readPart_274 rfl (by decide) ?_ 
        refine pv_iaddN (q := 276) (a := a) (b := 1) C rfl rfl dX2_readPart_275 rfl ?_ 
        refine pp_2_2 (q := 279) C k2 tw_171 dX2_readPart_276 rfl (fun D276 hD276 => ?_) 
        have w1 : ctx D276 n (a + 1) := ⟨by rw [hD276, hD35]; exact t1, t2, by rw [hD276, up2_self], by omega⟩
        have x1 : D276 3 = D 3 := by rw [hD276, hD35]; rfl
        have c1 : cu [2, 3, 4, 5, 6] D D276 := by rw [hD276, hD35]; exact ((cu_rf _ D).up (by decide)).up (by decide)
        have kk : D276 2 3 = D 3 a := by rw [hD276, up2_nk _ _ _ (by decide), hD35, up2_self]
        refine pv_aload_n (q := 280) C dX2_readPart_279 rfl rfl rfl ?_ 
        refine pv_iconst (q := 281) (v := 1) C dX2_readPart_280 rfl (by decide) ?_ 
        refine pv_bipush (q := 283) (v := 30) C dX2_readPart_281 rfl (by decide) ?_ 
        refine pv_callVi (q := 286) C hKl (c_X2_readNumber1 l X D276 P n (a + 1) w1 30 (by decide)) tw_963 k2 (by decide) rfl mm_X2_readNumber ⟨rfl, rfl⟩ (by rw [hKR]; exact ⟨Nat.le_of_ble_eq_true rfl, Nat.le_of_ble_eq_true rfl⟩) (by rw [hKR]; exact ⟨Nat.le_of_ble_eq_true rfl, Nat.le_of_ble_eq_true rfl⟩) rfl rfl rfl (Nat.le_of_ble_eq_true rfl) dX2_readPart_283 rfl (fun r283 D283 P283 hp283 => ?_) 
        rcases hp283 with ⟨⟨v, b, hN, hb, rfl, hf, ha, hc⟩ | ⟨hN, rfl, hE⟩, rfl⟩
        · rw [x1] at hN
          have c2 := c1.tr (hc.mono (fun k hk => by simp only [List.mem_cons, List.not_mem_nil, or_false] at hk ⊢; omega))
          have x2 : D283 3 = D 3 := c2.1 3 (by decide)
          have w2 : ctx D283 n b := ⟨(c2.2 1 (by decide)).trans t1, t2, ha, hb⟩
          have kk2 : D283 2 3 = D 3 a := (hc.2 3 (by decide)).trans kk
          exact pv_zret C (Or.inr rfl) (⟨Or.inl ⟨(116, v, 0, 0), b, by unfold pPart; rw [hr_in (show a < n by omega), s_116, if_neg (by decide), if_pos rfl, hN], hb, rfl, ha, kk2.trans s_116, hf, (fun z => by dsimp only at z; rcases z with z | z <;> exact absurd z (by decide)), (fun z => by dsimp only at z; rcases z with z | z <;> exact absurd z (by decide)), c2⟩, rfl⟩) (by decide) (by decide) dX2_readPart_286
        · rw [x1] at hN
          exact pv_zret C (Or.inl rfl) (⟨Or.inr ⟨a + 1, by unfold pPart; rw [hr_in (show a < n by omega), s_116, if_neg (by decide), if_pos rfl, hN], by omega, rfl, by rw [hE]; exact w1.2.2.1, by rw [hE]; exact c1⟩, rfl⟩) (by decide) (by decide) dX2_readPart_286
      by_cases s_117 : D 3 a = 117
      · refine pv_tableIn (tgt := 176) (off := 134) C dX2_readPart_42 (by rw [s_117]; decide) (by rw [s_117]; decide) (by rw [s_117]; rfl) (by decide) ?_
        refine pv_aload_n (q := 177) C dX2_readPart_176 rfl rfl rfl ?_ 
        refine pv_dup (q := 178) C dX2_readPart_177 rfl rfl ?_ 
        refine pg_2_2 (q := 181) C k2 tw_171 dX2_readPart_178 rfl ?_ 
        rw [show D35 2 2 = nI a by rw [hD35, up2_nk _ _ _ (by decide)]; exact t3]
        refine pv_iconst (q := 182) (v := 1) C dX2_readPart_181 rfl (by decide) ?_ 
        refine pv_iaddN (q := 183) (a := a) (b := 1) C rfl rfl dX2_readPart_182 rfl ?_ 
        refine pp_2_2 (q := 186) C k2 tw_171 dX2_readPart_183 rfl (fun D183 hD183 => ?_) 
        have w1 : ctx D183 n (a + 1) := ⟨by rw [hD183, hD35]; exact t1, t2, by rw [hD183, up2_self], by omega⟩
        have x1 : D183 3 = D 3 := by rw [hD183, hD35]; rfl
        have c1 : cu [2, 3, 4, 5, 6] D D183 := by rw [hD183, hD35]; exact ((cu_rf _ D).up (by decide)).up (by decide)
        have kk : D183 2 3 = D 3 a := by rw [hD183, up2_nk _ _ _ (by decide), hD35, up2_self]
        refine pv_aload_n (q := 187) C dX2_readPart_186 rfl rfl rfl ?_ 
        refine pv_iconst (q := 188) (v := 0) C dX2_readPart_187 rfl (by decide) ?_ 
        refine pv_bipush (q := 190) (v := 15) C dX2_readPart_188 rfl (by decide) ?_ 
        refine pv_callVi (q := 193) C hKl (c_X2_readNumber0 l X D183 P n (a + 1) w1 15 (by decide)) tw_963 k2 (by decide) rfl mm_X2_readNumber ⟨rfl, rfl⟩ (by rw [hKR]; exact ⟨Nat.le_of_ble_eq_true rfl, Nat.le_of_ble_eq_true rfl⟩) (by rw [hKR]; exact ⟨Nat.le_of_ble_eq_true rfl, Nat.le_of_ble_eq_true rfl⟩) rfl rfl rfl (Nat.le_of_ble_eq_true rfl) dX2_readPart_190 rfl (fun r190 D190 P190 hp190 => ?_) 
        rcases hp190 with ⟨⟨v, b, hN, hb, rfl, hf, ha, hc⟩ | ⟨hN, rfl, hE⟩, rfl⟩
        · rw [x1] at hN
          have c2 := c1.tr (hc.mono (fun k hk => by simp only [List.mem_cons, List.not_mem_nil, or_false] at hk ⊢; omega))
          have x2 : D190 3 = D 3 := c2.1 3 (by decide)
          have w2 : ctx D190 n b := ⟨(c2.2 1 (by decide)).trans t1, t2, ha, hb⟩
          have kk2 : D190 2 3 = D 3 a := (hc.2 3 (by decide)).trans kk
          refine pv_if_eq (q := 196) (tgt := 216) C dX2_readPart_193 (by decide) rfl (fun h => absurd h (by decide)) (fun _ => ?_) 
          refine pv_aload_n (q := 197) C dX2_readPart_196 rfl rfl rfl ?_ 
          refine pv_bipush (q := 199) (v := 61) C dX2_readPart_197 rfl (by decide) ?_ 
          refine pv_callVi (q := 202) C hKl (c_X2_readSign l X D190 P 61 (by decide) n b w2) tw_979 k2 (by decide) rfl mm_X2_readSign ⟨rfl, rfl⟩ (by rw [hKR]; exact ⟨Nat.le_of_ble_eq_true rfl, Nat.le_of_ble_eq_true rfl⟩) (by rw [hKR]; exact ⟨Nat.le_of_ble_eq_true rfl, Nat.le_of_ble_eq_true rfl⟩) rfl rfl rfl (Nat.le_of_ble_eq_true rfl) dX2_readPart_199 rfl (fun r199 D199 P199 hp199 => ?_) 
          rcases hp199 with ⟨⟨hS, hl, rfl, hDs⟩ | ⟨hS, rfl, hDs⟩, rfl⟩
          · rw [x2] at hS
            have c3 : cu [2, 3, 4, 5, 6] D D199 := by rw [hDs]; exact c2.up (by decide)
            have x3 : D199 3 = D 3 := c3.1 3 (by decide)
            have w3 : ctx D199 n (b + 1) := ⟨(c3.2 1 (by decide)).trans t1, t2, by rw [hDs, up2_self], hl⟩
            have kk3 : D199 2 3 = D 3 a := by rw [hDs, up2_nk _ _ _ (by decide)]; exact kk2
            have nn3 : D199 2 4 = nI v := by rw [hDs, up2_nk _ _ _ (by decide)]; exact hf
            refine pv_if_eq (q := 205) (tgt := 216) C dX2_readPart_202 (by decide) rfl (fun h => absurd h (by decide)) (fun _ => ?_) 
            refine pv_aload_n (q := 206) C dX2_readPart_205 rfl rfl rfl ?_ 
            refine pv_callVi (q := 209) C hKl (c_X2_readAmount l X D199 P n (b + 1) w3) tw_975 k2 (by decide) rfl mm_X2_readAmount ⟨rfl, rfl⟩ (by rw [hKR]; exact ⟨Nat.le_of_ble_eq_true rfl, Nat.le_of_ble_eq_true rfl⟩) (by rw [hKR]; exact ⟨Nat.le_of_ble_eq_true rfl, Nat.le_of_ble_eq_true rfl⟩) rfl rfl rfl (Nat.le_of_ble_eq_true rfl) dX2_readPart_206 rfl (fun r206 D206 P206 hp206 => ?_) 
            rcases hp206 with ⟨⟨x, e, hA, he, rfl, ha4, hx4, hc4⟩ | ⟨e, hA, he, rfl, ha4, hc4⟩, rfl⟩
            · rw [x3] at hA
              have c4 := c3.tr (hc4.mono (fun k hk => by simp only [List.mem_cons, List.not_mem_nil, or_false] at hk ⊢; omega))
              refine pv_if_eq (q := 212) (tgt := 216) C dX2_readPart_209 (by decide) rfl (fun h => absurd h (by decide)) (fun _ => ?_) 
              refine pv_iconst (q := 213) (v := 1) C dX2_readPart_212 rfl (by decide) ?_ 
              refine pv_goto (tgt := 217) C dX2_readPart_213 (by decide) ?_ 
              exact pv_zret C (Or.inr rfl) (⟨Or.inl ⟨(117, v, 0, x), e, by unfold pPart; rw [hr_in (show a < n by omega), s_117, if_pos (by decide)]; unfold pRow; rw [hN]; (try dsimp only); rw [if_neg (by decide), if_neg (by decide), if_pos rfl, if_pos hS]; (try dsimp only); rw [hA], he, rfl, ha4, ((hc4.2 3 (by decide)).trans kk3).trans s_117, (hc4.2 4 (by decide)).trans nn3, (fun z => by dsimp only at z; rcases z with z | z <;> exact absurd z (by decide)), (fun _ => hx4), c4⟩, rfl⟩) (by decide) (by decide) dX2_readPart_217
            · rw [x3] at hA
              have c4 := c3.tr (hc4.mono (fun k hk => by simp only [List.mem_cons, List.not_mem_nil, or_false] at hk ⊢; omega))
              refine pv_if_eq (q := 212) (tgt := 216) C dX2_readPart_209 (by decide) rfl (fun _ => ?_) (fun h => absurd h (by decide)) 
              refine pv_iconst (q := 217) (v := 0) C dX2_readPart_216 rfl (by decide) ?_ 
              exact pv_zret C (Or.inl rfl) (⟨Or.inr ⟨e, by unfold pPart; rw [hr_in (show a < n by omega), s_117, if_pos (by decide)]; unfold pRow; rw [hN]; (try dsimp only); rw [if_neg (by decide), if_neg (by decide), if_pos rfl, if_pos hS]; (try dsimp only); rw [hA], he, rfl, ha4, c4⟩, rfl⟩) (by decide) (by decide) dX2_readPart_217
          · rw [x2] at hS
            refine pv_if_eq (q := 205) (tgt := 216) C dX2_readPart_202 (by decide) rfl (fun _ => ?_) (fun h => absurd h (by decide)) 
            refine pv_iconst (q := 217) (v := 0) C dX2_readPart_216 rfl (by decide) ?_ 
            exact pv_zret C (Or.inl rfl) (⟨Or.inr ⟨b, by unfold pPart; rw [hr_in (show a < n by omega), s_117, if_pos (by decide)]; unfold pRow; rw [hN]; (try dsimp only); rw [if_neg (by decide), if_neg (by decide), if_pos rfl, if_neg hS], hb, rfl, by rw [hDs]; exact ha, by rw [hDs]; exact c2⟩, rfl⟩) (by decide) (by decide) dX2_readPart_217
        · rw [x1] at hN
          refine pv_if_eq (q := 196) (tgt := 216) C dX2_readPart_193 (by decide) rfl (fun _ => ?_) (fun h => absurd h (by decide)) 
          refine pv_iconst (q := 217) (v := 0) C dX2_readPart_216 rfl (by decide) ?_ 
          exact pv_zret C (Or.inl rfl) (⟨Or.inr ⟨a + 1, by unfold pPart; rw [hr_in (show a < n by omega), s_117, if_pos (by decide)]; unfold pRow; rw [hN], by omega, rfl, by rw [hE]; exact w1.2.2.1, by rw [hE]; exact c1⟩, rfl⟩) (by decide) (by decide) dX2_readPart_217
      by_cases s_119 : D 3 a = 119
      · refine pv_tableIn (tgt := 287) (off := 245) C dX2_readPart_42 (by rw [s_119]; decide) (by rw [s_119]; decide) (by rw [s_119]; rfl) (by decide) ?_
        refine pv_aload_n (q := 288) C dX2_readPart_287 rfl rfl rfl ?_ 
        refine pv_dup (q := 289) C dX2_readPart_288 rfl rfl ?_ 
        refine pg_2_2 (q := 292) C k2 tw_171 dX2_readPart_289 rfl ?_ 
        rw [show D35 2 2 = nI a by rw [hD35, up2_nk _ _ _ (by decide)]; exact t3]
        refine pv_iconst (q := 293) (v := 1) C dX2_readPart_292 rfl (by decide) ?_ 
        refine pv_iaddN (q := 294) (a := a) (b := 1) C rfl rfl dX2_readPart_293 rfl ?_ 
        refine pp_2_2 (q := 297) C k2 tw_171 dX2_readPart_294 rfl (fun D294 hD294 => ?_) 
        have w1 : ctx D294 n (a + 1) := ⟨by rw [hD294, hD35]; exact t1, t2, by rw [hD294, up2_self], by omega⟩
        have x1 : D294 3 = D 3 := by rw [hD294, hD35]; rfl
        have c1 : cu [2, 3, 4, 5, 6] D D294 := by rw [hD294, hD35]; exact ((cu_rf _ D).up (by decide)).up (by decide)
        have kk : D294 2 3 = D 3 a := by rw [hD294, up2_nk _ _ _ (by decide), hD35, up2_self]
        refine pv_aload_n (q := 298) C dX2_readPart_297 rfl rfl rfl ?_ 
        refine pv_iconst (q := 299) (v := 0) C dX2_readPart_298 rfl (by decide) ?_ 
        refine pv_iconst (q := 300) (v := 2) C dX2_readPart_299 rfl (by decide) ?_ 
        refine pv_callVi (q := 303) C hKl (c_X2_readNumber0 l X D294 P n (a + 1) w1 2 (by decide)) tw_963 k2 (by decide) rfl mm_X2_readNumber ⟨rfl, rfl⟩ (by rw [hKR]; exact ⟨Nat.le_of_ble_eq_true rfl, Nat.le_of_ble_eq_true rfl⟩) (by rw [hKR]; exact ⟨Nat.le_of_ble_eq_true rfl, Nat.le_of_ble_eq_true rfl⟩) rfl rfl rfl (Nat.le_of_ble_eq_true rfl) dX2_readPart_300 rfl (fun r300 D300 P300 hp300 => ?_) 
        rcases hp300 with ⟨⟨v, b, hN, hb, rfl, hf, ha, hc⟩ | ⟨hN, rfl, hE⟩, rfl⟩
        · rw [x1] at hN
          have c2 := c1.tr (hc.mono (fun k hk => by simp only [List.mem_cons, List.not_mem_nil, or_false] at hk ⊢; omega))
          have x2 : D300 3 = D 3 := c2.1 3 (by decide)
          have w2 : ctx D300 n b := ⟨(c2.2 1 (by decide)).trans t1, t2, ha, hb⟩
          have kk2 : D300 2 3 = D 3 a := (hc.2 3 (by decide)).trans kk
          exact pv_zret C (Or.inr rfl) (⟨Or.inl ⟨(119, v, 0, 0), b, by unfold pPart; rw [hr_in (show a < n by omega), s_119, if_neg (by decide), if_neg (by decide), if_pos (by decide), hN], hb, rfl, ha, kk2.trans s_119, hf, (fun z => by dsimp only at z; rcases z with z | z <;> exact absurd z (by decide)), (fun z => by dsimp only at z; rcases z with z | z <;> exact absurd z (by decide)), c2⟩, rfl⟩) (by decide) (by decide) dX2_readPart_303
        · rw [x1] at hN
          exact pv_zret C (Or.inl rfl) (⟨Or.inr ⟨a + 1, by unfold pPart; rw [hr_in (show a < n by omega), s_119, if_neg (by decide), if_neg (by decide), if_pos (by decide), hN], by omega, rfl, by rw [hE]; exact w1.2.2.1, by rw [hE]; exact c1⟩, rfl⟩) (by decide) (by decide) dX2_readPart_303
      by_cases s_120 : D 3 a = 120
      · refine pv_tableIn (tgt := 251) (off := 209) C dX2_readPart_42 (by rw [s_120]; decide) (by rw [s_120]; decide) (by rw [s_120]; rfl) (by decide) ?_
        refine pv_aload_n (q := 252) C dX2_readPart_251 rfl rfl rfl ?_ 
        refine pv_dup (q := 253) C dX2_readPart_252 rfl rfl ?_ 
        refine pg_2_2 (q := 256) C k2 tw_171 dX2_readPart_253 rfl ?_ 
        rw [show D35 2 2 = nI a by rw [hD35, up2_nk _ _ _ (by decide)]; exact t3]
        refine pv_iconst (q := 257) (v := 1) C dX2_readPart_256 rfl (by decide) ?_ 
        refine pv_iaddN (q := 258) (a := a) (b := 1) C rfl rfl dX2_readPart_257 rfl ?_ 
        refine pp_2_2 (q := 261) C k2 tw_171 dX2_readPart_258 rfl (fun D258 hD258 => ?_) 
        have w1 : ctx D258 n (a + 1) := ⟨by rw [hD258, hD35]; exact t1, t2, by rw [hD258, up2_self], by omega⟩
        have x1 : D258 3 = D 3 := by rw [hD258, hD35]; rfl
        have c1 : cu [2, 3, 4, 5, 6] D D258 := by rw [hD258, hD35]; exact ((cu_rf _ D).up (by decide)).up (by decide)
        have kk : D258 2 3 = D 3 a := by rw [hD258, up2_nk _ _ _ (by decide), hD35, up2_self]
        refine pv_aload_n (q := 262) C dX2_readPart_261 rfl rfl rfl ?_ 
        refine pv_iconst (q := 263) (v := 0) C dX2_readPart_262 rfl (by decide) ?_ 
        refine pv_bipush (q := 265) (v := 15) C dX2_readPart_263 rfl (by decide) ?_ 
        refine pv_callVi (q := 268) C hKl (c_X2_readNumber0 l X D258 P n (a + 1) w1 15 (by decide)) tw_963 k2 (by decide) rfl mm_X2_readNumber ⟨rfl, rfl⟩ (by rw [hKR]; exact ⟨Nat.le_of_ble_eq_true rfl, Nat.le_of_ble_eq_true rfl⟩) (by rw [hKR]; exact ⟨Nat.le_of_ble_eq_true rfl, Nat.le_of_ble_eq_true rfl⟩) rfl rfl rfl (Nat.le_of_ble_eq_true rfl) dX2_readPart_265 rfl (fun r265 D265 P265 hp265 => ?_) 
        rcases hp265 with ⟨⟨v, b, hN, hb, rfl, hf, ha, hc⟩ | ⟨hN, rfl, hE⟩, rfl⟩
        · rw [x1] at hN
          have c2 := c1.tr (hc.mono (fun k hk => by simp only [List.mem_cons, List.not_mem_nil, or_false] at hk ⊢; omega))
          have x2 : D265 3 = D 3 := c2.1 3 (by decide)
          have w2 : ctx D265 n b := ⟨(c2.2 1 (by decide)).trans t1, t2, ha, hb⟩
          have kk2 : D265 2 3 = D 3 a := (hc.2 3 (by decide)).trans kk
          exact pv_zret C (Or.inr rfl) (⟨Or.inl ⟨(120, v, 0, 0), b, by unfold pPart; rw [hr_in (show a < n by omega), s_120, if_pos (by decide)]; unfold pRow; rw [hN]; (try dsimp only); rw [if_neg (by decide), if_neg (by decide), if_neg (by decide)], hb, rfl, ha, kk2.trans s_120, hf, (fun z => by dsimp only at z; rcases z with z | z <;> exact absurd z (by decide)), (fun z => by dsimp only at z; rcases z with z | z <;> exact absurd z (by decide)), c2⟩, rfl⟩) (by decide) (by decide) dX2_readPart_268
        · rw [x1] at hN
          exact pv_zret C (Or.inl rfl) (⟨Or.inr ⟨a + 1, by unfold pPart; rw [hr_in (show a < n by omega), s_120, if_pos (by decide)]; unfold pRow; rw [hN], by omega, rfl, by rw [hE]; exact w1.2.2.1, by rw [hE]; exact c1⟩, rfl⟩) (by decide) (by decide) dX2_readPart_268
      by_cases s_122 : D 3 a = 122
      · refine pv_tableIn (tgt := 287) (off := 245) C dX2_readPart_42 (by rw [s_122]; decide) (by rw [s_122]; decide) (by rw [s_122]; rfl) (by decide) ?_
        refine pv_aload_n (q := 288) C dX2_readPart_287 rfl rfl rfl ?_ 
        refine pv_dup (q := 289) C dX2_readPart_288 rfl rfl ?_ 
        refine pg_2_2 (q := 292) C k2 tw_171 dX2_readPart_289 rfl ?_ 
        rw [show D35 2 2 = nI a by rw [hD35, up2_nk _ _ _ (by decide)]; exact t3]
        refine pv_iconst (q := 293) (v := 1) C dX2_readPart_292 rfl (by decide) ?_ 
        refine pv_iaddN (q := 294) (a := a) (b := 1) C rfl rfl dX2_readPart_293 rfl ?_ 
        refine pp_2_2 (q := 297) C k2 tw_171 dX2_readPart_294 rfl (fun D294 hD294 => ?_) 
        have w1 : ctx D294 n (a + 1) := ⟨by rw [hD294, hD35]; exact t1, t2, by rw [hD294, up2_self], by omega⟩
        have x1 : D294 3 = D 3 := by rw [hD294, hD35]; rfl
        have c1 : cu [2, 3, 4, 5, 6] D D294 := by rw [hD294, hD35]; exact ((cu_rf _ D).up (by decide)).up (by decide)
        have kk : D294 2 3 = D 3 a := by rw [hD294, up2_nk _ _ _ (by decide), hD35, up2_self]
        refine pv_aload_n (q := 298) C dX2_readPart_297 rfl rfl rfl ?_ 
        refine pv_iconst (q := 299) (v := 0) C dX2_readPart_298 rfl (by decide) ?_ 
        refine pv_iconst (q := 300) (v := 2) C dX2_readPart_299 rfl (by decide) ?_ 
        refine pv_callVi (q := 303) C hKl (c_X2_readNumber0 l X D294 P n (a + 1) w1 2 (by decide)) tw_963 k2 (by decide) rfl mm_X2_readNumber ⟨rfl, rfl⟩ (by rw [hKR]; exact ⟨Nat.le_of_ble_eq_true rfl, Nat.le_of_ble_eq_true rfl⟩) (by rw [hKR]; exact ⟨Nat.le_of_ble_eq_true rfl, Nat.le_of_ble_eq_true rfl⟩) rfl rfl rfl (Nat.le_of_ble_eq_true rfl) dX2_readPart_300 rfl (fun r300 D300 P300 hp300 => ?_) 
        rcases hp300 with ⟨⟨v, b, hN, hb, rfl, hf, ha, hc⟩ | ⟨hN, rfl, hE⟩, rfl⟩
        · rw [x1] at hN
          have c2 := c1.tr (hc.mono (fun k hk => by simp only [List.mem_cons, List.not_mem_nil, or_false] at hk ⊢; omega))
          have x2 : D300 3 = D 3 := c2.1 3 (by decide)
          have w2 : ctx D300 n b := ⟨(c2.2 1 (by decide)).trans t1, t2, ha, hb⟩
          have kk2 : D300 2 3 = D 3 a := (hc.2 3 (by decide)).trans kk
          exact pv_zret C (Or.inr rfl) (⟨Or.inl ⟨(122, v, 0, 0), b, by unfold pPart; rw [hr_in (show a < n by omega), s_122, if_neg (by decide), if_neg (by decide), if_pos (by decide), hN], hb, rfl, ha, kk2.trans s_122, hf, (fun z => by dsimp only at z; rcases z with z | z <;> exact absurd z (by decide)), (fun z => by dsimp only at z; rcases z with z | z <;> exact absurd z (by decide)), c2⟩, rfl⟩) (by decide) (by decide) dX2_readPart_303
        · rw [x1] at hN
          exact pv_zret C (Or.inl rfl) (⟨Or.inr ⟨a + 1, by unfold pPart; rw [hr_in (show a < n by omega), s_122, if_neg (by decide), if_neg (by decide), if_pos (by decide), hN], by omega, rfl, by rw [hE]; exact w1.2.2.1, by rw [hE]; exact c1⟩, rfl⟩) (by decide) (by decide) dX2_readPart_303
      have hdf : PV K X (MK K X (qI X (fun r D' P' => ((∃ p b, pPart (D 3) n a = (some p, b) ∧ b ≤ n ∧ r = 1 ∧ D' 2 2 = nI b ∧ D' 2 3 = p.1 ∧ D' 2 4 = nI p.2.1 ∧ (p.1 = 105 ∨ p.1 = 103 → D' 2 5 = p.2.2.1) ∧ (p.1 = 105 ∨ p.1 = 117 → D' 2 6 = p.2.2.2) ∧ cu [2, 3, 4, 5, 6] D D') ∨ (∃ b, pPart (D 3) n a = (none, b) ∧ b ≤ n ∧ r = 0 ∧ D' 2 2 = nI b ∧ cu [2, 3, 4, 5, 6] D D')) ∧ P = P')) 0 0) (0) (0) 304 [some (.ref (X.2.2 2))] [] D35 P → PV K X (MK K X (qI X (fun r D' P' => ((∃ p b, pPart (D 3) n a = (some p, b) ∧ b ≤ n ∧ r = 1 ∧ D' 2 2 = nI b ∧ D' 2 3 = p.1 ∧ D' 2 4 = nI p.2.1 ∧ (p.1 = 105 ∨ p.1 = 103 → D' 2 5 = p.2.2.1) ∧ (p.1 = 105 ∨ p.1 = 117 → D' 2 6 = p.2.2.2) ∧ cu [2, 3, 4, 5, 6] D D') ∨ (∃ b, pPart (D 3) n a = (none, b) ∧ b ≤ n ∧ r = 0 ∧ D' 2 2 = nI b ∧ cu [2, 3, 4, 5, 6] D D')) ∧ P = P')) 0 0) (0) (0) 42 [some (.ref (X.2.2 2))] (.int (D 3 a) :: []) D35 P := by
        intro hk0
        rcases tbl_d s_103 s_105 s_114 s_116 s_117 s_119 s_120 s_122 with q | ⟨q1, q2, q3⟩
        · exact pv_tableOut (tgt := 304) C dX2_readPart_42 q (by decide) hk0
        · exact pv_tableIn (tgt := 304) (off := 262) C dX2_readPart_42 q1 q2 q3 (by decide) hk0
      refine hdf ?_
      refine pv_iconst (q := 305) (v := 0) C dX2_readPart_304 rfl (by decide) ?_ 
      exact pv_zret C (Or.inl rfl) (⟨Or.inr ⟨a, by unfold pPart; rw [hr_in (show a < n by omega), if_neg (by simp only [not_or]; exact ⟨s_105, s_117, s_103, s_120⟩), if_neg s_116, if_neg (by simp only [not_or]; exact ⟨s_122, s_119, s_114⟩)], t4, rfl, by rw [hD35, up2_nk _ _ _ (by decide)]; exact t3, by rw [hD35]; exact (cu_rf _ D).up (by decide)⟩, rfl⟩) (by decide) (by decide) dX2_readPart_305
    · refine pv_iconst (q := 24) (v := 0) C dX2_readPart_23 rfl (by decide) ?_
      exact pv_zret C (Or.inl rfl) (⟨Or.inr ⟨a, absurd t2 (by omega), t4, rfl, t3, cu_rf _ D⟩, rfl⟩) (by decide) (by decide) dX2_readPart_24
