set_option maxRecDepth 100000 in
set_option maxHeartbeats 4000000 in
theorem c_X3_letHappenToView122 (l : Launch) (X : XT) (D : DT) (P : PT) (B W : Nat) (hk : kd B = 3) (row : Nat → Int32) (h : SB D B row W) (hW : W + 4 < 2 ^ 29) (hk3 : D 2 3 = 122) (p : Nat) (hnum : D 2 4 = nI p) (hv : p < 3) : CG l X yX3_letHappenToView (.code yX3_letHappenToView cX3_letHappenToView 3 (some .boolean) :: AW) ({ frames := 4, cells := 0, slots := 0, locals := 144 } : Room) [.ref (X.2.2 B), .ref (X.2.2 2)] (qI X (fun r D' P' => ((canP row (122, p, 0, 0) = true ∧ r = 1 ∧ (∀ i, (i < B ∨ B + 39 ≤ i) → D' i = D i) ∧ SB D' B (goP row (122, p, 0, 0)) (W + 2)) ∨ (canP row (122, p, 0, 0) = false ∧ r = 0 ∧ D' = D)) ∧ P = P')) D P 0 0 := by
  refine cg_of (by decide +kernel) (Nat.le_of_ble_eq_true rfl) ?_
  intro K hKl hKR C
  refine PV_lv (lv' := [some (.ref (X.2.2 B)), some (.ref (X.2.2 2)), none]) rfl ?_
  have hfl := h.fl
  have hdl := h.dl (m := 2) (by omega)
  obtain ⟨G, A, wr, nx, hw, hR, hT, hI, hAM⟩ := id h
  refine pv_aload_n (q := 1) C dX3_letHappenToView_0 rfl rfl rfl ?_ 
  refine pg_2_4 (q := 4) C k2 tw_176 dX3_letHappenToView_1 rfl ?_ 
  rw [hnum]
  refine pv_if_ltN (q := 7) (tgt := 15) (a := p) (b := 0) C rfl rfl (by omega) (by omega) dX3_letHappenToView_4 (by decide) rfl (fun c_4 => absurd c_4 (by omega)) (fun c_4 => ?_) 
  refine pv_aload_n (q := 8) C dX3_letHappenToView_7 rfl rfl rfl ?_ 
  refine pg_2_4 (q := 11) C k2 tw_176 dX3_letHappenToView_8 rfl ?_ 
  rw [hnum]
  refine pv_iconst (q := 12) (v := 3) C dX3_letHappenToView_11 rfl (by decide) ?_ 
  refine pv_icmp_ltN (q := 15) (tgt := 17) (a := p) (b := 3) C rfl rfl (by omega) (by omega) dX3_letHappenToView_12 (by decide) rfl (fun c_12 => ?_) (fun c_12 => absurd c_12 (by omega)) 
  refine pv_aload_n (q := 18) C dX3_letHappenToView_17 rfl rfl rfl ?_ 
  refine pg_3_2 (q := 21) C hk tw_132 dX3_letHappenToView_18 rfl (fun k18 => ?_) 
  refine pv_aload_n (q := 22) C dX3_letHappenToView_21 rfl rfl rfl ?_ 
  refine pg_2_4 (q := 25) C k2 tw_176 dX3_letHappenToView_22 rfl ?_ 
  rw [hnum]
  refine pv_aald_12 (q := 26) (j := p) C k18 rfl (by omega) dX3_letHappenToView_25 rfl (fun k25 => ?_) 
  have q6 := (hR.2.2.2.2.1 p hv).2.2.2.2.2.1
  have q8 := (hR.2.2.2.2.1 p hv).2.2.2.2.2.2.2.1
  refine pv_astore_n (q := 27) C dX3_letHappenToView_26 rfl rfl (Nat.le_of_ble_eq_true rfl) rfl ?_ 
  refine pv_aload_n (q := 28) C dX3_letHappenToView_27 rfl rfl rfl ?_ 
  refine pg_2_3 (q := 31) C k2 tw_174 dX3_letHappenToView_28 rfl ?_ 
  rw [hk3]
  refine pv_bipush (q := 33) (v := 114) C dX3_letHappenToView_31 rfl (by decide) ?_ 
  refine pv_icmp_ne (q := 36) (tgt := 43) C dX3_letHappenToView_33 (by decide) rfl (fun _ => ?_) (fun h => absurd h (by decide)) 
  refine pv_aload_n (q := 44) C dX3_letHappenToView_43 rfl rfl rfl ?_ 
  refine pg_5_4 (q := 47) C k25 tw_108 dX3_letHappenToView_44 rfl ?_ 
  rw [q6]
  refine pv_aload_n (q := 48) C dX3_letHappenToView_47 rfl rfl rfl ?_ 
  refine pg_2_3 (q := 51) C k2 tw_174 dX3_letHappenToView_48 rfl ?_ 
  rw [hk3]
  refine pv_bipush (q := 53) (v := 119) C dX3_letHappenToView_51 rfl (by decide) ?_ 
  refine pv_icmp_ne (q := 56) (tgt := 60) C dX3_letHappenToView_53 (by decide) rfl (fun _ => ?_) (fun h => absurd h (by decide)) 
  refine pv_iconst (q := 61) (v := 0) C dX3_letHappenToView_60 rfl (by decide) ?_ 
  refine pv_icmp_eq (q := 64) (tgt := 66) C dX3_letHappenToView_61 (by decide) rfl (fun c_61 => ?_) (fun c_61 => ?_) 
  · refine pv_aload_n (q := 67) C dX3_letHappenToView_66 rfl rfl rfl ?_
    refine pg_2_3 (q := 70) C k2 tw_174 dX3_letHappenToView_67 rfl ?_ 
    rw [hk3]
    refine pv_bipush (q := 72) (v := 119) C dX3_letHappenToView_70 rfl (by decide) ?_ 
    refine pv_icmp_ne (q := 75) (tgt := 83) C dX3_letHappenToView_72 (by decide) rfl (fun _ => ?_) (fun h => absurd h (by decide)) 
    refine pv_aload_n (q := 84) C dX3_letHappenToView_83 rfl rfl rfl ?_ 
    refine pv_callVv (q := 87) C hKl (c_X5_beginNap l X D P (B + 8 + 1 + 10 * p) k25) tw_1018 k25 (by decide) rfl mm_X5_beginNap ⟨rfl, rfl⟩ (by rw [hKR]; exact ⟨Nat.le_of_ble_eq_true rfl, Nat.le_of_ble_eq_true rfl⟩) (by rw [hKR]; exact ⟨Nat.le_of_ble_eq_true rfl, Nat.le_of_ble_eq_true rfl⟩) rfl rfl rfl (Nat.le_of_ble_eq_true rfl) dX3_letHappenToView_84 rfl (fun D84 P84 hp84 => ?_) 
    obtain ⟨hN, rfl⟩ := hp84
    refine pv_iconst (q := 88) (v := 1) C dX3_letHappenToView_87 rfl (by decide) ?_ 
    exact pv_zret C (Or.inr rfl) (⟨Or.inl ⟨(by unfold canP; dsimp only; rw [if_neg (by decide), if_neg (by decide), if_pos rfl]; exact decide_eq_true (fun z => absurd (c_61.symm.trans z) (by decide))), rfl, fun i hi => by rw [hN, up2_ne _ _ _ (by omega), up2_ne _ _ _ (by omega)], by
          have eg : goP row (122, p, 0, 0) = m_nap row p := by unfold goP; dsimp only; rw [if_neg (by decide), if_neg (by decide), if_neg (by decide), if_neg (by decide), if_neg (by decide), if_pos rfl]
          rw [eg]
          exact ⟨G, A, wr, nx, by omega, Rp_nap hR hv hN, TR_lo hT (by rw [hN, up2_ne _ _ _ (by omega), up2_ne _ _ _ (by omega)]) (by rw [hN, up2_ne _ _ _ (by omega), up2_ne _ _ _ (by omega)]) (fun k hk => by unfold m_nap; rw [va_up_ne _ _ (by omega), va_up_ne _ _ (by omega)]), TI_nap hI hv, AM_nap hAM hv⟩⟩, rfl⟩) (by decide) (by decide) dX3_letHappenToView_88
  · refine pv_iconst (q := 65) (v := 0) C dX3_letHappenToView_64 rfl (by decide) ?_
    exact pv_zret C (Or.inl rfl) (⟨Or.inr ⟨(by unfold canP; dsimp only; rw [if_neg (by decide), if_neg (by decide), if_pos rfl]; exact decide_eq_false (fun z => z (q8.resolve_left c_61))), rfl, rfl⟩, rfl⟩) (by decide) (by decide) dX3_letHappenToView_65
set_option maxRecDepth 100000 in
set_option maxHeartbeats 4000000 in
theorem c_X3_letHappenToView119 (l : Launch) (X : XT) (D : DT) (P : PT) (B W : Nat) (hk : kd B = 3) (row : Nat → Int32) (h : SB D B row W) (hW : W + 4 < 2 ^ 29) (hk3 : D 2 3 = 119) (p : Nat) (hnum : D 2 4 = nI p) (hv : p < 3) : CG l X yX3_letHappenToView (.code yX3_letHappenToView cX3_letHappenToView 3 (some .boolean) :: AW) ({ frames := 4, cells := 0, slots := 0, locals := 144 } : Room) [.ref (X.2.2 B), .ref (X.2.2 2)] (qI X (fun r D' P' => ((canP row (119, p, 0, 0) = true ∧ r = 1 ∧ (∀ i, (i < B ∨ B + 39 ≤ i) → D' i = D i) ∧ SB D' B (goP row (119, p, 0, 0)) (W + 2)) ∨ (canP row (119, p, 0, 0) = false ∧ r = 0 ∧ D' = D)) ∧ P = P')) D P 0 0 := by
  refine cg_of (by decide +kernel) (Nat.le_of_ble_eq_true rfl) ?_
  intro K hKl hKR C
  refine PV_lv (lv' := [some (.ref (X.2.2 B)), some (.ref (X.2.2 2)), none]) rfl ?_
  have hfl := h.fl
  have hdl := h.dl (m := 2) (by omega)
  obtain ⟨G, A, wr, nx, hw, hR, hT, hI, hAM⟩ := id h
  refine pv_aload_n (q := 1) C dX3_letHappenToView_0 rfl rfl rfl ?_ 
  refine pg_2_4 (q := 4) C k2 tw_176 dX3_letHappenToView_1 rfl ?_ 
  rw [hnum]
  refine pv_if_ltN (q := 7) (tgt := 15) (a := p) (b := 0) C rfl rfl (by omega) (by omega) dX3_letHappenToView_4 (by decide) rfl (fun c_4 => absurd c_4 (by omega)) (fun c_4 => ?_) 
  refine pv_aload_n (q := 8) C dX3_letHappenToView_7 rfl rfl rfl ?_ 
  refine pg_2_4 (q := 11) C k2 tw_176 dX3_letHappenToView_8 rfl ?_ 
  rw [hnum]
  refine pv_iconst (q := 12) (v := 3) C dX3_letHappenToView_11 rfl (by decide) ?_ 
  refine pv_icmp_ltN (q := 15) (tgt := 17) (a := p) (b := 3) C rfl rfl (by omega) (by omega) dX3_letHappenToView_12 (by decide) rfl (fun c_12 => ?_) (fun c_12 => absurd c_12 (by omega)) 
  refine pv_aload_n (q := 18) C dX3_letHappenToView_17 rfl rfl rfl ?_ 
  refine pg_3_2 (q := 21) C hk tw_132 dX3_letHappenToView_18 rfl (fun k18 => ?_) 
  refine pv_aload_n (q := 22) C dX3_letHappenToView_21 rfl rfl rfl ?_ 
  refine pg_2_4 (q := 25) C k2 tw_176 dX3_letHappenToView_22 rfl ?_ 
  rw [hnum]
  refine pv_aald_12 (q := 26) (j := p) C k18 rfl (by omega) dX3_letHappenToView_25 rfl (fun k25 => ?_) 
  have q6 := (hR.2.2.2.2.1 p hv).2.2.2.2.2.1
  have q8 := (hR.2.2.2.2.1 p hv).2.2.2.2.2.2.2.1
  refine pv_astore_n (q := 27) C dX3_letHappenToView_26 rfl rfl (Nat.le_of_ble_eq_true rfl) rfl ?_ 
  refine pv_aload_n (q := 28) C dX3_letHappenToView_27 rfl rfl rfl ?_ 
  refine pg_2_3 (q := 31) C k2 tw_174 dX3_letHappenToView_28 rfl ?_ 
  rw [hk3]
  refine pv_bipush (q := 33) (v := 114) C dX3_letHappenToView_31 rfl (by decide) ?_ 
  refine pv_icmp_ne (q := 36) (tgt := 43) C dX3_letHappenToView_33 (by decide) rfl (fun _ => ?_) (fun h => absurd h (by decide)) 
  refine pv_aload_n (q := 44) C dX3_letHappenToView_43 rfl rfl rfl ?_ 
  refine pg_5_4 (q := 47) C k25 tw_108 dX3_letHappenToView_44 rfl ?_ 
  rw [q6]
  refine pv_aload_n (q := 48) C dX3_letHappenToView_47 rfl rfl rfl ?_ 
  refine pg_2_3 (q := 51) C k2 tw_174 dX3_letHappenToView_48 rfl ?_ 
  rw [hk3]
  refine pv_bipush (q := 53) (v := 119) C dX3_letHappenToView_51 rfl (by decide) ?_ 
  refine pv_icmp_ne (q := 56) (tgt := 60) C dX3_letHappenToView_53 (by decide) rfl (fun h => absurd h (by decide)) (fun _ => ?_) 
  refine pv_iconst (q := 57) (v := 1) C dX3_letHappenToView_56 rfl (by decide) ?_ 
  refine pv_goto (tgt := 61) C dX3_letHappenToView_57 (by decide) ?_ 
  refine pv_icmp_eq (q := 64) (tgt := 66) C dX3_letHappenToView_61 (by decide) rfl (fun c_61 => ?_) (fun c_61 => ?_) 
  · refine pv_aload_n (q := 67) C dX3_letHappenToView_66 rfl rfl rfl ?_
    refine pg_2_3 (q := 70) C k2 tw_174 dX3_letHappenToView_67 rfl ?_ 
    rw [hk3]
    refine pv_bipush (q := 72) (v := 119) C dX3_letHappenToView_70 rfl (by decide) ?_ 
    refine pv_icmp_ne (q := 75) (tgt := 83) C dX3_letHappenToView_72 (by decide) rfl (fun h => absurd h (by decide)) (fun _ => ?_) 
    refine pv_aload_n (q := 76) C dX3_letHappenToView_75 rfl rfl rfl ?_ 
    refine pv_aload_n (q := 77) C dX3_letHappenToView_76 rfl rfl rfl ?_ 
    refine pv_callVv (q := 80) C hKl (c_X3_wakeView l X D P B p hk hv k25 row G A wr nx hR) tw_646 hk (by decide) rfl mm_X3_wakeView ⟨rfl, rfl⟩ (by rw [hKR]; exact ⟨Nat.le_of_ble_eq_true rfl, Nat.le_of_ble_eq_true rfl⟩) (by rw [hKR]; exact ⟨Nat.le_of_ble_eq_true rfl, Nat.le_of_ble_eq_true rfl⟩) rfl rfl rfl (Nat.le_of_ble_eq_true rfl) dX3_letHappenToView_77 rfl (fun D77 P77 hp77 => ?_) 
    obtain ⟨s1, s2, rfl⟩ := hp77
    refine pv_goto (tgt := 87) C dX3_letHappenToView_80 (by decide) ?_ 
    refine pv_iconst (q := 88) (v := 1) C dX3_letHappenToView_87 rfl (by decide) ?_ 
    exact pv_zret C (Or.inr rfl) (⟨Or.inl ⟨(by unfold canP; dsimp only; rw [if_neg (by decide), if_neg (by decide), if_neg (by decide), if_pos rfl]; exact decide_eq_true c_61), rfl, fun i hi => s1 i (by omega), by
          have eg : goP row (119, p, 0, 0) = m_wake row p := by unfold goP; dsimp only; rw [if_neg (by decide), if_neg (by decide), if_neg (by decide), if_neg (by decide), if_neg (by decide), if_neg (by decide), if_pos rfl]
          rw [eg]
          exact ⟨G, A, wr, _, by omega, s2, TR_lo hT (s1 _ (by omega)) (s1 _ (by omega)) (fun k hk => by unfold m_wake; rw [plus_ne (by omega), rowT_out (by omega)]), TI_wake hI hv, AM_wake hAM p⟩⟩, rfl⟩) (by decide) (by decide) dX3_letHappenToView_88
  · refine pv_iconst (q := 65) (v := 0) C dX3_letHappenToView_64 rfl (by decide) ?_
    exact pv_zret C (Or.inl rfl) (⟨Or.inr ⟨(by unfold canP; dsimp only; rw [if_neg (by decide), if_neg (by decide), if_neg (by decide), if_pos rfl]; exact decide_eq_false c_61), rfl, rfl⟩, rfl⟩) (by decide) (by decide) dX3_letHappenToView_65
set_option maxRecDepth 100000 in
set_option maxHeartbeats 4000000 in
theorem c_X3_letHappenToView114 (l : Launch) (X : XT) (D : DT) (P : PT) (B W : Nat) (hk : kd B = 3) (row : Nat → Int32) (h : SB D B row W) (hW : W + 4 < 2 ^ 29) (hk3 : D 2 3 = 114) (p : Nat) (hnum : D 2 4 = nI p) (hv : p < 3) : CG l X yX3_letHappenToView (.code yX3_letHappenToView cX3_letHappenToView 3 (some .boolean) :: AW) ({ frames := 4, cells := 0, slots := 0, locals := 144 } : Room) [.ref (X.2.2 B), .ref (X.2.2 2)] (qI X (fun r D' P' => ((canP row (114, p, 0, 0) = true ∧ r = 1 ∧ (∀ i, (i < B ∨ B + 39 ≤ i) → D' i = D i) ∧ SB D' B (goP row (114, p, 0, 0)) (W + 2)) ∨ (canP row (114, p, 0, 0) = false ∧ r = 0 ∧ D' = D)) ∧ P = P')) D P 0 0 := by
  refine cg_of (by decide +kernel) (Nat.le_of_ble_eq_true rfl) ?_
  intro K hKl hKR C
  refine PV_lv (lv' := [some (.ref (X.2.2 B)), some (.ref (X.2.2 2)), none]) rfl ?_
  have hfl := h.fl
  have hdl := h.dl (m := 2) (by omega)
  obtain ⟨G, A, wr, nx, hw, hR, hT, hI, hAM⟩ := id h
  refine pv_aload_n (q := 1) C dX3_letHappenToView_0 rfl rfl rfl ?_ 
  refine pg_2_4 (q := 4) C k2 tw_176 dX3_letHappenToView_1 rfl ?_ 
  rw [hnum]
  refine pv_if_ltN (q := 7) (tgt := 15) (a := p) (b := 0) C rfl rfl (by omega) (by omega) dX3_letHappenToView_4 (by decide) rfl (fun c_4 => absurd c_4 (by omega)) (fun c_4 => ?_) 
  refine pv_aload_n (q := 8) C dX3_letHappenToView_7 rfl rfl rfl ?_ 
  refine pg_2_4 (q := 11) C k2 tw_176 dX3_letHappenToView_8 rfl ?_ 
  rw [hnum]
  refine pv_iconst (q := 12) (v := 3) C dX3_letHappenToView_11 rfl (by decide) ?_ 
  refine pv_icmp_ltN (q := 15) (tgt := 17) (a := p) (b := 3) C rfl rfl (by omega) (by omega) dX3_letHappenToView_12 (by decide) rfl (fun c_12 => ?_) (fun c_12 => absurd c_12 (by omega)) 
  refine pv_aload_n (q := 18) C dX3_letHappenToView_17 rfl rfl rfl ?_ 
  refine pg_3_2 (q := 21) C hk tw_132 dX3_letHappenToView_18 rfl (fun k18 => ?_) 
  refine pv_aload_n (q := 22) C dX3_letHappenToView_21 rfl rfl rfl ?_ 
  refine pg_2_4 (q := 25) C k2 tw_176 dX3_letHappenToView_22 rfl ?_ 
  rw [hnum]
  refine pv_aald_12 (q := 26) (j := p) C k18 rfl (by omega) dX3_letHappenToView_25 rfl (fun k25 => ?_) 
  have q6 := (hR.2.2.2.2.1 p hv).2.2.2.2.2.1
  have q8 := (hR.2.2.2.2.1 p hv).2.2.2.2.2.2.2.1
  refine pv_astore_n (q := 27) C dX3_letHappenToView_26 rfl rfl (Nat.le_of_ble_eq_true rfl) rfl ?_ 
  refine pv_aload_n (q := 28) C dX3_letHappenToView_27 rfl rfl rfl ?_ 
  refine pg_2_3 (q := 31) C k2 tw_174 dX3_letHappenToView_28 rfl ?_ 
  rw [hk3]
  refine pv_bipush (q := 33) (v := 114) C dX3_letHappenToView_31 rfl (by decide) ?_ 
  refine pv_icmp_ne (q := 36) (tgt := 43) C dX3_letHappenToView_33 (by decide) rfl (fun h => absurd h (by decide)) (fun _ => ?_) 
  refine pv_aload_n (q := 37) C dX3_letHappenToView_36 rfl rfl rfl ?_ 
  refine pv_aload_n (q := 38) C dX3_letHappenToView_37 rfl rfl rfl ?_ 
  refine pv_callVv (q := 41) C hKl (c_X3_refreshView l X D P B p hk hv k25 row G A wr nx hR hT) tw_1017 hk (by decide) rfl mm_X3_refreshView ⟨rfl, rfl⟩ (by rw [hKR]; exact ⟨Nat.le_of_ble_eq_true rfl, Nat.le_of_ble_eq_true rfl⟩) (by rw [hKR]; exact ⟨Nat.le_of_ble_eq_true rfl, Nat.le_of_ble_eq_true rfl⟩) rfl rfl rfl (Nat.le_of_ble_eq_true rfl) dX3_letHappenToView_38 rfl (fun D38 P38 hp38 => ?_) 
  obtain ⟨s1, s2, rfl⟩ := hp38
  refine pv_iconst (q := 42) (v := 1) C dX3_letHappenToView_41 rfl (by decide) ?_ 
  exact pv_zret C (Or.inr rfl) (⟨Or.inl ⟨rfl, rfl, fun i hi => s1 i (by omega), by
        have eg : goP row (114, p, 0, 0) = m_ref row p := by unfold goP; dsimp only; rw [if_neg (by decide), if_neg (by decide), if_neg (by decide), if_neg (by decide), if_neg (by decide), if_neg (by decide), if_neg (by decide)]
        rw [eg]
        exact ⟨G, A, wr, _, by omega, s2, TR_lo hT (s1 _ (by omega)) (s1 _ (by omega)) (fun k hk => by unfold m_ref; rw [plus_ne (by omega), rowT_out (by omega)]), TI_ref hI hv, AM_ref hAM p⟩⟩, rfl⟩) (by decide) (by decide) dX3_letHappenToView_42
set_option maxRecDepth 100000 in
set_option maxHeartbeats 4000000 in
theorem c_X3_letHappen122 (l : Launch) (X : XT) (D : DT) (P : PT) (B W : Nat) (hk : kd B = 3) (row : Nat → Int32) (h : SB D B row W) (hW : W + 4 < 2 ^ 29) (hk3 : D 2 3 = 122) (p : Nat) (hnum : D 2 4 = nI p) (hv : p < 3) : CG l X yX3_letHappen (.code yX3_letHappen cX3_letHappen 3 (some .boolean) :: AW) ({ frames := 5, cells := 0, slots := 0, locals := 180 } : Room) [.ref (X.2.2 B), .ref (X.2.2 2)] (qI X (fun r D' P' => ((canP row (122, p, 0, 0) = true ∧ r = 1 ∧ (∀ i, (i < B ∨ B + 39 ≤ i) → D' i = D i) ∧ SB D' B (goP row (122, p, 0, 0)) (W + 2)) ∨ (canP row (122, p, 0, 0) = false ∧ r = 0 ∧ D' = D)) ∧ P = P')) D P 0 0 := by
  refine cg_of (by decide +kernel) (Nat.le_of_ble_eq_true rfl) ?_
  intro K hKl hKR C
  refine PV_lv (lv' := [some (.ref (X.2.2 B)), some (.ref (X.2.2 2)), none]) rfl ?_
  have hfl := h.fl
  have hdl := h.dl (m := 2) (by omega)
  obtain ⟨G, A, wr, nx, hw, hR, hT, hI, hAM⟩ := id h
  refine pv_aload_n (q := 1) C dX3_letHappen_0 rfl rfl rfl ?_ 
  refine pg_2_3 (q := 4) C k2 tw_174 dX3_letHappen_1 rfl ?_ 
  rw [hk3]
  refine pv_bipush (q := 6) (v := 116) C dX3_letHappen_4 rfl (by decide) ?_ 
  refine pv_icmp_ne (q := 9) (tgt := 20) C dX3_letHappen_6 (by decide) rfl (fun _ => ?_) (fun h => absurd h (by decide)) 
  refine pv_aload_n (q := 21) C dX3_letHappen_20 rfl rfl rfl ?_ 
  refine pg_2_3 (q := 24) C k2 tw_174 dX3_letHappen_21 rfl ?_ 
  rw [hk3]
  refine pv_bipush (q := 26) (v := 122) C dX3_letHappen_24 rfl (by decide) ?_ 
  refine pv_icmp_eq (q := 29) (tgt := 47) C dX3_letHappen_26 (by decide) rfl (fun _ => ?_) (fun h => absurd h (by decide)) 
  refine pv_aload_n (q := 48) C dX3_letHappen_47 rfl rfl rfl ?_ 
  refine pv_aload_n (q := 49) C dX3_letHappen_48 rfl rfl rfl ?_ 
  refine pv_callVi (q := 52) C hKl (c_X3_letHappenToView122 l X D P B W hk row h hW hk3 p hnum hv) tw_1013 hk (by decide) rfl mm_X3_letHappenToView ⟨rfl, rfl⟩ (by rw [hKR]; exact ⟨Nat.le_of_ble_eq_true rfl, Nat.le_of_ble_eq_true rfl⟩) (by rw [hKR]; exact ⟨Nat.le_of_ble_eq_true rfl, Nat.le_of_ble_eq_true rfl⟩) rfl rfl rfl (Nat.le_of_ble_eq_true rfl) dX3_letHappen_49 rfl (fun r49 D49 P49 hp49 => ?_) 
  exact pv_zret C (by rcases hp49 with ⟨⟨-, hb, -⟩ | ⟨-, hb, -⟩, -⟩; exact Or.inr hb; exact Or.inl hb) (hp49) (by decide) (by decide) dX3_letHappen_52
set_option maxRecDepth 100000 in
set_option maxHeartbeats 4000000 in
theorem c_X3_letHappen119 (l : Launch) (X : XT) (D : DT) (P : PT) (B W : Nat) (hk : kd B = 3) (row : Nat → Int32) (h : SB D B row W) (hW : W + 4 < 2 ^ 29) (hk3 : D 2 3 = 119) (p : Nat) (hnum : D 2 4 = nI p) (hv : p < 3) : CG l X yX3_letHappen (.code yX3_letHappen cX3_letHappen 3 (some .boolean) :: AW) ({ frames := 5, cells := 0, slots := 0, locals := 180 } : Room) [.ref (X.2.2 B), .ref (X.2.2 2)] (qI X (fun r D' P' => ((canP row (119, p, 0, 0) = true ∧ r = 1 ∧ (∀ i, (i < B ∨ B + 39 ≤ i) → D' i = D i) ∧ SB D' B (goP row (119, p, 0, 0)) (W + 2)) ∨ (canP row (119, p, 0, 0) = false ∧ r = 0 ∧ D' = D)) ∧ P = P')) D P 0 0 := by
  refine cg_of (by decide +kernel) (Nat.le_of_ble_eq_true rfl) ?_
  intro K hKl hKR C
  refine PV_lv (lv' := [some (.ref (X.2.2 B)), some (.ref (X.2.2 2)), none]) rfl ?_
  have hfl := h.fl
  have hdl := h.dl (m := 2) (by omega)
  obtain ⟨G, A, wr, nx, hw, hR, hT, hI, hAM⟩ := id h
  refine pv_aload_n (q := 1) C dX3_letHappen_0 rfl rfl rfl ?_ 
  refine pg_2_3 (q := 4) C k2 tw_174 dX3_letHappen_1 rfl ?_ 
  rw [hk3]
  refine pv_bipush (q := 6) (v := 116) C dX3_letHappen_4 rfl (by decide) ?_ 
  refine pv_icmp_ne (q := 9) (tgt := 20) C dX3_letHappen_6 (by decide) rfl (fun _ => ?_) (fun h => absurd h (by decide)) 
  refine pv_aload_n (q := 21) C dX3_letHappen_20 rfl rfl rfl ?_ 
  refine pg_2_3 (q := 24) C k2 tw_174 dX3_letHappen_21 rfl ?_ 
  rw [hk3]
  refine pv_bipush (q := 26) (v := 122) C dX3_letHappen_24 rfl (by decide) ?_ 
  refine pv_icmp_eq (q := 29) (tgt := 47) C dX3_letHappen_26 (by decide) rfl (fun h => absurd h (by decide)) (fun _ => ?_) 
  refine pv_aload_n (q := 30) C dX3_letHappen_29 rfl rfl rfl ?_ 
  refine pg_2_3 (q := 33) C k2 tw_174 dX3_letHappen_30 rfl ?_ 
  rw [hk3]
  refine pv_bipush (q := 35) (v := 119) C dX3_letHappen_33 rfl (by decide) ?_ 
  refine pv_icmp_eq (q := 38) (tgt := 47) C dX3_letHappen_35 (by decide) rfl (fun _ => ?_) (fun h => absurd h (by decide)) 
  refine pv_aload_n (q := 48) C dX3_letHappen_47 rfl rfl rfl ?_ 
  refine pv_aload_n (q := 49) C dX3_letHappen_48 rfl rfl rfl ?_ 
  refine pv_callVi (q := 52) C hKl (c_X3_letHappenToView119 l X D P B W hk row h hW hk3 p hnum hv) tw_1013 hk (by decide) rfl mm_X3_letHappenToView ⟨rfl, rfl⟩ (by rw [hKR]; exact ⟨Nat.le_of_ble_eq_true rfl, Nat.le_of_ble_eq_true rfl⟩) (by rw [hKR]; exact ⟨Nat.le_of_ble_eq_true rfl, Nat.le_of_ble_eq_true rfl⟩) rfl rfl rfl (Nat.le_of_ble_eq_true rfl) dX3_letHappen_49 rfl (fun r49 D49 P49 hp49 => ?_) 
  exact pv_zret C (by rcases hp49 with ⟨⟨-, hb, -⟩ | ⟨-, hb, -⟩, -⟩; exact Or.inr hb; exact Or.inl hb) (hp49) (by decide) (by decide) dX3_letHappen_52
set_option maxRecDepth 100000 in
set_option maxHeartbeats 4000000 in
theorem c_X3_letHappen114 (l : Launch) (X : XT) (D : DT) (P : PT) (B W : Nat) (hk : kd B = 3) (row : Nat → Int32) (h : SB D B row W) (hW : W + 4 < 2 ^ 29) (hk3 : D 2 3 = 114) (p : Nat) (hnum : D 2 4 = nI p) (hv : p < 3) : CG l X yX3_letHappen (.code yX3_letHappen cX3_letHappen 3 (some .boolean) :: AW) ({ frames := 5, cells := 0, slots := 0, locals := 180 } : Room) [.ref (X.2.2 B), .ref (X.2.2 2)] (qI X (fun r D' P' => ((canP row (114, p, 0, 0) = true ∧ r = 1 ∧ (∀ i, (i < B ∨ B + 39 ≤ i) → D' i = D i) ∧ SB D' B (goP row (114, p, 0, 0)) (W + 2)) ∨ (canP row (114, p, 0, 0) = false ∧ r = 0 ∧ D' = D)) ∧ P = P')) D P 0 0 := by
  refine cg_of (by decide +kernel) (Nat.le_of_ble_eq_true rfl) ?_
  intro K hKl hKR C
  refine PV_lv (lv' := [some (.ref (X.2.2 B)), some (.ref (X.2.2 2)), none]) rfl ?_
  have hfl := h.fl
  have hdl := h.dl (m := 2) (by omega)
  obtain ⟨G, A, wr, nx, hw, hR, hT, hI, hAM⟩ := id h
  refine pv_aload_n (q := 1) C dX3_letHappen_0 rfl rfl rfl ?_ 
  refine pg_2_3 (q := 4) C k2 tw_174 dX3_letHappen_1 rfl ?_ 
  rw [hk3]
  refine pv_bipush (q := 6) (v := 116) C dX3_letHappen_4 rfl (by decide) ?_ 
  refine pv_icmp_ne (q := 9) (tgt := 20) C dX3_letHappen_6 (by decide) rfl (fun _ => ?_) (fun h => absurd h (by decide)) 
  refine pv_aload_n (q := 21) C dX3_letHappen_20 rfl rfl rfl ?_ 
  refine pg_2_3 (q := 24) C k2 tw_174 dX3_letHappen_21 rfl ?_ 
  rw [hk3]
  refine pv_bipush (q := 26) (v := 122) C dX3_letHappen_24 rfl (by decide) ?_ 
  refine pv_icmp_eq (q := 29) (tgt := 47) C dX3_letHappen_26 (by decide) rfl (fun h => absurd h (by decide)) (fun _ => ?_) 
  refine pv_aload_n (q := 30) C dX3_letHappen_29 rfl rfl rfl ?_ 
  refine pg_2_3 (q := 33) C k2 tw_174 dX3_letHappen_30 rfl ?_ 
  rw [hk3]
  refine pv_bipush (q := 35) (v := 119) C dX3_letHappen_33 rfl (by decide) ?_ 
  refine pv_icmp_eq (q := 38) (tgt := 47) C dX3_letHappen_35 (by decide) rfl (fun h => absurd h (by decide)) (fun _ => ?_) 
  refine pv_aload_n (q := 39) C dX3_letHappen_38 rfl rfl rfl ?_ 
  refine pg_2_3 (q := 42) C k2 tw_174 dX3_letHappen_39 rfl ?_ 
  rw [hk3]
  refine pv_bipush (q := 44) (v := 114) C dX3_letHappen_42 rfl (by decide) ?_ 
  refine pv_icmp_ne (q := 47) (tgt := 53) C dX3_letHappen_44 (by decide) rfl (fun h => absurd h (by decide)) (fun _ => ?_) 
  refine pv_aload_n (q := 48) C dX3_letHappen_47 rfl rfl rfl ?_ 
  refine pv_aload_n (q := 49) C dX3_letHappen_48 rfl rfl rfl ?_ 
  refine pv_callVi (q := 52) C hKl (c_X3_letHappenToView114 l X D P B W hk row h hW hk3 p hnum hv) tw_1013 hk (by decide) rfl mm_X3_letHappenToView ⟨rfl, rfl⟩ (by rw [hKR]; exact ⟨Nat.le_of_ble_eq_true rfl, Nat.le_of_ble_eq_true rfl⟩) (by rw [hKR]; exact ⟨Nat.le_of_ble_eq_true rfl, Nat.le_of_ble_eq_true rfl⟩) rfl rfl rfl (Nat.le_of_ble_eq_true rfl) dX3_letHappen_49 rfl (fun r49 D49 P49 hp49 => ?_) 
  exact pv_zret C (by rcases hp49 with ⟨⟨-, hb, -⟩ | ⟨-, hb, -⟩, -⟩; exact Or.inr hb; exact Or.inl hb) (hp49) (by decide) (by decide) dX3_letHappen_52
set_option maxRecDepth 100000 in
set_option maxHeartbeats 4000000 in
theorem c_X3_letHappen116 (l : Launch) (X : XT) (D : DT) (P : PT) (B W : Nat) (hk : kd B = 3) (row : Nat → Int32) (h : SB D B row W) (hW : W + 4 < 2 ^ 29) (hk3 : D 2 3 = 116) (p : Nat) (hnum : D 2 4 = nI p) (ht30 : p ≤ 30) : CG l X yX3_letHappen (.code yX3_letHappen cX3_letHappen 3 (some .boolean) :: AW) ({ frames := 5, cells := 0, slots := 0, locals := 180 } : Room) [.ref (X.2.2 B), .ref (X.2.2 2)] (qI X (fun r D' P' => ((canP row (116, p, 0, 0) = true ∧ r = 1 ∧ (∀ i, (i < B ∨ B + 39 ≤ i) → D' i = D i) ∧ SB D' B (goP row (116, p, 0, 0)) (W + 2)) ∨ (canP row (116, p, 0, 0) = false ∧ r = 0 ∧ D' = D)) ∧ P = P')) D P 0 0 := by
  refine cg_of (by decide +kernel) (Nat.le_of_ble_eq_true rfl) ?_
  intro K hKl hKR C
  refine PV_lv (lv' := [some (.ref (X.2.2 B)), some (.ref (X.2.2 2)), none]) rfl ?_
  have hfl := h.fl
  have hdl := h.dl (m := 2) (by omega)
  obtain ⟨G, A, wr, nx, hw, hR, hT, hI, hAM⟩ := id h
  refine pv_aload_n (q := 1) C dX3_letHappen_0 rfl rfl rfl ?_ 
  refine pg_2_3 (q := 4) C k2 tw_174 dX3_letHappen_1 rfl ?_ 
  rw [hk3]
  refine pv_bipush (q := 6) (v := 116) C dX3_letHappen_4 rfl (by decide) ?_ 
  refine pv_icmp_ne (q := 9) (tgt := 20) C dX3_letHappen_6 (by decide) rfl (fun h => absurd h (by decide)) (fun _ => ?_) 
  refine pv_aload_n (q := 10) C dX3_letHappen_9 rfl rfl rfl ?_ 
  refine pv_aload_n (q := 11) C dX3_letHappen_10 rfl rfl rfl ?_ 
  refine pg_2_4 (q := 14) C k2 tw_176 dX3_letHappen_11 rfl ?_ 
  rw [hnum]
  refine pv_callVi (q := 17) C hKl (c_X3_passTicks l X D P B hk row G A wr nx hR p (by omega)) tw_1012 hk (by decide) rfl mm_X3_passTicks ⟨rfl, rfl⟩ (by rw [hKR]; exact ⟨Nat.le_of_ble_eq_true rfl, Nat.le_of_ble_eq_true rfl⟩) (by rw [hKR]; exact ⟨Nat.le_of_ble_eq_true rfl, Nat.le_of_ble_eq_true rfl⟩) rfl rfl rfl (Nat.le_of_ble_eq_true rfl) dX3_letHappen_14 rfl (fun r14 D14 P14 hp14 => ?_) 
  obtain ⟨hr14, s1, ⟨nx2, s2⟩, rfl⟩ := hp14
  refine pv_pop (q := 18) C dX3_letHappen_17 rfl rfl ?_ 
  refine pv_iconst (q := 19) (v := 1) C dX3_letHappen_18 rfl (by decide) ?_ 
  exact pv_zret C (Or.inr rfl) (⟨Or.inl ⟨rfl, rfl, fun i hi => s1 i (by omega), by
        have eg : goP row (116, p, 0, 0) = m_ticks row p := by unfold goP; dsimp only; rw [if_neg (by decide), if_neg (by decide), if_neg (by decide), if_neg (by decide), if_pos rfl]
        rw [eg]
        exact ⟨G, A, wr, nx2, by omega, s2, TR_lo hT (s1 _ (by omega)) (s1 _ (by omega)) (fun k hk => lo_ticks row (Or.inl hk) p), TI_ticks hI p, AM_ticks hAM p⟩⟩, rfl⟩) (by decide) (by decide) dX3_letHappen_19
