set_option maxRecDepth 100000 in
set_option maxHeartbeats 4000000 in
theorem c_X7_append (l : Launch) (X : XT) (D : DT) (P : PT) (code : Int32) (n : Nat) (hn60 : n ≤ 60) (hn : D 6 9 = nI n) : CG l X yX7_append (.code yX7_append cX7_append 2 (some .int) :: AW) ({ frames := 1, cells := 0, slots := 0, locals := 36 } : Room) [.ref (X.2.2 6), .int code] (qI X (fun r D' P' => mr (kApp n code) (nI n + 1) D (up2 (up2 (clr D) 12 n code) 6 9 (nI n + 1)) r D' ∧ P = P')) D P 0 0 := by
  refine cg_of (by decide +kernel) (Nat.le_of_ble_eq_true rfl) ?_
  intro K hKl hKR C
  refine PV_lv (lv' := [some (.ref (X.2.2 6)), some (.int code)]) rfl ?_
  refine pv_aload_n (q := 1) C dX7_append_0 rfl rfl rfl ?_ 
  refine pv_iload_n (q := 2) C dX7_append_1 rfl rfl rfl ?_ 
  refine pv_i2l (q := 3) C dX7_append_2 rfl ?_ 
  refine pv_ldc2 (q := 6) C dX7_append_3 rfl tw_1197 ?_ 
  refine pv_ldc2 (q := 9) C dX7_append_6 rfl tw_1198 ?_ 
  refine pv_callSi (q := 12) C hKl (c_X7_in l X D P _ _ _) tw_1053 mm_X7_in ⟨rfl, rfl⟩ (by rw [hKR]; exact ⟨Nat.le_of_ble_eq_true rfl, Nat.le_of_ble_eq_true rfl⟩) (by rw [hKR]; exact ⟨Nat.le_of_ble_eq_true rfl, Nat.le_of_ble_eq_true rfl⟩) rfl rfl rfl (Nat.le_of_ble_eq_true rfl) dX7_append_9 rfl (fun r9 D9 P9 hp9 => ?_) 
  rcases hp9 with ⟨⟨hz9, rfl⟩ | ⟨hm9, rfl⟩, rfl, rfl⟩
  · have hy9 : rg code 33 126 := (rg_l (by decide) (by decide)).mpr hz9
    refine pv_if_ne (q := 15) (tgt := 19) C dX7_append_12 (by decide) rfl (fun _ => ?_) (fun h => absurd h (by decide)) 
    refine pv_aload_n (q := 20) C dX7_append_19 rfl rfl rfl ?_ 
    refine pg_7_9 (q := 23) C k6 tw_1004 dX7_append_20 rfl ?_ 
    rw [hn]
    refine pv_bipush (q := 25) (v := 60) C dX7_append_23 rfl (by decide) ?_ 
    refine pv_icmp_neN (q := 28) (tgt := 32) (a := n) (b := 60) C rfl rfl (by omega) (by omega) dX7_append_25 (by decide) rfl (fun c_25 => ?_) (fun c_25 => ?_) 
    · refine pv_iconst (q := 33) (v := 0) C dX7_append_32 rfl (by decide) ?_
      refine pv_callVi (q := 36) C hKl (c_X7_refused0 l X D P ) tw_1069 k6 (by decide) rfl mm_X7_refused ⟨rfl, rfl⟩ (by rw [hKR]; exact ⟨Nat.le_of_ble_eq_true rfl, Nat.le_of_ble_eq_true rfl⟩) (by rw [hKR]; exact ⟨Nat.le_of_ble_eq_true rfl, Nat.le_of_ble_eq_true rfl⟩) rfl rfl rfl (Nat.le_of_ble_eq_true rfl) dX7_append_33 rfl (fun r33 D33 P33 hp33 => ?_) 
      obtain ⟨rfl, hR33, rfl⟩ := hp33
      refine pv_if_eq (q := 39) (tgt := 41) C dX7_append_36 (by decide) rfl (fun _ => ?_) (fun h => absurd h (by decide)) 
      refine pv_aload_n (q := 42) C dX7_append_41 rfl rfl rfl ?_ 
      refine pg_7_8 (q := 45) C k6 tw_1003 dX7_append_42 rfl (fun k42 => ?_) 
      refine pv_aload_n (q := 46) C dX7_append_45 rfl rfl rfl ?_ 
      refine pg_7_9 (q := 49) C k6 tw_1004 dX7_append_46 rfl ?_ 
      rw [show D33 6 9 = nI n by rw [hR33]; exact hn]
      refine pv_iload_n (q := 50) C dX7_append_49 rfl rfl rfl ?_ 
      refine pv_iast (q := 51) (j := n) C (iln_17 k42) rfl (by omega) dX7_append_50 rfl (fun D50 hD50 => ?_) 
      refine pv_aload_n (q := 52) C dX7_append_51 rfl rfl rfl ?_ 
      refine pv_dup (q := 53) C dX7_append_52 rfl rfl ?_ 
      refine pg_7_9 (q := 56) C k6 tw_1004 dX7_append_53 rfl ?_ 
      rw [show D50 6 9 = nI n by rw [hD50, hR33]; exact hn]
      refine pv_iconst (q := 57) (v := 1) C dX7_append_56 rfl (by decide) ?_ 
      refine pv_iadd (q := 58) C dX7_append_57 rfl ?_ 
      refine pp_7_9 (q := 61) C k6 tw_1004 dX7_append_58 rfl (fun D58 hD58 => ?_) 
      refine pv_aload_n (q := 62) C dX7_append_61 rfl rfl rfl ?_ 
      refine pg_7_9 (q := 65) C k6 tw_1004 dX7_append_62 rfl ?_ 
      rw [show D58 6 9 = nI n + 1 by rw [hD58, up2_self]]
      exact pv_iret C (⟨mr_ok (by unfold kApp; rw [if_pos hy9, if_neg c_25]) rfl (by rw [hD58, hD50, hR33]; rfl), rfl⟩) (by decide) (by decide) dX7_append_65
    · refine pv_iconst (q := 29) (v := 2) C dX7_append_28 rfl (by decide) ?_
      refine pv_goto (tgt := 33) C dX7_append_29 (by decide) ?_ 
      refine pv_callVi (q := 36) C hKl (c_X7_refused l X D P _ (by decide)) tw_1069 k6 (by decide) rfl mm_X7_refused ⟨rfl, rfl⟩ (by rw [hKR]; exact ⟨Nat.le_of_ble_eq_true rfl, Nat.le_of_ble_eq_true rfl⟩) (by rw [hKR]; exact ⟨Nat.le_of_ble_eq_true rfl, Nat.le_of_ble_eq_true rfl⟩) rfl rfl rfl (Nat.le_of_ble_eq_true rfl) dX7_append_33 rfl (fun r33 D33 P33 hp33 => ?_) 
      obtain ⟨rfl, hR33, rfl⟩ := hp33
      refine pv_if_eq (q := 39) (tgt := 41) C dX7_append_36 (by decide) rfl (fun h => absurd h (by decide)) (fun _ => ?_) 
      refine pv_iconst (q := 40) (v := 0) C dX7_append_39 rfl (by decide) ?_ 
      exact pv_iret C (⟨mr_no 2 (by unfold kApp; rw [if_pos hy9, if_pos c_25]) (by decide) hR33, rfl⟩) (by decide) (by decide) dX7_append_40
  · have hn9 : ¬ rg code 33 126 := fun q => hm9 ((rg_l (by decide) (by decide)).mp q)
    refine pv_if_ne (q := 15) (tgt := 19) C dX7_append_12 (by decide) rfl (fun h => absurd h (by decide)) (fun _ => ?_) 
    refine pv_iconst (q := 16) (v := 1) C dX7_append_15 rfl (by decide) ?_ 
    refine pv_goto (tgt := 33) C dX7_append_16 (by decide) ?_ 
    refine pv_callVi (q := 36) C hKl (c_X7_refused l X D P _ (by decide)) tw_1069 k6 (by decide) rfl mm_X7_refused ⟨rfl, rfl⟩ (by rw [hKR]; exact ⟨Nat.le_of_ble_eq_true rfl, Nat.le_of_ble_eq_true rfl⟩) (by rw [hKR]; exact ⟨Nat.le_of_ble_eq_true rfl, Nat.le_of_ble_eq_true rfl⟩) rfl rfl rfl (Nat.le_of_ble_eq_true rfl) dX7_append_33 rfl (fun r33 D33 P33 hp33 => ?_) 
    obtain ⟨rfl, hR33, rfl⟩ := hp33
    refine pv_if_eq (q := 39) (tgt := 41) C dX7_append_36 (by decide) rfl (fun h => absurd h (by decide)) (fun _ => ?_) 
    refine pv_iconst (q := 40) (v := 0) C dX7_append_39 rfl (by decide) ?_ 
    exact pv_iret C (⟨mr_no 1 (by unfold kApp; rw [if_neg hn9]) (by decide) hR33, rfl⟩) (by decide) (by decide) dX7_append_40
set_option maxRecDepth 100000 in
set_option maxHeartbeats 4000000 in
theorem c_X7_undo (l : Launch) (X : XT) (D : DT) (P : PT) (s : Nat) (hs5 : s ≤ 5) (h3 : D 6 3 = nI s) : CG l X yX7_undo (.code yX7_undo cX7_undo 2 (some .int) :: AW) ({ frames := 1, cells := 0, slots := 0, locals := 36 } : Room) [.ref (X.2.2 6)] (qI X (fun r D' P' => mr (if s = 0 then 1 else 0) (nI (s - 1)) D (m_und (clr D) s) r D' ∧ P = P')) D P 0 0 := by
  refine cg_of (by decide +kernel) (Nat.le_of_ble_eq_true rfl) ?_
  intro K hKl hKR C
  refine PV_lv (lv' := [some (.ref (X.2.2 6)), none]) rfl ?_
  refine pv_aload_n (q := 1) C dX7_undo_0 rfl rfl rfl ?_ 
  refine pv_aload_n (q := 2) C dX7_undo_1 rfl rfl rfl ?_ 
  refine pg_7_3 (q := 5) C k6 tw_998 dX7_undo_2 rfl ?_ 
  rw [h3]
  refine pv_if_neN (q := 8) (tgt := 12) (a := s) (b := 0) C rfl rfl (by omega) (by omega) dX7_undo_5 (by decide) rfl (fun c_5 => ?_) (fun c_5 => ?_) 
  · refine pv_iconst (q := 13) (v := 0) C dX7_undo_12 rfl (by decide) ?_
    refine pv_callVi (q := 16) C hKl (c_X7_refused0 l X D P ) tw_1069 k6 (by decide) rfl mm_X7_refused ⟨rfl, rfl⟩ (by rw [hKR]; exact ⟨Nat.le_of_ble_eq_true rfl, Nat.le_of_ble_eq_true rfl⟩) (by rw [hKR]; exact ⟨Nat.le_of_ble_eq_true rfl, Nat.le_of_ble_eq_true rfl⟩) rfl rfl rfl (Nat.le_of_ble_eq_true rfl) dX7_undo_13 rfl (fun r13 D13 P13 hp13 => ?_) 
    obtain ⟨rfl, hR13, rfl⟩ := hp13
    refine pv_if_eq (q := 19) (tgt := 21) C dX7_undo_16 (by decide) rfl (fun _ => ?_) (fun h => absurd h (by decide)) 
    refine pv_aload_n (q := 22) C dX7_undo_21 rfl rfl rfl ?_ 
    refine pv_dup (q := 23) C dX7_undo_22 rfl rfl ?_ 
    refine pg_7_3 (q := 26) C k6 tw_998 dX7_undo_23 rfl ?_ 
    rw [show D13 6 3 = nI s by rw [hR13]; exact h3]
    refine pv_iconst (q := 27) (v := 1) C dX7_undo_26 rfl (by decide) ?_ 
    refine pv_isubN (q := 28) (a := s) (b := 1) C rfl rfl (by omega) dX7_undo_27 rfl ?_ 
    refine pp_7_3 (q := 31) C k6 tw_998 dX7_undo_28 rfl (fun D28 hD28 => ?_) 
    refine pv_iconst (q := 32) (v := 0) C dX7_undo_31 rfl (by decide) ?_ 
    refine pv_istore_n (q := 33) C dX7_undo_32 rfl rfl (Nat.le_of_ble_eq_true rfl) rfl ?_ 
    have e7 : D28 7 = D 7 := by rw [hD28, hR13]; rfl
    have e8 : D28 8 = D 8 := by rw [hD28, hR13]; rfl
    have loop_33 : ∀ (nn : Nat) (k : Nat) (g : Nat → Int32), (185 ≤ k + nn) → k ≤ 184 → (∀ j, g j = if j < k then D 8 (184 * (s - 1) + j) else D 7 j) → PV K X (MK K X (qI X (fun r D' P' => mr (if s = 0 then 1 else 0) (nI (s - 1)) D (m_und (clr D) s) r D' ∧ P = P')) 0 0) (0) (0) 33 [some (.ref (X.2.2 6)), some (.int (nI k))] [] (va_up D28 7 g) P := by
      intro nn
      induction nn with
      | zero =>
        intro k g hfuel hk hg
        exact absurd hfuel (by omega)
      | succ nn ih =>
        intro k g hfuel hk hg
        refine pv_iload_n (q := 34) C dX7_undo_33 rfl rfl rfl ?_ 
        refine pv_sipush (q := 37) (v := 184) C dX7_undo_34 rfl (by decide) ?_ 
        refine pv_icmp_geN (q := 40) (tgt := 67) (a := k) (b := 184) C rfl rfl (by omega) (by omega) dX7_undo_37 (by decide) rfl (fun c_37 => ?_) (fun c_37 => ?_) 
        · refine pv_aload_n (q := 68) C dX7_undo_67 rfl rfl rfl ?_
          refine pg_7_3 (q := 71) C k6 tw_998 dX7_undo_68 rfl ?_ 
          rw [show (va_up D28 7 g) 6 3 = nI (s - 1) by rw [va_up_ne _ _ (by decide), hD28, up2_self]]
          exact pv_iret C (by
              have ek : k = 184 := by omega
              subst ek
              have eg : g = fun k => if k < 184 then D 8 (184 * (s - 1) + k) else D 7 k := funext hg
              refine ⟨mr_ok (by rw [if_neg c_5]) rfl ?_, rfl⟩
              rw [eg, hD28, hR13]
              rfl) (by decide) (by decide) dX7_undo_71
        · refine pv_aload_n (q := 41) C dX7_undo_40 rfl rfl rfl ?_
          refine pg_7_1 (q := 44) C k6 tw_996 dX7_undo_41 rfl (fun k41 => ?_) 
          refine pv_iload_n (q := 45) C dX7_undo_44 rfl rfl rfl ?_ 
          refine pv_aload_n (q := 46) C dX7_undo_45 rfl rfl rfl ?_ 
          refine pg_7_2 (q := 49) C k6 tw_997 dX7_undo_46 rfl (fun k46 => ?_) 
          refine pv_sipush (q := 52) (v := 184) C dX7_undo_49 rfl (by decide) ?_ 
          refine pv_aload_n (q := 53) C dX7_undo_52 rfl rfl rfl ?_ 
          refine pg_7_3 (q := 56) C k6 tw_998 dX7_undo_53 rfl ?_ 
          rw [show (va_up D28 7 g) 6 3 = nI (s - 1) by rw [va_up_ne _ _ (by decide), hD28, up2_self]]
          refine pv_imulN (q := 57) (a := 184) (b := (s - 1)) C rfl rfl dX7_undo_56 rfl ?_ 
          refine pv_iload_n (q := 58) C dX7_undo_57 rfl rfl rfl ?_ 
          refine pv_iaddN (q := 59) (a := (184 * (s - 1))) (b := k) C rfl rfl dX7_undo_58 rfl ?_ 
          refine pv_iald (q := 60) (j := ((184 * (s - 1)) + k)) C (iln_16 k46) rfl (by omega) dX7_undo_59 rfl ?_ 
          refine pv_iast (q := 61) (j := k) C (iln_15 k41) rfl (by omega) dX7_undo_60 rfl (fun D60 hD60 => ?_) 
          refine pv_iinc (q := 64) (v := nI (k + 1)) C dX7_undo_61 rfl rfl (nI_add _ _) rfl ?_ 
          refine pv_goto (tgt := 33) C dX7_undo_64 (by decide) ?_ 
          rw [up2_va] at hD60
          subst hD60
          exact ih (k + 1) _ (by omega) (by omega) (fun j => by
            by_cases e : j = k
            · subst e
              rw [va_up_self, va_up_ne _ _ (by decide), e8, if_pos (by omega)]
            · rw [va_up_ne _ _ e, hg]
              by_cases q : j < k
              · rw [if_pos q, if_pos (by omega)]
              · rw [if_neg q, if_neg (by omega)])
    refine PV_D (va_id D28 7).symm ?_
    exact loop_33 185 0 (D28 7) (by omega) (by omega) (fun j => by rw [if_neg (by omega), e7])
  · refine pv_iconst (q := 9) (v := 1) C dX7_undo_8 rfl (by decide) ?_
    refine pv_goto (tgt := 13) C dX7_undo_9 (by decide) ?_ 
    refine pv_callVi (q := 16) C hKl (c_X7_refused l X D P _ (by decide)) tw_1069 k6 (by decide) rfl mm_X7_refused ⟨rfl, rfl⟩ (by rw [hKR]; exact ⟨Nat.le_of_ble_eq_true rfl, Nat.le_of_ble_eq_true rfl⟩) (by rw [hKR]; exact ⟨Nat.le_of_ble_eq_true rfl, Nat.le_of_ble_eq_true rfl⟩) rfl rfl rfl (Nat.le_of_ble_eq_true rfl) dX7_undo_13 rfl (fun r13 D13 P13 hp13 => ?_) 
    obtain ⟨rfl, hR13, rfl⟩ := hp13
    refine pv_if_eq (q := 19) (tgt := 21) C dX7_undo_16 (by decide) rfl (fun h => absurd h (by decide)) (fun _ => ?_) 
    refine pv_iconst (q := 20) (v := 0) C dX7_undo_19 rfl (by decide) ?_ 
    exact pv_iret C (⟨mr_no 1 (by rw [if_pos c_5]) (by decide) hR13, rfl⟩) (by decide) (by decide) dX7_undo_20
set_option maxRecDepth 100000 in
set_option maxHeartbeats 4000000 in
theorem c_X7_keep (l : Launch) (X : XT) (D : DT) (P : PT)  : CG l X yX7_keep (.code yX7_keep cX7_keep 2 (some .int) :: AW) ({ frames := 2, cells := 0, slots := 0, locals := 72 } : Room) [.ref (X.2.2 6)] (qI X (fun r D' P' => mr 0 (nI (tk (D 7))) D (m_keep (clr D)) r D' ∧ P = P')) D P 0 0 := by
  refine cg_of (by decide +kernel) (Nat.le_of_ble_eq_true rfl) ?_
  intro K hKl hKR C
  refine PV_lv (lv' := [some (.ref (X.2.2 6)), none]) rfl ?_
  refine pv_aload_n (q := 1) C dX7_keep_0 rfl rfl rfl ?_ 
  refine pv_iconst (q := 2) (v := 0) C dX7_keep_1 rfl (by decide) ?_ 
  refine pp_7_0 (q := 5) C k6 tw_995 dX7_keep_2 rfl (fun D2 hD2 => ?_) 
  refine pv_iconst (q := 6) (v := 0) C dX7_keep_5 rfl (by decide) ?_ 
  refine pv_istore_n (q := 7) C dX7_keep_6 rfl rfl (Nat.le_of_ble_eq_true rfl) rfl ?_ 
  have ea : D2 9 = D 9 := by rw [hD2]; rfl
  have eb : D2 7 = D 7 := by rw [hD2]; rfl
  have loop_7 : ∀ (nn : Nat) (k : Nat) (g : Nat → Int32), (185 ≤ k + nn) → k ≤ 184 → (∀ j, g j = if j < k then D 7 j else D 9 j) → PV K X (MK K X (qI X (fun r D' P' => mr 0 (nI (tk (D 7))) D (m_keep (clr D)) r D' ∧ P = P')) 0 0) (0) (0) 7 [some (.ref (X.2.2 6)), some (.int (nI k))] [] (va_up D2 9 g) P := by
    intro nn
    induction nn with
    | zero =>
      intro k g hfuel hk hg
      exact absurd hfuel (by omega)
    | succ nn ih =>
      intro k g hfuel hk hg
      refine pv_iload_n (q := 8) C dX7_keep_7 rfl rfl rfl ?_ 
      refine pv_sipush (q := 11) (v := 184) C dX7_keep_8 rfl (by decide) ?_ 
      refine pv_icmp_geN (q := 14) (tgt := 32) (a := k) (b := 184) C rfl rfl (by omega) (by omega) dX7_keep_11 (by decide) rfl (fun c_11 => ?_) (fun c_11 => ?_) 
      · refine pv_aload_n (q := 33) C dX7_keep_32 rfl rfl rfl ?_
        refine pv_iconst (q := 34) (v := 1) C dX7_keep_33 rfl (by decide) ?_ 
        refine pp_7_5 (q := 37) C k6 tw_1000 (Or.inr rfl) dX7_keep_34 rfl (fun D34 hD34 => ?_) 
        refine pv_aload_n (q := 38) C dX7_keep_37 rfl rfl rfl ?_ 
        refine pv_callVi (q := 41) C hKl (c_X7_taken l X D34 P ) tw_1108 k6 (by decide) rfl mm_X7_taken ⟨rfl, rfl⟩ (by rw [hKR]; exact ⟨Nat.le_of_ble_eq_true rfl, Nat.le_of_ble_eq_true rfl⟩) (by rw [hKR]; exact ⟨Nat.le_of_ble_eq_true rfl, Nat.le_of_ble_eq_true rfl⟩) rfl rfl rfl (Nat.le_of_ble_eq_true rfl) dX7_keep_38 rfl (fun r38 D38 P38 hp38 => ?_) 
        obtain ⟨rfl, rfl, rfl⟩ := hp38
        exact pv_iret C (by
            have ek : k = 184 := by omega
            subst ek
            have eg : g = fun k => if k < 184 then D 7 k else D 9 k := funext hg
            refine ⟨mr_ok rfl (by rw [hD34, hD2]; rfl) ?_, rfl⟩
            rw [hD34, eg, hD2]
            rfl) (by decide) (by decide) dX7_keep_41
      · refine pv_aload_n (q := 15) C dX7_keep_14 rfl rfl rfl ?_
        refine pg_7_4 (q := 18) C k6 tw_999 dX7_keep_15 rfl (fun k15 => ?_) 
        refine pv_iload_n (q := 19) C dX7_keep_18 rfl rfl rfl ?_ 
        refine pv_aload_n (q := 20) C dX7_keep_19 rfl rfl rfl ?_ 
        refine pg_7_1 (q := 23) C k6 tw_996 dX7_keep_20 rfl (fun k20 => ?_) 
        refine pv_iload_n (q := 24) C dX7_keep_23 rfl rfl rfl ?_ 
        refine pv_iald (q := 25) (j := k) C (iln_15 k20) rfl (by omega) dX7_keep_24 rfl ?_ 
        refine pv_iast (q := 26) (j := k) C (iln_15 k15) rfl (by omega) dX7_keep_25 rfl (fun D25 hD25 => ?_) 
        refine pv_iinc (q := 29) (v := nI (k + 1)) C dX7_keep_26 rfl rfl (nI_add _ _) rfl ?_ 
        refine pv_goto (tgt := 7) C dX7_keep_29 (by decide) ?_ 
        rw [up2_va] at hD25
        subst hD25
        exact ih (k + 1) _ (by omega) (by omega) (fun j => by
          by_cases e : j = k
          · subst e
            rw [va_up_self, va_up_ne _ _ (by decide), eb, if_pos (by omega)]
          · rw [va_up_ne _ _ e, hg]
            by_cases q : j < k
            · rw [if_pos q, if_pos (by omega)]
            · rw [if_neg q, if_neg (by omega)])
  refine PV_D (va_id D2 9).symm ?_
  exact loop_7 185 0 (D2 9) (by omega) (by omega) (fun j => by rw [if_neg (by omega), ea])
set_option maxRecDepth 100000 in
set_option maxHeartbeats 4000000 in
theorem c_X7_restore (l : Launch) (X : XT) (D : DT) (P : PT) (hs : sok D)  : CG l X yX7_restore (.code yX7_restore cX7_restore 2 (some .int) :: AW) ({ frames := 2, cells := 0, slots := 0, locals := 72 } : Room) [.ref (X.2.2 6)] (qI X (fun r D' P' => mr (if D 6 5 = 0 then 1 else 0) (nI (tk (D 9))) D (m_rest (m_save (clr D))) r D' ∧ P = P')) D P 0 0 := by
  refine cg_of (by decide +kernel) (Nat.le_of_ble_eq_true rfl) ?_
  intro K hKl hKR C
  refine PV_lv (lv' := [some (.ref (X.2.2 6)), none]) rfl ?_
  refine pv_aload_n (q := 1) C dX7_restore_0 rfl rfl rfl ?_ 
  refine pv_aload_n (q := 2) C dX7_restore_1 rfl rfl rfl ?_ 
  refine pg_7_5 (q := 5) C k6 tw_1000 dX7_restore_2 rfl ?_ 
  refine pv_if_eq (q := 8) (tgt := 12) C dX7_restore_5 (by decide) rfl (fun c_5 => ?_) (fun c_5 => ?_) 
  · refine pv_iconst (q := 13) (v := 1) C dX7_restore_12 rfl (by decide) ?_
    refine pv_callVi (q := 16) C hKl (c_X7_refused l X D P _ (by decide)) tw_1069 k6 (by decide) rfl mm_X7_refused ⟨rfl, rfl⟩ (by rw [hKR]; exact ⟨Nat.le_of_ble_eq_true rfl, Nat.le_of_ble_eq_true rfl⟩) (by rw [hKR]; exact ⟨Nat.le_of_ble_eq_true rfl, Nat.le_of_ble_eq_true rfl⟩) rfl rfl rfl (Nat.le_of_ble_eq_true rfl) dX7_restore_13 rfl (fun r13 D13 P13 hp13 => ?_) 
    obtain ⟨rfl, hR13, rfl⟩ := hp13
    refine pv_if_eq (q := 19) (tgt := 21) C dX7_restore_16 (by decide) rfl (fun h => absurd h (by decide)) (fun _ => ?_) 
    refine pv_iconst (q := 20) (v := 0) C dX7_restore_19 rfl (by decide) ?_ 
    exact pv_iret C (⟨mr_no 1 (by rw [if_pos c_5]) (by decide) hR13, rfl⟩) (by decide) (by decide) dX7_restore_20
  · refine pv_iconst (q := 9) (v := 0) C dX7_restore_8 rfl (by decide) ?_
    refine pv_goto (tgt := 13) C dX7_restore_9 (by decide) ?_ 
    refine pv_callVi (q := 16) C hKl (c_X7_refused0 l X D P ) tw_1069 k6 (by decide) rfl mm_X7_refused ⟨rfl, rfl⟩ (by rw [hKR]; exact ⟨Nat.le_of_ble_eq_true rfl, Nat.le_of_ble_eq_true rfl⟩) (by rw [hKR]; exact ⟨Nat.le_of_ble_eq_true rfl, Nat.le_of_ble_eq_true rfl⟩) rfl rfl rfl (Nat.le_of_ble_eq_true rfl) dX7_restore_13 rfl (fun r13 D13 P13 hp13 => ?_) 
    obtain ⟨rfl, hR13, rfl⟩ := hp13
    refine pv_if_eq (q := 19) (tgt := 21) C dX7_restore_16 (by decide) rfl (fun _ => ?_) (fun h => absurd h (by decide)) 
    refine pv_aload_n (q := 22) C dX7_restore_21 rfl rfl rfl ?_ 
    refine pv_callVv (q := 25) C hKl (c_X7_save l X D13 P (by rw [hR13]; exact hs)) tw_1073 k6 (by decide) rfl mm_X7_save ⟨rfl, rfl⟩ (by rw [hKR]; exact ⟨Nat.le_of_ble_eq_true rfl, Nat.le_of_ble_eq_true rfl⟩) (by rw [hKR]; exact ⟨Nat.le_of_ble_eq_true rfl, Nat.le_of_ble_eq_true rfl⟩) rfl rfl rfl (Nat.le_of_ble_eq_true rfl) dX7_restore_22 rfl (fun D22 P22 hp22 => ?_) 
    obtain ⟨hR22, rfl⟩ := hp22
    refine pv_iconst (q := 26) (v := 0) C dX7_restore_25 rfl (by decide) ?_ 
    refine pv_istore_n (q := 27) C dX7_restore_26 rfl rfl (Nat.le_of_ble_eq_true rfl) rfl ?_ 
    have ea : D22 7 = D 7 := by rw [hR22, hR13]; rfl
    have eb : D22 9 = D 9 := by rw [hR22, hR13]; rfl
    have loop_27 : ∀ (nn : Nat) (k : Nat) (g : Nat → Int32), (185 ≤ k + nn) → k ≤ 184 → (∀ j, g j = if j < k then D 9 j else D 7 j) → PV K X (MK K X (qI X (fun r D' P' => mr (if D 6 5 = 0 then 1 else 0) (nI (tk (D 9))) D (m_rest (m_save (clr D))) r D' ∧ P = P')) 0 0) (0) (0) 27 [some (.ref (X.2.2 6)), some (.int (nI k))] [] (va_up D22 7 g) P := by
      intro nn
      induction nn with
      | zero =>
        intro k g hfuel hk hg
        exact absurd hfuel (by omega)
      | succ nn ih =>
        intro k g hfuel hk hg
        refine pv_iload_n (q := 28) C dX7_restore_27 rfl rfl rfl ?_ 
        refine pv_sipush (q := 31) (v := 184) C dX7_restore_28 rfl (by decide) ?_ 
        refine pv_icmp_geN (q := 34) (tgt := 52) (a := k) (b := 184) C rfl rfl (by omega) (by omega) dX7_restore_31 (by decide) rfl (fun c_31 => ?_) (fun c_31 => ?_) 
        · refine pv_aload_n (q := 53) C dX7_restore_52 rfl rfl rfl ?_
          refine pv_callVi (q := 56) C hKl (c_X7_taken l X (va_up D22 7 g) P ) tw_1108 k6 (by decide) rfl mm_X7_taken ⟨rfl, rfl⟩ (by rw [hKR]; exact ⟨Nat.le_of_ble_eq_true rfl, Nat.le_of_ble_eq_true rfl⟩) (by rw [hKR]; exact ⟨Nat.le_of_ble_eq_true rfl, Nat.le_of_ble_eq_true rfl⟩) rfl rfl rfl (Nat.le_of_ble_eq_true rfl) dX7_restore_53 rfl (fun r53 D53 P53 hp53 => ?_) 
          obtain ⟨rfl, rfl, rfl⟩ := hp53
          exact pv_iret C (by
              have ek : k = 184 := by omega
              subst ek
              have eg : g = fun k => if k < 184 then D 9 k else D 7 k := funext hg
              refine ⟨mr_ok (by rw [if_neg c_5]) (congrArg nI (tk_cong fun k hk => by rw [va_up_self, hg, if_pos (by omega)])) ?_, rfl⟩
              rw [eg, hR22, hR13]
              rfl) (by decide) (by decide) dX7_restore_56
        · refine pv_aload_n (q := 35) C dX7_restore_34 rfl rfl rfl ?_
          refine pg_7_1 (q := 38) C k6 tw_996 dX7_restore_35 rfl (fun k35 => ?_) 
          refine pv_iload_n (q := 39) C dX7_restore_38 rfl rfl rfl ?_ 
          refine pv_aload_n (q := 40) C dX7_restore_39 rfl rfl rfl ?_ 
          refine pg_7_4 (q := 43) C k6 tw_999 dX7_restore_40 rfl (fun k40 => ?_) 
          refine pv_iload_n (q := 44) C dX7_restore_43 rfl rfl rfl ?_ 
          refine pv_iald (q := 45) (j := k) C (iln_15 k40) rfl (by omega) dX7_restore_44 rfl ?_ 
          refine pv_iast (q := 46) (j := k) C (iln_15 k35) rfl (by omega) dX7_restore_45 rfl (fun D45 hD45 => ?_) 
          refine pv_iinc (q := 49) (v := nI (k + 1)) C dX7_restore_46 rfl rfl (nI_add _ _) rfl ?_ 
          refine pv_goto (tgt := 27) C dX7_restore_49 (by decide) ?_ 
          rw [up2_va] at hD45
          subst hD45
          exact ih (k + 1) _ (by omega) (by omega) (fun j => by
            by_cases e : j = k
            · subst e
              rw [va_up_self, va_up_ne _ _ (by decide), eb, if_pos (by omega)]
            · rw [va_up_ne _ _ e, hg]
              by_cases q : j < k
              · rw [if_pos q, if_pos (by omega)]
              · rw [if_neg q, if_neg (by omega)])
    refine PV_D (va_id D22 7).symm ?_
    exact loop_27 185 0 (D22 7) (by omega) (by omega) (fun j => by rw [if_neg (by omega), ea])
set_option maxRecDepth 100000 in
set_option maxHeartbeats 4000000 in
theorem c_X7_unlike (l : Launch) (X : XT) (D : DT) (P : PT) (v : Nat) (hv : v < 3) (row : Nat → Int32) (h7 : D 7 = row)  : CG l X yX7_unlike (.code yX7_unlike cX7_unlike 7 (some .int) :: AW) ({ frames := 2, cells := 0, slots := 0, locals := 72 } : Room) [.ref (X.2.2 6), .int (nI v)] (qI X (fun r D' P' => r = umN row v 4 ∧ Sz D D' ∧ P = P')) D P 0 0 := by
  refine cg_of (by decide +kernel) (Nat.le_of_ble_eq_true rfl) ?_
  intro K hKl hKR C
  refine PV_lv (lv' := [some (.ref (X.2.2 6)), some (.int (nI v)), none, none, none, none, none]) rfl ?_
  refine pv_iconst (q := 1) (v := 0) C dX7_unlike_0 rfl (by decide) ?_ 
  refine pv_istore_n (q := 2) C dX7_unlike_1 rfl rfl (Nat.le_of_ble_eq_true rfl) rfl ?_ 
  refine pv_iconst (q := 3) (v := 0) C dX7_unlike_2 rfl (by decide) ?_ 
  refine pv_istore_n (q := 4) C dX7_unlike_3 rfl rfl (Nat.le_of_ble_eq_true rfl) rfl ?_ 
  have loop_4 : ∀ (nn : Nat) (g : Nat) (m : Int32) (D1 : DT), (5 ≤ g + nn) → g ≤ 4 → m = umN (D 7) v g → Sz D D1 → PV K X (MK K X (qI X (fun r D' P' => r = umN row v 4 ∧ Sz D D' ∧ P = P')) 0 0) (0) (0) 4 [some (.ref (X.2.2 6)), some (.int (nI v)), some (.int m), some (.int (nI g)), none, none, none] [] D1 P := by
    intro nn
    induction nn with
    | zero =>
      intro g m D1 hfuel hg hm hS
      exact absurd hfuel (by omega)
    | succ nn ih =>
      intro g m D1 hfuel hg hm hS
      refine pv_iload_n (q := 5) C dX7_unlike_4 rfl rfl rfl ?_ 
      refine pv_iconst (q := 6) (v := 4) C dX7_unlike_5 rfl (by decide) ?_ 
      refine pv_icmp_geN (q := 9) (tgt := 180) (a := g) (b := 4) C rfl rfl (by omega) (by omega) dX7_unlike_6 (by decide) rfl (fun c_6 => ?_) (fun c_6 => ?_) 
      · refine pv_iload_n (q := 181) C dX7_unlike_180 rfl rfl rfl ?_
        exact pv_iret C (⟨by rw [hm, show g = 4 by omega, h7], hS, rfl⟩) (by decide) (by decide) dX7_unlike_181
      · refine pv_aload_n (q := 10) C dX7_unlike_9 rfl rfl rfl ?_
        refine pv_iload_n (q := 11) C dX7_unlike_10 rfl rfl rfl ?_ 
        refine pv_iload_n (q := 12) C dX7_unlike_11 rfl rfl rfl ?_ 
        refine pv_callVi (q := 15) C hKl (c_X7_layView l X D1 P _ _ (by omega) (by omega) (D 7) (hS.r7)) tw_1360 k6 (by decide) rfl mm_X7_layView ⟨rfl, rfl⟩ (by rw [hKR]; exact ⟨Nat.le_of_ble_eq_true rfl, Nat.le_of_ble_eq_true rfl⟩) (by rw [hKR]; exact ⟨Nat.le_of_ble_eq_true rfl, Nat.le_of_ble_eq_true rfl⟩) rfl rfl rfl (Nat.le_of_ble_eq_true rfl) dX7_unlike_12 rfl (fun r12 D12 P12 hp12 => ?_) 
        obtain ⟨rfl, ⟨f1, hR12, hf12⟩, rfl⟩ := hp12
        have hle := VN_le (D 7) v g
        refine pv_istore (q := 17) C dX7_unlike_15 rfl (Nat.le_of_ble_eq_true rfl) rfl ?_ 
        refine pv_aload_n (q := 18) C dX7_unlike_17 rfl rfl rfl ?_ 
        refine pv_iload_n (q := 19) C dX7_unlike_18 rfl rfl rfl ?_ 
        refine pv_iload_n (q := 20) C dX7_unlike_19 rfl rfl rfl ?_ 
        refine pv_callVi (q := 23) C hKl (c_X7_layTable l X D12 P _ _ (by omega) (by omega) (D 7) (by rw [hR12]; exact (hS.ar (Or.inl rfl)).r7)) tw_1409 k6 (by decide) rfl mm_X7_layTable ⟨rfl, rfl⟩ (by rw [hKR]; exact ⟨Nat.le_of_ble_eq_true rfl, Nat.le_of_ble_eq_true rfl⟩) (by rw [hKR]; exact ⟨Nat.le_of_ble_eq_true rfl, Nat.le_of_ble_eq_true rfl⟩) rfl rfl rfl (Nat.le_of_ble_eq_true rfl) dX7_unlike_20 rfl (fun r20 D20 P20 hp20 => ?_) 
        obtain ⟨rfl, ⟨f2, hR20, hf20⟩, rfl⟩ := hp20
        have hle2 := TN_le (D 7) v g
        have hS2 : Sz D D20 := by rw [hR20, hR12]; exact (hS.ar (Or.inl rfl)).ar (Or.inr rfl)
        have e11 : D20 11 = f2 := by rw [hR20, va_up_self]
        have e10 : D20 10 = f1 := by rw [hR20, va_up_ne _ _ (by decide), hR12, va_up_self]
        rw [← e10] at hf12
        rw [← e11] at hf20
        have q2 : like (VF (D 7) v g) (VN (D 7) v g) (TF (D 7) v g) (TN (D 7) v g) → like (D20 10) (VN (D 7) v g) (D20 11) (TN (D 7) v g) := like_cg (fun j hj => (hf12 j hj).symm) (fun j hj => (hf20 j hj).symm)
        refine pv_istore (q := 25) C dX7_unlike_23 rfl (Nat.le_of_ble_eq_true rfl) rfl ?_ 
        refine pv_iload (q := 27) C dX7_unlike_25 rfl rfl ?_ 
        refine pv_iload (q := 29) C dX7_unlike_27 rfl rfl ?_ 
        refine pv_icmp_neN (q := 32) (tgt := 78) (a := (VN (D 7) v g)) (b := (TN (D 7) v g)) C rfl rfl (by omega) (by omega) dX7_unlike_29 (by decide) rfl (fun c_29 => ?_) (fun c_29 => ?_) 
        · refine pv_iconst (q := 79) (v := 0) C dX7_unlike_78 rfl (by decide) ?_
          refine pv_istore (q := 81) C dX7_unlike_79 rfl (Nat.le_of_ble_eq_true rfl) rfl ?_ 
          refine pv_iload (q := 83) C dX7_unlike_81 rfl rfl ?_ 
          refine pv_if_eq (q := 86) (tgt := 156) C dX7_unlike_83 (by decide) rfl (fun _ => ?_) (fun h => absurd h (by decide)) 
          refine pv_iconst (q := 157) (v := 0) C dX7_unlike_156 rfl (by decide) ?_ 
          refine pv_istore (q := 159) C dX7_unlike_157 rfl (Nat.le_of_ble_eq_true rfl) rfl ?_ 
          refine pv_iload_n (q := 160) C dX7_unlike_159 rfl rfl rfl ?_ 
          refine pv_iload (q := 162) C dX7_unlike_160 rfl rfl ?_ 
          refine pv_if_eq (q := 165) (tgt := 169) C dX7_unlike_162 (by decide) rfl (fun _ => ?_) (fun h => absurd h (by decide)) 
          refine pv_iconst (q := 170) (v := 1) C dX7_unlike_169 rfl (by decide) ?_ 
          refine pv_iload_n (q := 171) C dX7_unlike_170 rfl rfl rfl ?_ 
          refine pv_ishl (q := 172) C dX7_unlike_171 rfl ?_ 
          refine pv_ior (q := 173) C dX7_unlike_172 rfl ?_ 
          refine pv_istore_n (q := 174) C dX7_unlike_173 rfl rfl (Nat.le_of_ble_eq_true rfl) rfl ?_ 
          refine pv_iinc (q := 177) (v := nI (g + 1)) C dX7_unlike_174 rfl rfl (nI_add _ _) rfl ?_ 
          refine pv_goto (tgt := 4) C dX7_unlike_177 (by decide) ?_ 
          exact PV_le (ih (g + 1) _ D20 (by omega) (by omega) (by show _ = umN (D 7) v g ||| _; rw [hm, lkI_n (fun q => c_29 q.1)]) hS2) ⟨Or.inr rfl, Or.inr rfl, Or.inr rfl, Or.inr rfl, Or.inl rfl, Or.inl rfl, Or.inl rfl, trivial⟩
        · refine pv_aload_n (q := 33) C dX7_unlike_32 rfl rfl rfl ?_
          refine pg_7_6 (q := 36) C k6 tw_1001 dX7_unlike_33 rfl (fun k33 => ?_) 
          refine pv_iload (q := 38) C dX7_unlike_36 rfl rfl ?_ 
          refine pv_callSi (q := 41) C hKl (c_X7_total l X D20 P _ _ k33 (by first | omega | exact vN_le _ _ _ _)) tw_1372 mm_X7_total ⟨rfl, rfl⟩ (by rw [hKR]; exact ⟨Nat.le_of_ble_eq_true rfl, Nat.le_of_ble_eq_true rfl⟩) (by rw [hKR]; exact ⟨Nat.le_of_ble_eq_true rfl, Nat.le_of_ble_eq_true rfl⟩) rfl rfl rfl (Nat.le_of_ble_eq_true rfl) dX7_unlike_38 rfl (fun r38 D38 P38 hp38 => ?_) 
          obtain ⟨rfl, rfl, rfl⟩ := hp38
          refine pv_aload_n (q := 42) C dX7_unlike_41 rfl rfl rfl ?_ 
          refine pg_7_7 (q := 45) C k6 tw_1002 dX7_unlike_42 rfl (fun k42 => ?_) 
          refine pv_iload (q := 47) C dX7_unlike_45 rfl rfl ?_ 
          refine pv_callSi (q := 50) C hKl (c_X7_total l X D20 P _ _ k42 (by first | omega | exact vN_le _ _ _ _)) tw_1372 mm_X7_total ⟨rfl, rfl⟩ (by rw [hKR]; exact ⟨Nat.le_of_ble_eq_true rfl, Nat.le_of_ble_eq_true rfl⟩) (by rw [hKR]; exact ⟨Nat.le_of_ble_eq_true rfl, Nat.le_of_ble_eq_true rfl⟩) rfl rfl rfl (Nat.le_of_ble_eq_true rfl) dX7_unlike_47 rfl (fun r47 D47 P47 hp47 => ?_) 
          obtain ⟨rfl, rfl, rfl⟩ := hp47
          refine pv_icmp_ne (q := 53) (tgt := 78) C dX7_unlike_50 (by decide) rfl (fun c_50 => ?_) (fun c_50 => ?_) 
          · refine pv_iconst (q := 79) (v := 0) C dX7_unlike_78 rfl (by decide) ?_
            refine pv_istore (q := 81) C dX7_unlike_79 rfl (Nat.le_of_ble_eq_true rfl) rfl ?_ 
            refine pv_iload (q := 83) C dX7_unlike_81 rfl rfl ?_ 
            refine pv_if_eq (q := 86) (tgt := 156) C dX7_unlike_83 (by decide) rfl (fun _ => ?_) (fun h => absurd h (by decide)) 
            refine pv_iconst (q := 157) (v := 0) C dX7_unlike_156 rfl (by decide) ?_ 
            refine pv_istore (q := 159) C dX7_unlike_157 rfl (Nat.le_of_ble_eq_true rfl) rfl ?_ 
            refine pv_iload_n (q := 160) C dX7_unlike_159 rfl rfl rfl ?_ 
            refine pv_iload (q := 162) C dX7_unlike_160 rfl rfl ?_ 
            refine pv_if_eq (q := 165) (tgt := 169) C dX7_unlike_162 (by decide) rfl (fun _ => ?_) (fun h => absurd h (by decide)) 
            refine pv_iconst (q := 170) (v := 1) C dX7_unlike_169 rfl (by decide) ?_ 
            refine pv_iload_n (q := 171) C dX7_unlike_170 rfl rfl rfl ?_ 
            refine pv_ishl (q := 172) C dX7_unlike_171 rfl ?_ 
            refine pv_ior (q := 173) C dX7_unlike_172 rfl ?_ 
            refine pv_istore_n (q := 174) C dX7_unlike_173 rfl rfl (Nat.le_of_ble_eq_true rfl) rfl ?_ 
            refine pv_iinc (q := 177) (v := nI (g + 1)) C dX7_unlike_174 rfl rfl (nI_add _ _) rfl ?_ 
            refine pv_goto (tgt := 4) C dX7_unlike_177 (by decide) ?_ 
            exact PV_le (ih (g + 1) _ D20 (by omega) (by omega) (by show _ = umN (D 7) v g ||| _; rw [hm, lkI_n (fun q => c_50 (q2 q).2.1)]) hS2) ⟨Or.inr rfl, Or.inr rfl, Or.inr rfl, Or.inr rfl, Or.inl rfl, Or.inl rfl, Or.inl rfl, trivial⟩
          · refine pv_aload_n (q := 54) C dX7_unlike_53 rfl rfl rfl ?_
            refine pg_7_6 (q := 57) C k6 tw_1001 dX7_unlike_54 rfl (fun k54 => ?_) 
            refine pv_iload (q := 59) C dX7_unlike_57 rfl rfl ?_ 
            refine pv_callSi (q := 62) C hKl (c_X7_kinds l X D20 P _ _ k54 (by first | omega | exact vN_le _ _ _ _)) tw_1402 mm_X7_kinds ⟨rfl, rfl⟩ (by rw [hKR]; exact ⟨Nat.le_of_ble_eq_true rfl, Nat.le_of_ble_eq_true rfl⟩) (by rw [hKR]; exact ⟨Nat.le_of_ble_eq_true rfl, Nat.le_of_ble_eq_true rfl⟩) rfl rfl rfl (Nat.le_of_ble_eq_true rfl) dX7_unlike_59 rfl (fun r59 D59 P59 hp59 => ?_) 
            obtain ⟨rfl, rfl, rfl⟩ := hp59
            refine pv_aload_n (q := 63) C dX7_unlike_62 rfl rfl rfl ?_ 
            refine pg_7_7 (q := 66) C k6 tw_1002 dX7_unlike_63 rfl (fun k63 => ?_) 
            refine pv_iload (q := 68) C dX7_unlike_66 rfl rfl ?_ 
            refine pv_callSi (q := 71) C hKl (c_X7_kinds l X D20 P _ _ k63 (by first | omega | exact vN_le _ _ _ _)) tw_1402 mm_X7_kinds ⟨rfl, rfl⟩ (by rw [hKR]; exact ⟨Nat.le_of_ble_eq_true rfl, Nat.le_of_ble_eq_true rfl⟩) (by rw [hKR]; exact ⟨Nat.le_of_ble_eq_true rfl, Nat.le_of_ble_eq_true rfl⟩) rfl rfl rfl (Nat.le_of_ble_eq_true rfl) dX7_unlike_68 rfl (fun r68 D68 P68 hp68 => ?_) 
            obtain ⟨rfl, rfl, rfl⟩ := hp68
            refine pv_icmp_ne (q := 74) (tgt := 78) C dX7_unlike_71 (by decide) rfl (fun c_71 => ?_) (fun c_71 => ?_) 
            · refine pv_iconst (q := 79) (v := 0) C dX7_unlike_78 rfl (by decide) ?_
              refine pv_istore (q := 81) C dX7_unlike_79 rfl (Nat.le_of_ble_eq_true rfl) rfl ?_ 
              refine pv_iload (q := 83) C dX7_unlike_81 rfl rfl ?_ 
              refine pv_if_eq (q := 86) (tgt := 156) C dX7_unlike_83 (by decide) rfl (fun _ => ?_) (fun h => absurd h (by decide)) 
              refine pv_iconst (q := 157) (v := 0) C dX7_unlike_156 rfl (by decide) ?_ 
              refine pv_istore (q := 159) C dX7_unlike_157 rfl (Nat.le_of_ble_eq_true rfl) rfl ?_ 
              refine pv_iload_n (q := 160) C dX7_unlike_159 rfl rfl rfl ?_ 
              refine pv_iload (q := 162) C dX7_unlike_160 rfl rfl ?_ 
              refine pv_if_eq (q := 165) (tgt := 169) C dX7_unlike_162 (by decide) rfl (fun _ => ?_) (fun h => absurd h (by decide)) 
              refine pv_iconst (q := 170) (v := 1) C dX7_unlike_169 rfl (by decide) ?_ 
              refine pv_iload_n (q := 171) C dX7_unlike_170 rfl rfl rfl ?_ 
              refine pv_ishl (q := 172) C dX7_unlike_171 rfl ?_ 
              refine pv_ior (q := 173) C dX7_unlike_172 rfl ?_ 
              refine pv_istore_n (q := 174) C dX7_unlike_173 rfl rfl (Nat.le_of_ble_eq_true rfl) rfl ?_ 
              refine pv_iinc (q := 177) (v := nI (g + 1)) C dX7_unlike_174 rfl rfl (nI_add _ _) rfl ?_ 
              refine pv_goto (tgt := 4) C dX7_unlike_177 (by decide) ?_ 
              exact PV_le (ih (g + 1) _ D20 (by omega) (by omega) (by show _ = umN (D 7) v g ||| _; rw [hm, lkI_n (fun q => c_71 (congrArg nI (q2 q).2.2.1))]) hS2) ⟨Or.inr rfl, Or.inr rfl, Or.inr rfl, Or.inr rfl, Or.inl rfl, Or.inl rfl, Or.inl rfl, trivial⟩
            · refine pv_iconst (q := 75) (v := 1) C dX7_unlike_74 rfl (by decide) ?_
              refine pv_goto (tgt := 79) C dX7_unlike_75 (by decide) ?_ 
              refine pv_istore (q := 81) C dX7_unlike_79 rfl (Nat.le_of_ble_eq_true rfl) rfl ?_ 
              refine pv_iload (q := 83) C dX7_unlike_81 rfl rfl ?_ 
              refine pv_if_eq (q := 86) (tgt := 156) C dX7_unlike_83 (by decide) rfl (fun h => absurd h (by decide)) (fun _ => ?_) 
              refine pv_iload (q := 88) C dX7_unlike_86 rfl rfl ?_ 
              refine pv_if_eqN (q := 91) (tgt := 152) (a := (VN (D 7) v g)) (b := 0) C rfl rfl (by omega) (by omega) dX7_unlike_88 (by decide) rfl (fun c_88 => ?_) (fun c_88 => ?_) 
              · refine pv_iconst (q := 153) (v := 1) C dX7_unlike_152 rfl (by decide) ?_
                refine pv_goto (tgt := 157) C dX7_unlike_153 (by decide) ?_ 
                refine pv_istore (q := 159) C dX7_unlike_157 rfl (Nat.le_of_ble_eq_true rfl) rfl ?_ 
                refine pv_iload_n (q := 160) C dX7_unlike_159 rfl rfl rfl ?_ 
                refine pv_iload (q := 162) C dX7_unlike_160 rfl rfl ?_ 
                refine pv_if_eq (q := 165) (tgt := 169) C dX7_unlike_162 (by decide) rfl (fun h => absurd h (by decide)) (fun _ => ?_) 
                refine pv_iconst (q := 166) (v := 0) C dX7_unlike_165 rfl (by decide) ?_ 
                refine pv_goto (tgt := 172) C dX7_unlike_166 (by decide) ?_ 
                refine pv_ior (q := 173) C dX7_unlike_172 rfl ?_ 
                refine pv_istore_n (q := 174) C dX7_unlike_173 rfl rfl (Nat.le_of_ble_eq_true rfl) rfl ?_ 
                refine pv_iinc (q := 177) (v := nI (g + 1)) C dX7_unlike_174 rfl rfl (nI_add _ _) rfl ?_ 
                refine pv_goto (tgt := 4) C dX7_unlike_177 (by decide) ?_ 
                exact PV_le (ih (g + 1) _ D20 (by omega) (by omega) (by show _ = umN (D 7) v g ||| _; rw [hm, lkI_y (like_cg hf12 hf20 (⟨c_29, c_50, (nI_eq (by have := kn_le (D20 10) (VN (D 7) v g); omega) (by have := kn_le (D20 11) (TN (D 7) v g); omega)).mp c_71, Or.inl c_88⟩))]) hS2) ⟨Or.inr rfl, Or.inr rfl, Or.inr rfl, Or.inr rfl, Or.inl rfl, Or.inl rfl, Or.inl rfl, trivial⟩
              · refine pv_aload_n (q := 92) C dX7_unlike_91 rfl rfl rfl ?_
                refine pg_7_6 (q := 95) C k6 tw_1001 dX7_unlike_92 rfl (fun k92 => ?_) 
                refine pv_iconst (q := 96) (v := 0) C dX7_unlike_95 rfl (by decide) ?_ 
                refine pv_iald (q := 97) (j := 0) C (iln_9 k92) rfl (by decide) dX7_unlike_96 rfl ?_ 
                refine pv_aload_n (q := 98) C dX7_unlike_97 rfl rfl rfl ?_ 
                refine pg_7_7 (q := 101) C k6 tw_1002 dX7_unlike_98 rfl (fun k98 => ?_) 
                refine pv_iconst (q := 102) (v := 0) C dX7_unlike_101 rfl (by decide) ?_ 
                refine pv_iald (q := 103) (j := 0) C (iln_9 k98) rfl (by decide) dX7_unlike_102 rfl ?_ 
                refine pv_icmp_ne (q := 106) (tgt := 156) C dX7_unlike_103 (by decide) rfl (fun c_103 => ?_) (fun c_103 => ?_) 
                · refine pv_iconst (q := 157) (v := 0) C dX7_unlike_156 rfl (by decide) ?_
                  refine pv_istore (q := 159) C dX7_unlike_157 rfl (Nat.le_of_ble_eq_true rfl) rfl ?_ 
                  refine pv_iload_n (q := 160) C dX7_unlike_159 rfl rfl rfl ?_ 
                  refine pv_iload (q := 162) C dX7_unlike_160 rfl rfl ?_ 
                  refine pv_if_eq (q := 165) (tgt := 169) C dX7_unlike_162 (by decide) rfl (fun _ => ?_) (fun h => absurd h (by decide)) 
                  refine pv_iconst (q := 170) (v := 1) C dX7_unlike_169 rfl (by decide) ?_ 
                  refine pv_iload_n (q := 171) C dX7_unlike_170 rfl rfl rfl ?_ 
                  refine pv_ishl (q := 172) C dX7_unlike_171 rfl ?_ 
                  refine pv_ior (q := 173) C dX7_unlike_172 rfl ?_ 
                  refine pv_istore_n (q := 174) C dX7_unlike_173 rfl rfl (Nat.le_of_ble_eq_true rfl) rfl ?_ 
                  refine pv_iinc (q := 177) (v := nI (g + 1)) C dX7_unlike_174 rfl rfl (nI_add _ _) rfl ?_ 
                  refine pv_goto (tgt := 4) C dX7_unlike_177 (by decide) ?_ 
                  exact PV_le (ih (g + 1) _ D20 (by omega) (by omega) (by show _ = umN (D 7) v g ||| _; rw [hm, lkI_n (fun q => c_103 ((q2 q).2.2.2.resolve_left c_88).1)]) hS2) ⟨Or.inr rfl, Or.inr rfl, Or.inr rfl, Or.inr rfl, Or.inl rfl, Or.inl rfl, Or.inl rfl, trivial⟩
                · refine pv_aload_n (q := 107) C dX7_unlike_106 rfl rfl rfl ?_
                  refine pg_7_6 (q := 110) C k6 tw_1001 dX7_unlike_107 rfl (fun k107 => ?_) 
                  refine pv_iload (q := 112) C dX7_unlike_110 rfl rfl ?_ 
                  refine pv_iconst (q := 113) (v := 1) C dX7_unlike_112 rfl (by decide) ?_ 
                  refine pv_isubN (q := 114) (a := (VN (D 7) v g)) (b := 1) C rfl rfl (by omega) dX7_unlike_113 rfl ?_ 
                  refine pv_iald (q := 115) (j := ((VN (D 7) v g) - 1)) C (iln_9 k107) rfl (by omega) dX7_unlike_114 rfl ?_ 
                  refine pv_aload_n (q := 116) C dX7_unlike_115 rfl rfl rfl ?_ 
                  refine pg_7_7 (q := 119) C k6 tw_1002 dX7_unlike_116 rfl (fun k116 => ?_) 
                  refine pv_iload (q := 121) C dX7_unlike_119 rfl rfl ?_ 
                  refine pv_iconst (q := 122) (v := 1) C dX7_unlike_121 rfl (by decide) ?_ 
                  refine pv_isubN (q := 123) (a := (VN (D 7) v g)) (b := 1) C rfl rfl (by omega) dX7_unlike_122 rfl ?_ 
                  refine pv_iald (q := 124) (j := ((VN (D 7) v g) - 1)) C (iln_9 k116) rfl (by omega) dX7_unlike_123 rfl ?_ 
                  refine pv_icmp_ne (q := 127) (tgt := 156) C dX7_unlike_124 (by decide) rfl (fun c_124 => ?_) (fun c_124 => ?_) 
                  · refine pv_iconst (q := 157) (v := 0) C dX7_unlike_156 rfl (by decide) ?_
                    refine pv_istore (q := 159) C dX7_unlike_157 rfl (Nat.le_of_ble_eq_true rfl) rfl ?_ 
                    refine pv_iload_n (q := 160) C dX7_unlike_159 rfl rfl rfl ?_ 
                    refine pv_iload (q := 162) C dX7_unlike_160 rfl rfl ?_ 
                    refine pv_if_eq (q := 165) (tgt := 169) C dX7_unlike_162 (by decide) rfl (fun _ => ?_) (fun h => absurd h (by decide)) 
                    refine pv_iconst (q := 170) (v := 1) C dX7_unlike_169 rfl (by decide) ?_ 
                    refine pv_iload_n (q := 171) C dX7_unlike_170 rfl rfl rfl ?_ 
                    refine pv_ishl (q := 172) C dX7_unlike_171 rfl ?_ 
                    refine pv_ior (q := 173) C dX7_unlike_172 rfl ?_ 
                    refine pv_istore_n (q := 174) C dX7_unlike_173 rfl rfl (Nat.le_of_ble_eq_true rfl) rfl ?_ 
                    refine pv_iinc (q := 177) (v := nI (g + 1)) C dX7_unlike_174 rfl rfl (nI_add _ _) rfl ?_ 
                    refine pv_goto (tgt := 4) C dX7_unlike_177 (by decide) ?_ 
                    exact PV_le (ih (g + 1) _ D20 (by omega) (by omega) (by show _ = umN (D 7) v g ||| _; rw [hm, lkI_n (fun q => c_124 ((q2 q).2.2.2.resolve_left c_88).2.1)]) hS2) ⟨Or.inr rfl, Or.inr rfl, Or.inr rfl, Or.inr rfl, Or.inl rfl, Or.inl rfl, Or.inl rfl, trivial⟩
                  · refine pv_aload_n (q := 128) C dX7_unlike_127 rfl rfl rfl ?_
                    refine pg_7_6 (q := 131) C k6 tw_1001 dX7_unlike_128 rfl (fun k128 => ?_) 
                    refine pv_iload (q := 133) C dX7_unlike_131 rfl rfl ?_ 
                    refine pv_iconst (q := 134) (v := 1) C dX7_unlike_133 rfl (by decide) ?_ 
                    refine pv_isubN (q := 135) (a := (VN (D 7) v g)) (b := 1) C rfl rfl (by omega) dX7_unlike_134 rfl ?_ 
                    refine pv_iconst (q := 136) (v := 2) C dX7_unlike_135 rfl (by decide) ?_ 
                    refine pv_idivN (q := 137) (a := ((VN (D 7) v g) - 1)) (b := 2) C rfl rfl (by omega) (by decide) (by decide) dX7_unlike_136 rfl ?_ 
                    refine pv_iald (q := 138) (j := (((VN (D 7) v g) - 1) / 2)) C (iln_9 k128) rfl (by omega) dX7_unlike_137 rfl ?_ 
                    refine pv_aload_n (q := 139) C dX7_unlike_138 rfl rfl rfl ?_ 
                    refine pg_7_7 (q := 142) C k6 tw_1002 dX7_unlike_139 rfl (fun k139 => ?_) 
                    refine pv_iload (q := 144) C dX7_unlike_142 rfl rfl ?_ 
                    refine pv_iconst (q := 145) (v := 1) C dX7_unlike_144 rfl (by decide) ?_ 
                    refine pv_isubN (q := 146) (a := (VN (D 7) v g)) (b := 1) C rfl rfl (by omega) dX7_unlike_145 rfl ?_ 
                    refine pv_iconst (q := 147) (v := 2) C dX7_unlike_146 rfl (by decide) ?_ 
                    refine pv_idivN (q := 148) (a := ((VN (D 7) v g) - 1)) (b := 2) C rfl rfl (by omega) (by decide) (by decide) dX7_unlike_147 rfl ?_ 
                    refine pv_iald (q := 149) (j := (((VN (D 7) v g) - 1) / 2)) C (iln_9 k139) rfl (by omega) dX7_unlike_148 rfl ?_ 
                    refine pv_icmp_ne (q := 152) (tgt := 156) C dX7_unlike_149 (by decide) rfl (fun c_149 => ?_) (fun c_149 => ?_) 
                    · refine pv_iconst (q := 157) (v := 0) C dX7_unlike_156 rfl (by decide) ?_
                      refine pv_istore (q := 159) C dX7_unlike_157 rfl (Nat.le_of_ble_eq_true rfl) rfl ?_ 
                      refine pv_iload_n (q := 160) C dX7_unlike_159 rfl rfl rfl ?_ 
                      refine pv_iload (q := 162) C dX7_unlike_160 rfl rfl ?_ 
                      refine pv_if_eq (q := 165) (tgt := 169) C dX7_unlike_162 (by decide) rfl (fun _ => ?_) (fun h => absurd h (by decide)) 
                      refine pv_iconst (q := 170) (v := 1) C dX7_unlike_169 rfl (by decide) ?_ 
                      refine pv_iload_n (q := 171) C dX7_unlike_170 rfl rfl rfl ?_ 
                      refine pv_ishl (q := 172) C dX7_unlike_171 rfl ?_ 
                      refine pv_ior (q := 173) C dX7_unlike_172 rfl ?_ 
                      refine pv_istore_n (q := 174) C dX7_unlike_173 rfl rfl (Nat.le_of_ble_eq_true rfl) rfl ?_ 
                      refine pv_iinc (q := 177) (v := nI (g + 1)) C dX7_unlike_174 rfl rfl (nI_add _ _) rfl ?_ 
                      refine pv_goto (tgt := 4) C dX7_unlike_177 (by decide) ?_ 
                      exact PV_le (ih (g + 1) _ D20 (by omega) (by omega) (by show _ = umN (D 7) v g ||| _; rw [hm, lkI_n (fun q => c_149 ((q2 q).2.2.2.resolve_left c_88).2.2)]) hS2) ⟨Or.inr rfl, Or.inr rfl, Or.inr rfl, Or.inr rfl, Or.inl rfl, Or.inl rfl, Or.inl rfl, trivial⟩
                    · refine pv_iconst (q := 153) (v := 1) C dX7_unlike_152 rfl (by decide) ?_
                      refine pv_goto (tgt := 157) C dX7_unlike_153 (by decide) ?_ 
                      refine pv_istore (q := 159) C dX7_unlike_157 rfl (Nat.le_of_ble_eq_true rfl) rfl ?_ 
                      refine pv_iload_n (q := 160) C dX7_unlike_159 rfl rfl rfl ?_ 
                      refine pv_iload (q := 162) C dX7_unlike_160 rfl rfl ?_ 
                      refine pv_if_eq (q := 165) (tgt := 169) C dX7_unlike_162 (by decide) rfl (fun h => absurd h (by decide)) (fun _ => ?_) 
                      refine pv_iconst (q := 166) (v := 0) C dX7_unlike_165 rfl (by decide) ?_ 
                      refine pv_goto (tgt := 172) C dX7_unlike_166 (by decide) ?_ 
                      refine pv_ior (q := 173) C dX7_unlike_172 rfl ?_ 
                      refine pv_istore_n (q := 174) C dX7_unlike_173 rfl rfl (Nat.le_of_ble_eq_true rfl) rfl ?_ 
                      refine pv_iinc (q := 177) (v := nI (g + 1)) C dX7_unlike_174 rfl rfl (nI_add _ _) rfl ?_ 
                      refine pv_goto (tgt := 4) C dX7_unlike_177 (by decide) ?_ 
                      exact PV_le (ih (g + 1) _ D20 (by omega) (by omega) (by show _ = umN (D 7) v g ||| _; rw [hm, lkI_y (like_cg hf12 hf20 (⟨c_29, c_50, (nI_eq (by have := kn_le (D20 10) (VN (D 7) v g); omega) (by have := kn_le (D20 11) (TN (D 7) v g); omega)).mp c_71, Or.inr ⟨c_103, c_124, c_149⟩⟩))]) hS2) ⟨Or.inr rfl, Or.inr rfl, Or.inr rfl, Or.inr rfl, Or.inl rfl, Or.inl rfl, Or.inl rfl, trivial⟩
  exact loop_4 5 0 0 D (by omega) (by omega) rfl (Sz_rf D)
set_option maxRecDepth 100000 in
set_option maxHeartbeats 4000000 in
theorem c_X7_unlikeGroups (l : Launch) (X : XT) (D : DT) (P : PT) (view : Int32) : CG l X yX7_unlikeGroups (.code yX7_unlikeGroups cX7_unlikeGroups 2 (some .int) :: AW) ({ frames := 3, cells := 0, slots := 0, locals := 108 } : Room) [.ref (X.2.2 6), .int view] (qI X (fun r D' P' => rd (kView view) (umN (D 7) (ix view) 4) D r D' ∧ P = P')) D P 0 0 := by
  refine cg_of (by decide +kernel) (Nat.le_of_ble_eq_true rfl) ?_
  intro K hKl hKR C
  refine PV_lv (lv' := [some (.ref (X.2.2 6)), some (.int view)]) rfl ?_
  refine pv_aload_n (q := 1) C dX7_unlikeGroups_0 rfl rfl rfl ?_ 
  refine pv_iload_n (q := 2) C dX7_unlikeGroups_1 rfl rfl rfl ?_ 
  refine pv_callVi (q := 5) C hKl (c_X7_noView l X D P _) tw_1160 k6 (by decide) rfl mm_X7_noView ⟨rfl, rfl⟩ (by rw [hKR]; exact ⟨Nat.le_of_ble_eq_true rfl, Nat.le_of_ble_eq_true rfl⟩) (by rw [hKR]; exact ⟨Nat.le_of_ble_eq_true rfl, Nat.le_of_ble_eq_true rfl⟩) rfl rfl rfl (Nat.le_of_ble_eq_true rfl) dX7_unlikeGroups_2 rfl (fun r2 D2 P2 hp2 => ?_) 
  rcases hp2 with ⟨⟨hk2, rfl, hR2⟩ | ⟨hk2, rfl, hR2⟩, rfl⟩
  · obtain ⟨v, hv, rfl⟩ := rg_kv hk2
    refine pv_if_eq (q := 8) (tgt := 12) C dX7_unlikeGroups_5 (by decide) rfl (fun _ => ?_) (fun h => absurd h (by decide)) 
    refine pv_aload_n (q := 13) C dX7_unlikeGroups_12 rfl rfl rfl ?_ 
    refine pv_iload_n (q := 14) C dX7_unlikeGroups_13 rfl rfl rfl ?_ 
    refine pv_callVi (q := 17) C hKl (c_X7_unlike l X D2 P _ (by omega) (D 7) (by subst_vars; rfl)) tw_1429 k6 (by decide) rfl mm_X7_unlike ⟨rfl, rfl⟩ (by rw [hKR]; exact ⟨Nat.le_of_ble_eq_true rfl, Nat.le_of_ble_eq_true rfl⟩) (by rw [hKR]; exact ⟨Nat.le_of_ble_eq_true rfl, Nat.le_of_ble_eq_true rfl⟩) rfl rfl rfl (Nat.le_of_ble_eq_true rfl) dX7_unlikeGroups_14 rfl (fun r14 D14 P14 hp14 => ?_) 
    obtain ⟨rfl, hS14, rfl⟩ := hp14
    exact pv_iret C (⟨⟨by rw [hS14 6 (by decide) (by decide), hR2, hk2]; rfl, fun _ => by rw [ix_n (by omega)], Sx.z (by subst_vars; repeat (first | exact Sx_rf _ | refine Sx.ar ?_ (by decide) | refine Sx.up ?_ (by decide))) hS14⟩, rfl⟩) (by decide) (by decide) dX7_unlikeGroups_17
  · refine pv_if_eq (q := 8) (tgt := 12) C dX7_unlikeGroups_5 (by decide) rfl (fun h => absurd h (by decide)) (fun _ => ?_)
    refine pv_iconst (q := 9) (v := 0) C dX7_unlikeGroups_8 rfl (by decide) ?_ 
    refine pv_goto (tgt := 17) C dX7_unlikeGroups_9 (by decide) ?_ 
    exact pv_iret C (⟨⟨by rw [hR2]; rfl, fun z => absurd z hk2, (by subst_vars; repeat (first | exact Sx_rf _ | refine Sx.ar ?_ (by decide) | refine Sx.up ?_ (by decide)))⟩, rfl⟩) (by decide) (by decide) dX7_unlikeGroups_17
set_option maxRecDepth 100000 in
set_option maxHeartbeats 4000000 in
theorem c_X7_unlikeIfWoken (l : Launch) (X : XT) (D : DT) (P : PT) (view : Int32) : CG l X yX7_unlikeIfWoken (.code yX7_unlikeIfWoken cX7_unlikeIfWoken 2 (some .int) :: AW) ({ frames := 2, cells := 0, slots := 0, locals := 72 } : Room) [.ref (X.2.2 6), .int view] (qI X (fun r D' P' => rd (kView view) (0) D r D' ∧ P = P')) D P 0 0 := by
  refine cg_of (by decide +kernel) (Nat.le_of_ble_eq_true rfl) ?_
  intro K hKl hKR C
  refine PV_lv (lv' := [some (.ref (X.2.2 6)), some (.int view)]) rfl ?_
  refine pv_aload_n (q := 1) C dX7_unlikeIfWoken_0 rfl rfl rfl ?_ 
  refine pv_iload_n (q := 2) C dX7_unlikeIfWoken_1 rfl rfl rfl ?_ 
  refine pv_callSi (q := 5) C hKl (c_X7_isView l X D P _) tw_1144 mm_X7_isView ⟨rfl, rfl⟩ (by rw [hKR]; exact ⟨Nat.le_of_ble_eq_true rfl, Nat.le_of_ble_eq_true rfl⟩) (by rw [hKR]; exact ⟨Nat.le_of_ble_eq_true rfl, Nat.le_of_ble_eq_true rfl⟩) rfl rfl rfl (Nat.le_of_ble_eq_true rfl) dX7_unlikeIfWoken_2 rfl (fun r2 D2 P2 hp2 => ?_) 
  rcases hp2 with ⟨⟨hy2, rfl⟩ | ⟨hn2, rfl⟩, rfl, rfl⟩
  · refine pv_if_eq (q := 8) (tgt := 12) C dX7_unlikeIfWoken_5 (by decide) rfl (fun h => absurd h (by decide)) (fun _ => ?_)
    refine pv_iconst (q := 9) (v := 0) C dX7_unlikeIfWoken_8 rfl (by decide) ?_ 
    refine pv_goto (tgt := 13) C dX7_unlikeIfWoken_9 (by decide) ?_ 
    refine pp_7_0 (q := 16) C k6 tw_995 dX7_unlikeIfWoken_13 rfl (fun D13 hD13 => ?_) 
    refine pv_iconst (q := 17) (v := 0) C dX7_unlikeIfWoken_16 rfl (by decide) ?_ 
    exact pv_iret C (⟨⟨by rw [hD13]; unfold kView; rw [if_pos hy2]; rfl, fun _ => rfl, (by subst_vars; repeat (first | exact Sx_rf _ | refine Sx.ar ?_ (by decide) | refine Sx.up ?_ (by decide)))⟩, rfl⟩) (by decide) (by decide) dX7_unlikeIfWoken_17
  · refine pv_if_eq (q := 8) (tgt := 12) C dX7_unlikeIfWoken_5 (by decide) rfl (fun _ => ?_) (fun h => absurd h (by decide))
    refine pv_iconst (q := 13) (v := 1) C dX7_unlikeIfWoken_12 rfl (by decide) ?_ 
    refine pp_7_0 (q := 16) C k6 tw_995 dX7_unlikeIfWoken_13 rfl (fun D13 hD13 => ?_) 
    refine pv_iconst (q := 17) (v := 0) C dX7_unlikeIfWoken_16 rfl (by decide) ?_ 
    exact pv_iret C (⟨⟨by rw [hD13]; unfold kView; rw [if_neg hn2]; rfl, fun _ => rfl, (by subst_vars; repeat (first | exact Sx_rf _ | refine Sx.ar ?_ (by decide) | refine Sx.up ?_ (by decide)))⟩, rfl⟩) (by decide) (by decide) dX7_unlikeIfWoken_17
set_option maxRecDepth 100000 in
set_option maxHeartbeats 4000000 in
theorem c_X7_wakes (l : Launch) (X : XT) (D : DT) (P : PT) (v : Nat) (hv : v < 3)  : CG l X yX7_wakes (.code yX7_wakes cX7_wakes 3 (some .int) :: AW) ({ frames := 2, cells := 0, slots := 0, locals := 72 } : Room) [.ref (X.2.2 6), .int (nI v)] (qI X (fun r D' P' => r = wks (D 7) v ∧ D = D' ∧ P = P')) D P 0 0 := by
  refine cg_of (by decide +kernel) (Nat.le_of_ble_eq_true rfl) ?_
  intro K hKl hKR C
  refine PV_lv (lv' := [some (.ref (X.2.2 6)), some (.int (nI v)), none]) rfl ?_
  refine pv_aload_n (q := 1) C dX7_wakes_0 rfl rfl rfl ?_ 
  refine pg_7_1 (q := 4) C k6 tw_996 dX7_wakes_1 rfl (fun k1 => ?_) 
  refine pv_iload_n (q := 5) C dX7_wakes_4 rfl rfl rfl ?_ 
  refine pv_callSi (q := 8) C hKl (c_X7_base l X D P v) tw_1093 mm_X7_base ⟨rfl, rfl⟩ (by rw [hKR]; exact ⟨Nat.le_of_ble_eq_true rfl, Nat.le_of_ble_eq_true rfl⟩) (by rw [hKR]; exact ⟨Nat.le_of_ble_eq_true rfl, Nat.le_of_ble_eq_true rfl⟩) rfl rfl rfl (Nat.le_of_ble_eq_true rfl) dX7_wakes_5 rfl (fun r5 D5 P5 hp5 => ?_) 
  obtain ⟨rfl, rfl, rfl⟩ := hp5
  refine pv_bipush (q := 10) (v := 36) C dX7_wakes_8 rfl (by decide) ?_ 
  refine pv_iaddN (q := 11) (a := (32 + 38 * v)) (b := 36) C rfl rfl dX7_wakes_10 rfl ?_ 
  refine pv_iald (q := 12) (j := ((32 + 38 * v) + 36)) C (iln_15 k1) rfl (by omega) dX7_wakes_11 rfl ?_ 
  refine pv_aload_n (q := 13) C dX7_wakes_12 rfl rfl rfl ?_ 
  refine pg_7_1 (q := 16) C k6 tw_996 dX7_wakes_13 rfl (fun k13 => ?_) 
  refine pv_iload_n (q := 17) C dX7_wakes_16 rfl rfl rfl ?_ 
  refine pv_callSi (q := 20) C hKl (c_X7_base l X D P v) tw_1093 mm_X7_base ⟨rfl, rfl⟩ (by rw [hKR]; exact ⟨Nat.le_of_ble_eq_true rfl, Nat.le_of_ble_eq_true rfl⟩) (by rw [hKR]; exact ⟨Nat.le_of_ble_eq_true rfl, Nat.le_of_ble_eq_true rfl⟩) rfl rfl rfl (Nat.le_of_ble_eq_true rfl) dX7_wakes_17 rfl (fun r17 D17 P17 hp17 => ?_) 
  obtain ⟨rfl, rfl, rfl⟩ := hp17
  refine pv_bipush (q := 22) (v := 33) C dX7_wakes_20 rfl (by decide) ?_ 
  refine pv_iaddN (q := 23) (a := (32 + 38 * v)) (b := 33) C rfl rfl dX7_wakes_22 rfl ?_ 
  refine pv_iald (q := 24) (j := ((32 + 38 * v) + 33)) C (iln_15 k13) rfl (by omega) dX7_wakes_23 rfl ?_ 
  refine pv_isub (q := 25) C dX7_wakes_24 rfl ?_ 
  refine pv_istore_n (q := 26) C dX7_wakes_25 rfl rfl (Nat.le_of_ble_eq_true rfl) rfl ?_ 
  refine pv_aload_n (q := 27) C dX7_wakes_26 rfl rfl rfl ?_ 
  refine pv_iload_n (q := 28) C dX7_wakes_27 rfl rfl rfl ?_ 
  refine pv_callVi (q := 31) C hKl (c_X7_naps l X D P _ (by omega)) tw_1089 k6 (by decide) rfl mm_X7_naps ⟨rfl, rfl⟩ (by rw [hKR]; exact ⟨Nat.le_of_ble_eq_true rfl, Nat.le_of_ble_eq_true rfl⟩) (by rw [hKR]; exact ⟨Nat.le_of_ble_eq_true rfl, Nat.le_of_ble_eq_true rfl⟩) rfl rfl rfl (Nat.le_of_ble_eq_true rfl) dX7_wakes_28 rfl (fun r28 D28 P28 hp28 => ?_) 
  rcases hp28 with ⟨⟨hy28, rfl⟩ | ⟨hn28, rfl⟩, rfl, rfl⟩
  · refine pv_if_ne (q := 34) (tgt := 38) C dX7_wakes_31 (by decide) rfl (fun _ => ?_) (fun h => absurd h (by decide))
    refine pv_iload_n (q := 39) C dX7_wakes_38 rfl rfl rfl ?_ 
    refine pv_iconst (q := 40) (v := 1) C dX7_wakes_39 rfl (by decide) ?_ 
    refine pv_icmp_ge (q := 43) (tgt := 47) C dX7_wakes_40 (by decide) rfl (fun c_40 => ?_) (fun c_40 => ?_) 
    · refine pv_iload_n (q := 48) C dX7_wakes_47 rfl rfl rfl ?_
      exact pv_iret C (⟨by unfold wks; rw [if_pos hy28, if_neg (Int32.not_lt.mpr c_40)], rfl, rfl⟩) (by decide) (by decide) dX7_wakes_48
    · refine pv_iconst (q := 44) (v := 1) C dX7_wakes_43 rfl (by decide) ?_
      refine pv_goto (tgt := 48) C dX7_wakes_44 (by decide) ?_ 
      exact pv_iret C (⟨by unfold wks; rw [if_pos hy28, if_pos (Int32.not_le.mp c_40)], rfl, rfl⟩) (by decide) (by decide) dX7_wakes_48
  · refine pv_if_ne (q := 34) (tgt := 38) C dX7_wakes_31 (by decide) rfl (fun h => absurd h (by decide)) (fun _ => ?_)
    refine pv_iconst (q := 35) (v := 0) C dX7_wakes_34 rfl (by decide) ?_ 
    refine pv_goto (tgt := 48) C dX7_wakes_35 (by decide) ?_ 
    exact pv_iret C (⟨by unfold wks; rw [if_neg hn28], rfl, rfl⟩) (by decide) (by decide) dX7_wakes_48
set_option maxRecDepth 100000 in
set_option maxHeartbeats 4000000 in
theorem c_X7_wakesIn (l : Launch) (X : XT) (D : DT) (P : PT) (view : Int32) : CG l X yX7_wakesIn (.code yX7_wakesIn cX7_wakesIn 2 (some .int) :: AW) ({ frames := 3, cells := 0, slots := 0, locals := 108 } : Room) [.ref (X.2.2 6), .int view] (qI X (fun r D' P' => rd (kView view) (wks (D 7) (ix view)) D r D' ∧ P = P')) D P 0 0 := by
  refine cg_of (by decide +kernel) (Nat.le_of_ble_eq_true rfl) ?_
  intro K hKl hKR C
  refine PV_lv (lv' := [some (.ref (X.2.2 6)), some (.int view)]) rfl ?_
  refine pv_aload_n (q := 1) C dX7_wakesIn_0 rfl rfl rfl ?_ 
  refine pv_iload_n (q := 2) C dX7_wakesIn_1 rfl rfl rfl ?_ 
  refine pv_callVi (q := 5) C hKl (c_X7_noView l X D P _) tw_1160 k6 (by decide) rfl mm_X7_noView ⟨rfl, rfl⟩ (by rw [hKR]; exact ⟨Nat.le_of_ble_eq_true rfl, Nat.le_of_ble_eq_true rfl⟩) (by rw [hKR]; exact ⟨Nat.le_of_ble_eq_true rfl, Nat.le_of_ble_eq_true rfl⟩) rfl rfl rfl (Nat.le_of_ble_eq_true rfl) dX7_wakesIn_2 rfl (fun r2 D2 P2 hp2 => ?_) 
  rcases hp2 with ⟨⟨hk2, rfl, hR2⟩ | ⟨hk2, rfl, hR2⟩, rfl⟩
  · obtain ⟨v, hv, rfl⟩ := rg_kv hk2
    refine pv_if_eq (q := 8) (tgt := 12) C dX7_wakesIn_5 (by decide) rfl (fun _ => ?_) (fun h => absurd h (by decide)) 
    refine pv_aload_n (q := 13) C dX7_wakesIn_12 rfl rfl rfl ?_ 
    refine pv_iload_n (q := 14) C dX7_wakesIn_13 rfl rfl rfl ?_ 
    refine pv_callVi (q := 17) C hKl (c_X7_wakes l X D2 P _ (by omega)) tw_1441 k6 (by decide) rfl mm_X7_wakes ⟨rfl, rfl⟩ (by rw [hKR]; exact ⟨Nat.le_of_ble_eq_true rfl, Nat.le_of_ble_eq_true rfl⟩) (by rw [hKR]; exact ⟨Nat.le_of_ble_eq_true rfl, Nat.le_of_ble_eq_true rfl⟩) rfl rfl rfl (Nat.le_of_ble_eq_true rfl) dX7_wakesIn_14 rfl (fun r14 D14 P14 hp14 => ?_) 
    obtain ⟨rfl, rfl, rfl⟩ := hp14
    exact pv_iret C (⟨⟨by rw [hk2]; subst_vars; rfl, fun _ => by rw [ix_n (by omega)]; subst_vars; rfl, (by subst_vars; repeat (first | exact Sx_rf _ | refine Sx.ar ?_ (by decide) | refine Sx.up ?_ (by decide)))⟩, rfl⟩) (by decide) (by decide) dX7_wakesIn_17
  · refine pv_if_eq (q := 8) (tgt := 12) C dX7_wakesIn_5 (by decide) rfl (fun h => absurd h (by decide)) (fun _ => ?_)
    refine pv_iconst (q := 9) (v := 0) C dX7_wakesIn_8 rfl (by decide) ?_ 
    refine pv_goto (tgt := 17) C dX7_wakesIn_9 (by decide) ?_ 
    exact pv_iret C (⟨⟨by rw [hR2]; rfl, fun z => absurd z hk2, (by subst_vars; repeat (first | exact Sx_rf _ | refine Sx.ar ?_ (by decide) | refine Sx.up ?_ (by decide)))⟩, rfl⟩) (by decide) (by decide) dX7_wakesIn_17
set_option maxRecDepth 100000 in
set_option maxHeartbeats 4000000 in
theorem c_X7_mix (l : Launch) (X : XT) (D : DT) (P : PT) (a b : Int64) : CG l X yX7_mix (.code yX7_mix cX7_mix 4 (some .long) :: AW) ({ frames := 0, cells := 0, slots := 0, locals := 0 } : Room) [.long a, .long b] (qL X (fun r D' P' => r = hmx a b ∧ D = D' ∧ P = P')) D P 0 0 := by
  refine cg_of (by decide +kernel) (Nat.le_of_ble_eq_true rfl) ?_
  intro K hKl hKR C
  refine PV_lv (lv' := [some (.long a), none, some (.long b), none]) rfl ?_
  refine pv_ldc2 (q := 3) C dX7_mix_0 rfl tw_1461 ?_ 
  refine pv_lload_n (q := 4) C dX7_mix_3 rfl rfl rfl ?_ 
  refine pv_lmul (q := 5) C dX7_mix_4 rfl ?_ 
  refine pv_lload_n (q := 6) C dX7_mix_5 rfl rfl rfl ?_ 
  refine pv_ladd (q := 7) C dX7_mix_6 rfl ?_ 
  exact pv_lret C (⟨rfl, rfl, rfl⟩) (by decide) (by decide) dX7_mix_7
set_option maxRecDepth 100000 in
set_option maxHeartbeats 4000000 in
theorem c_X7_groupHash (l : Launch) (X : XT) (D : DT) (P : PT) (h : Int64) (v g : Nat) (hv : v < 3) (hg : g < 4) (row : Nat → Int32) (h7 : D 7 = row)  : CG l X yX7_groupHash (.code yX7_groupHash cX7_groupHash 9 (some .long) :: AW) ({ frames := 2, cells := 0, slots := 0, locals := 72 } : Room) [.ref (X.2.2 6), .long h, .int (nI v), .int (nI g)] (qL X (fun r D' P' => r = gH h row v g ∧ Sz D D' ∧ P = P')) D P 0 0 := by
  refine cg_of (by decide +kernel) (Nat.le_of_ble_eq_true rfl) ?_
  intro K hKl hKR C
  refine PV_lv (lv' := [some (.ref (X.2.2 6)), some (.long h), none, some (.int (nI v)), some (.int (nI g)), none, none, none, none]) rfl ?_
  refine pv_aload_n (q := 1) C dX7_groupHash_0 rfl rfl rfl ?_ 
  refine pv_iload_n (q := 2) C dX7_groupHash_1 rfl rfl rfl ?_ 
  refine pv_iload (q := 4) C dX7_groupHash_2 rfl rfl ?_ 
  refine pv_callVi (q := 7) C hKl (c_X7_layView l X D P _ _ hv hg row h7) tw_1360 k6 (by decide) rfl mm_X7_layView ⟨rfl, rfl⟩ (by rw [hKR]; exact ⟨Nat.le_of_ble_eq_true rfl, Nat.le_of_ble_eq_true rfl⟩) (by rw [hKR]; exact ⟨Nat.le_of_ble_eq_true rfl, Nat.le_of_ble_eq_true rfl⟩) rfl rfl rfl (Nat.le_of_ble_eq_true rfl) dX7_groupHash_4 rfl (fun r4 D4 P4 hp4 => ?_) 
  obtain ⟨rfl, ⟨f1, hR4, hf4⟩, rfl⟩ := hp4
  have hle := VN_le row v g
  refine pv_istore (q := 9) C dX7_groupHash_7 rfl (Nat.le_of_ble_eq_true rfl) rfl ?_ 
  refine pv_aload_n (q := 10) C dX7_groupHash_9 rfl rfl rfl ?_ 
  refine pv_iload_n (q := 11) C dX7_groupHash_10 rfl rfl rfl ?_ 
  refine pv_iload (q := 13) C dX7_groupHash_11 rfl rfl ?_ 
  refine pv_callVi (q := 16) C hKl (c_X7_layTable l X D4 P _ _ hv hg row (by rw [hR4]; exact h7)) tw_1409 k6 (by decide) rfl mm_X7_layTable ⟨rfl, rfl⟩ (by rw [hKR]; exact ⟨Nat.le_of_ble_eq_true rfl, Nat.le_of_ble_eq_true rfl⟩) (by rw [hKR]; exact ⟨Nat.le_of_ble_eq_true rfl, Nat.le_of_ble_eq_true rfl⟩) rfl rfl rfl (Nat.le_of_ble_eq_true rfl) dX7_groupHash_13 rfl (fun r13 D13 P13 hp13 => ?_) 
  obtain ⟨rfl, ⟨f2, hR13, hf13⟩, rfl⟩ := hp13
  have hle2 := TN_le row v g
  have hS2 : Sz D D13 := by rw [hR13, hR4]; exact ((Sz_rf D).ar (Or.inl rfl)).ar (Or.inr rfl)
  have e11 : D13 11 = f2 := by rw [hR13, va_up_self]
  have e10 : D13 10 = f1 := by rw [hR13, va_up_ne _ _ (by decide), hR4, va_up_self]
  rw [← e10] at hf4
  rw [← e11] at hf13
  refine pv_istore (q := 18) C dX7_groupHash_16 rfl (Nat.le_of_ble_eq_true rfl) rfl ?_ 
  refine pv_lload_n (q := 19) C dX7_groupHash_18 rfl rfl rfl ?_ 
  refine pv_iload (q := 21) C dX7_groupHash_19 rfl rfl ?_ 
  refine pv_i2l (q := 22) C dX7_groupHash_21 rfl ?_ 
  refine pv_callSl (q := 25) C hKl (c_X7_mix l X D13 P _ _) tw_1458 mm_X7_mix ⟨rfl, rfl⟩ (by rw [hKR]; exact ⟨Nat.le_of_ble_eq_true rfl, Nat.le_of_ble_eq_true rfl⟩) (by rw [hKR]; exact ⟨Nat.le_of_ble_eq_true rfl, Nat.le_of_ble_eq_true rfl⟩) rfl rfl rfl (Nat.le_of_ble_eq_true rfl) dX7_groupHash_22 rfl (fun r22 D22 P22 hp22 => ?_) 
  obtain ⟨rfl, rfl, rfl⟩ := hp22
  refine pv_aload_n (q := 26) C dX7_groupHash_25 rfl rfl rfl ?_ 
  refine pg_7_6 (q := 29) C k6 tw_1001 dX7_groupHash_26 rfl (fun k26 => ?_) 
  refine pv_iload (q := 31) C dX7_groupHash_29 rfl rfl ?_ 
  refine pv_callSi (q := 34) C hKl (c_X7_total l X D13 P _ _ k26 (by first | omega | exact vN_le _ _ _ _)) tw_1372 mm_X7_total ⟨rfl, rfl⟩ (by rw [hKR]; exact ⟨Nat.le_of_ble_eq_true rfl, Nat.le_of_ble_eq_true rfl⟩) (by rw [hKR]; exact ⟨Nat.le_of_ble_eq_true rfl, Nat.le_of_ble_eq_true rfl⟩) rfl rfl rfl (Nat.le_of_ble_eq_true rfl) dX7_groupHash_31 rfl (fun r31 D31 P31 hp31 => ?_) 
  obtain ⟨rfl, rfl, rfl⟩ := hp31
  rw [sm_cong hf4]
  refine pv_i2l (q := 35) C dX7_groupHash_34 rfl ?_ 
  refine pv_callSl (q := 38) C hKl (c_X7_mix l X D13 P _ _) tw_1458 mm_X7_mix ⟨rfl, rfl⟩ (by rw [hKR]; exact ⟨Nat.le_of_ble_eq_true rfl, Nat.le_of_ble_eq_true rfl⟩) (by rw [hKR]; exact ⟨Nat.le_of_ble_eq_true rfl, Nat.le_of_ble_eq_true rfl⟩) rfl rfl rfl (Nat.le_of_ble_eq_true rfl) dX7_groupHash_35 rfl (fun r35 D35 P35 hp35 => ?_) 
  obtain ⟨rfl, rfl, rfl⟩ := hp35
  refine pv_lstore (q := 40) C dX7_groupHash_38 rfl (Nat.le_of_ble_eq_true rfl) rfl ?_ 
  refine pv_lload (q := 42) C dX7_groupHash_40 rfl rfl ?_ 
  refine pv_aload_n (q := 43) C dX7_groupHash_42 rfl rfl rfl ?_ 
  refine pg_7_6 (q := 46) C k6 tw_1001 dX7_groupHash_43 rfl (fun k43 => ?_) 
  refine pv_iload (q := 48) C dX7_groupHash_46 rfl rfl ?_ 
  refine pv_callSi (q := 51) C hKl (c_X7_kinds l X D13 P _ _ k43 (by first | omega | exact vN_le _ _ _ _)) tw_1402 mm_X7_kinds ⟨rfl, rfl⟩ (by rw [hKR]; exact ⟨Nat.le_of_ble_eq_true rfl, Nat.le_of_ble_eq_true rfl⟩) (by rw [hKR]; exact ⟨Nat.le_of_ble_eq_true rfl, Nat.le_of_ble_eq_true rfl⟩) rfl rfl rfl (Nat.le_of_ble_eq_true rfl) dX7_groupHash_48 rfl (fun r48 D48 P48 hp48 => ?_) 
  obtain ⟨rfl, rfl, rfl⟩ := hp48
  rw [kn_cong hf4]
  refine pv_i2l (q := 52) C dX7_groupHash_51 rfl ?_ 
  refine pv_callSl (q := 55) C hKl (c_X7_mix l X D13 P _ _) tw_1458 mm_X7_mix ⟨rfl, rfl⟩ (by rw [hKR]; exact ⟨Nat.le_of_ble_eq_true rfl, Nat.le_of_ble_eq_true rfl⟩) (by rw [hKR]; exact ⟨Nat.le_of_ble_eq_true rfl, Nat.le_of_ble_eq_true rfl⟩) rfl rfl rfl (Nat.le_of_ble_eq_true rfl) dX7_groupHash_52 rfl (fun r52 D52 P52 hp52 => ?_) 
  obtain ⟨rfl, rfl, rfl⟩ := hp52
  refine pv_aload_n (q := 56) C dX7_groupHash_55 rfl rfl rfl ?_ 
  refine pg_7_6 (q := 59) C k6 tw_1001 dX7_groupHash_56 rfl (fun k56 => ?_) 
  refine pv_iload (q := 61) C dX7_groupHash_59 rfl rfl ?_ 
  refine pv_iconst (q := 62) (v := 0) C dX7_groupHash_61 rfl (by decide) ?_ 
  refine pv_callSi (q := 65) C hKl (c_X7_below l X D13 P _ _ k56 (by first | omega | exact vN_le _ _ _ _) _) tw_1395 mm_X7_below ⟨rfl, rfl⟩ (by rw [hKR]; exact ⟨Nat.le_of_ble_eq_true rfl, Nat.le_of_ble_eq_true rfl⟩) (by rw [hKR]; exact ⟨Nat.le_of_ble_eq_true rfl, Nat.le_of_ble_eq_true rfl⟩) rfl rfl rfl (Nat.le_of_ble_eq_true rfl) dX7_groupHash_62 rfl (fun r62 D62 P62 hp62 => ?_) 
  obtain ⟨rfl, rfl, rfl⟩ := hp62
  rw [bl_cong hf4]
  refine pv_i2l (q := 66) C dX7_groupHash_65 rfl ?_ 
  refine pv_callSl (q := 69) C hKl (c_X7_mix l X D13 P _ _) tw_1458 mm_X7_mix ⟨rfl, rfl⟩ (by rw [hKR]; exact ⟨Nat.le_of_ble_eq_true rfl, Nat.le_of_ble_eq_true rfl⟩) (by rw [hKR]; exact ⟨Nat.le_of_ble_eq_true rfl, Nat.le_of_ble_eq_true rfl⟩) rfl rfl rfl (Nat.le_of_ble_eq_true rfl) dX7_groupHash_66 rfl (fun r66 D66 P66 hp66 => ?_) 
  obtain ⟨rfl, rfl, rfl⟩ := hp66
  refine pv_lstore (q := 71) C dX7_groupHash_69 rfl (Nat.le_of_ble_eq_true rfl) rfl ?_ 
  refine pv_lload (q := 73) C dX7_groupHash_71 rfl rfl ?_ 
  refine pv_iload (q := 75) C dX7_groupHash_73 rfl rfl ?_ 
  refine pv_i2l (q := 76) C dX7_groupHash_75 rfl ?_ 
  refine pv_callSl (q := 79) C hKl (c_X7_mix l X D13 P _ _) tw_1458 mm_X7_mix ⟨rfl, rfl⟩ (by rw [hKR]; exact ⟨Nat.le_of_ble_eq_true rfl, Nat.le_of_ble_eq_true rfl⟩) (by rw [hKR]; exact ⟨Nat.le_of_ble_eq_true rfl, Nat.le_of_ble_eq_true rfl⟩) rfl rfl rfl (Nat.le_of_ble_eq_true rfl) dX7_groupHash_76 rfl (fun r76 D76 P76 hp76 => ?_) 
  obtain ⟨rfl, rfl, rfl⟩ := hp76
  refine pv_aload_n (q := 80) C dX7_groupHash_79 rfl rfl rfl ?_ 
  refine pg_7_7 (q := 83) C k6 tw_1002 dX7_groupHash_80 rfl (fun k80 => ?_) 
  refine pv_iload (q := 85) C dX7_groupHash_83 rfl rfl ?_ 
  refine pv_callSi (q := 88) C hKl (c_X7_total l X D13 P _ _ k80 (by first | omega | exact vN_le _ _ _ _)) tw_1372 mm_X7_total ⟨rfl, rfl⟩ (by rw [hKR]; exact ⟨Nat.le_of_ble_eq_true rfl, Nat.le_of_ble_eq_true rfl⟩) (by rw [hKR]; exact ⟨Nat.le_of_ble_eq_true rfl, Nat.le_of_ble_eq_true rfl⟩) rfl rfl rfl (Nat.le_of_ble_eq_true rfl) dX7_groupHash_85 rfl (fun r85 D85 P85 hp85 => ?_) 
  obtain ⟨rfl, rfl, rfl⟩ := hp85
  rw [sm_cong hf13]
  refine pv_i2l (q := 89) C dX7_groupHash_88 rfl ?_ 
  refine pv_callSl (q := 92) C hKl (c_X7_mix l X D13 P _ _) tw_1458 mm_X7_mix ⟨rfl, rfl⟩ (by rw [hKR]; exact ⟨Nat.le_of_ble_eq_true rfl, Nat.le_of_ble_eq_true rfl⟩) (by rw [hKR]; exact ⟨Nat.le_of_ble_eq_true rfl, Nat.le_of_ble_eq_true rfl⟩) rfl rfl rfl (Nat.le_of_ble_eq_true rfl) dX7_groupHash_89 rfl (fun r89 D89 P89 hp89 => ?_) 
  obtain ⟨rfl, rfl, rfl⟩ := hp89
  refine pv_lstore (q := 94) C dX7_groupHash_92 rfl (Nat.le_of_ble_eq_true rfl) rfl ?_ 
  refine pv_lload (q := 96) C dX7_groupHash_94 rfl rfl ?_ 
  refine pv_aload_n (q := 97) C dX7_groupHash_96 rfl rfl rfl ?_ 
  refine pg_7_7 (q := 100) C k6 tw_1002 dX7_groupHash_97 rfl (fun k97 => ?_) 
  refine pv_iload (q := 102) C dX7_groupHash_100 rfl rfl ?_ 
  refine pv_iconst (q := 103) (v := 0) C dX7_groupHash_102 rfl (by decide) ?_ 
  refine pv_callSi (q := 106) C hKl (c_X7_below l X D13 P _ _ k97 (by first | omega | exact vN_le _ _ _ _) _) tw_1395 mm_X7_below ⟨rfl, rfl⟩ (by rw [hKR]; exact ⟨Nat.le_of_ble_eq_true rfl, Nat.le_of_ble_eq_true rfl⟩) (by rw [hKR]; exact ⟨Nat.le_of_ble_eq_true rfl, Nat.le_of_ble_eq_true rfl⟩) rfl rfl rfl (Nat.le_of_ble_eq_true rfl) dX7_groupHash_103 rfl (fun r103 D103 P103 hp103 => ?_) 
  obtain ⟨rfl, rfl, rfl⟩ := hp103
  rw [bl_cong hf13]
  refine pv_i2l (q := 107) C dX7_groupHash_106 rfl ?_ 
  refine pv_callSl (q := 110) C hKl (c_X7_mix l X D13 P _ _) tw_1458 mm_X7_mix ⟨rfl, rfl⟩ (by rw [hKR]; exact ⟨Nat.le_of_ble_eq_true rfl, Nat.le_of_ble_eq_true rfl⟩) (by rw [hKR]; exact ⟨Nat.le_of_ble_eq_true rfl, Nat.le_of_ble_eq_true rfl⟩) rfl rfl rfl (Nat.le_of_ble_eq_true rfl) dX7_groupHash_107 rfl (fun r107 D107 P107 hp107 => ?_) 
  obtain ⟨rfl, rfl, rfl⟩ := hp107
  refine pv_lstore (q := 112) C dX7_groupHash_110 rfl (Nat.le_of_ble_eq_true rfl) rfl ?_ 
  refine pv_iload (q := 114) C dX7_groupHash_112 rfl rfl ?_ 
  refine pv_if_leN (q := 117) (tgt := 159) (a := (VN row v g)) (b := 0) C rfl rfl (by omega) (by omega) dX7_groupHash_114 (by decide) rfl (fun c_114 => ?_) (fun c_114 => ?_) 
  · refine pv_iload (q := 161) C dX7_groupHash_159 rfl rfl ?_
    refine pv_if_leN (q := 164) (tgt := 184) (a := (TN row v g)) (b := 0) C rfl rfl (by omega) (by omega) dX7_groupHash_161 (by decide) rfl (fun c_161 => ?_) (fun c_161 => ?_) 
    · refine pv_lload (q := 186) C dX7_groupHash_184 rfl rfl ?_
      exact pv_lret C (⟨by unfold gH gH6 gH5; rw [if_pos (by omega), if_pos (by omega)]; rfl, hS2, rfl⟩) (by decide) (by decide) dX7_groupHash_186
    · refine pv_lload (q := 166) C dX7_groupHash_164 rfl rfl ?_
      refine pv_aload_n (q := 167) C dX7_groupHash_166 rfl rfl rfl ?_ 
      refine pg_7_7 (q := 170) C k6 tw_1002 dX7_groupHash_167 rfl (fun k167 => ?_) 
      refine pv_iload (q := 172) C dX7_groupHash_170 rfl rfl ?_ 
      refine pv_iconst (q := 173) (v := 1) C dX7_groupHash_172 rfl (by decide) ?_ 
      refine pv_isubN (q := 174) (a := (TN row v g)) (b := 1) C rfl rfl (by omega) dX7_groupHash_173 rfl ?_ 
      refine pv_iconst (q := 175) (v := 2) C dX7_groupHash_174 rfl (by decide) ?_ 
      refine pv_idivN (q := 176) (a := ((TN row v g) - 1)) (b := 2) C rfl rfl (by omega) (by decide) (by decide) dX7_groupHash_175 rfl ?_ 
      refine pv_iald (q := 177) (j := (((TN row v g) - 1) / 2)) C (iln_9 k167) rfl (by omega) dX7_groupHash_176 rfl ?_ 
      rw [hf13 _ (by omega)]
      refine pv_i2l (q := 178) C dX7_groupHash_177 rfl ?_ 
      refine pv_callSl (q := 181) C hKl (c_X7_mix l X D13 P _ _) tw_1458 mm_X7_mix ⟨rfl, rfl⟩ (by rw [hKR]; exact ⟨Nat.le_of_ble_eq_true rfl, Nat.le_of_ble_eq_true rfl⟩) (by rw [hKR]; exact ⟨Nat.le_of_ble_eq_true rfl, Nat.le_of_ble_eq_true rfl⟩) rfl rfl rfl (Nat.le_of_ble_eq_true rfl) dX7_groupHash_178 rfl (fun r178 D178 P178 hp178 => ?_) 
      obtain ⟨rfl, rfl, rfl⟩ := hp178
      refine pv_goto (tgt := 186) C dX7_groupHash_181 (by decide) ?_ 
      exact pv_lret C (⟨by unfold gH gH6 gH5; rw [if_neg (by omega), if_pos (by omega)]; rfl, hS2, rfl⟩) (by decide) (by decide) dX7_groupHash_186
  · refine pv_lload (q := 119) C dX7_groupHash_117 rfl rfl ?_
    refine pv_aload_n (q := 120) C dX7_groupHash_119 rfl rfl rfl ?_ 
    refine pg_7_6 (q := 123) C k6 tw_1001 dX7_groupHash_120 rfl (fun k120 => ?_) 
    refine pv_iconst (q := 124) (v := 0) C dX7_groupHash_123 rfl (by decide) ?_ 
    refine pv_iald (q := 125) (j := 0) C (iln_9 k120) rfl (by decide) dX7_groupHash_124 rfl ?_ 
    rw [hf4 0 (by omega)]
    refine pv_i2l (q := 126) C dX7_groupHash_125 rfl ?_ 
    refine pv_callSl (q := 129) C hKl (c_X7_mix l X D13 P _ _) tw_1458 mm_X7_mix ⟨rfl, rfl⟩ (by rw [hKR]; exact ⟨Nat.le_of_ble_eq_true rfl, Nat.le_of_ble_eq_true rfl⟩) (by rw [hKR]; exact ⟨Nat.le_of_ble_eq_true rfl, Nat.le_of_ble_eq_true rfl⟩) rfl rfl rfl (Nat.le_of_ble_eq_true rfl) dX7_groupHash_126 rfl (fun r126 D126 P126 hp126 => ?_) 
    obtain ⟨rfl, rfl, rfl⟩ := hp126
    refine pv_aload_n (q := 130) C dX7_groupHash_129 rfl rfl rfl ?_ 
    refine pg_7_6 (q := 133) C k6 tw_1001 dX7_groupHash_130 rfl (fun k130 => ?_) 
    refine pv_iload (q := 135) C dX7_groupHash_133 rfl rfl ?_ 
    refine pv_iconst (q := 136) (v := 1) C dX7_groupHash_135 rfl (by decide) ?_ 
    refine pv_isubN (q := 137) (a := (VN row v g)) (b := 1) C rfl rfl (by omega) dX7_groupHash_136 rfl ?_ 
    refine pv_iald (q := 138) (j := ((VN row v g) - 1)) C (iln_9 k130) rfl (by omega) dX7_groupHash_137 rfl ?_ 
    rw [hf4 _ (by omega)]
    refine pv_i2l (q := 139) C dX7_groupHash_138 rfl ?_ 
    refine pv_callSl (q := 142) C hKl (c_X7_mix l X D13 P _ _) tw_1458 mm_X7_mix ⟨rfl, rfl⟩ (by rw [hKR]; exact ⟨Nat.le_of_ble_eq_true rfl, Nat.le_of_ble_eq_true rfl⟩) (by rw [hKR]; exact ⟨Nat.le_of_ble_eq_true rfl, Nat.le_of_ble_eq_true rfl⟩) rfl rfl rfl (Nat.le_of_ble_eq_true rfl) dX7_groupHash_139 rfl (fun r139 D139 P139 hp139 => ?_) 
    obtain ⟨rfl, rfl, rfl⟩ := hp139
    refine pv_aload_n (q := 143) C dX7_groupHash_142 rfl rfl rfl ?_ 
    refine pg_7_6 (q := 146) C k6 tw_1001 dX7_groupHash_143 rfl (fun k143 => ?_) 
    refine pv_iload (q := 148) C dX7_groupHash_146 rfl rfl ?_ 
    refine pv_iconst (q := 149) (v := 1) C dX7_groupHash_148 rfl (by decide) ?_ 
    refine pv_isubN (q := 150) (a := (VN row v g)) (b := 1) C rfl rfl (by omega) dX7_groupHash_149 rfl ?_ 
    refine pv_iconst (q := 151) (v := 2) C dX7_groupHash_150 rfl (by decide) ?_ 
    refine pv_idivN (q := 152) (a := ((VN row v g) - 1)) (b := 2) C rfl rfl (by omega) (by decide) (by decide) dX7_groupHash_151 rfl ?_ 
    refine pv_iald (q := 153) (j := (((VN row v g) - 1) / 2)) C (iln_9 k143) rfl (by omega) dX7_groupHash_152 rfl ?_ 
    rw [hf4 _ (by omega)]
    refine pv_i2l (q := 154) C dX7_groupHash_153 rfl ?_ 
    refine pv_callSl (q := 157) C hKl (c_X7_mix l X D13 P _ _) tw_1458 mm_X7_mix ⟨rfl, rfl⟩ (by rw [hKR]; exact ⟨Nat.le_of_ble_eq_true rfl, Nat.le_of_ble_eq_true rfl⟩) (by rw [hKR]; exact ⟨Nat.le_of_ble_eq_true rfl, Nat.le_of_ble_eq_true rfl⟩) rfl rfl rfl (Nat.le_of_ble_eq_true rfl) dX7_groupHash_154 rfl (fun r154 D154 P154 hp154 => ?_) 
    obtain ⟨rfl, rfl, rfl⟩ := hp154
    refine pv_lstore (q := 159) C dX7_groupHash_157 rfl (Nat.le_of_ble_eq_true rfl) rfl ?_ 
    refine pv_iload (q := 161) C dX7_groupHash_159 rfl rfl ?_ 
    refine pv_if_leN (q := 164) (tgt := 184) (a := (TN row v g)) (b := 0) C rfl rfl (by omega) (by omega) dX7_groupHash_161 (by decide) rfl (fun c_161 => ?_) (fun c_161 => ?_) 
    · refine pv_lload (q := 186) C dX7_groupHash_184 rfl rfl ?_
      exact pv_lret C (⟨by unfold gH gH6 gH5; rw [if_pos (by omega), if_neg (by omega)]; rfl, hS2, rfl⟩) (by decide) (by decide) dX7_groupHash_186
    · refine pv_lload (q := 166) C dX7_groupHash_164 rfl rfl ?_
      refine pv_aload_n (q := 167) C dX7_groupHash_166 rfl rfl rfl ?_ 
      refine pg_7_7 (q := 170) C k6 tw_1002 dX7_groupHash_167 rfl (fun k167 => ?_) 
      refine pv_iload (q := 172) C dX7_groupHash_170 rfl rfl ?_ 
      refine pv_iconst (q := 173) (v := 1) C dX7_groupHash_172 rfl (by decide) ?_ 
      refine pv_isubN (q := 174) (a := (TN row v g)) (b := 1) C rfl rfl (by omega) dX7_groupHash_173 rfl ?_ 
      refine pv_iconst (q := 175) (v := 2) C dX7_groupHash_174 rfl (by decide) ?_ 
      refine pv_idivN (q := 176) (a := ((TN row v g) - 1)) (b := 2) C rfl rfl (by omega) (by decide) (by decide) dX7_groupHash_175 rfl ?_ 
      refine pv_iald (q := 177) (j := (((TN row v g) - 1) / 2)) C (iln_9 k167) rfl (by omega) dX7_groupHash_176 rfl ?_ 
      rw [hf13 _ (by omega)]
      refine pv_i2l (q := 178) C dX7_groupHash_177 rfl ?_ 
      refine pv_callSl (q := 181) C hKl (c_X7_mix l X D13 P _ _) tw_1458 mm_X7_mix ⟨rfl, rfl⟩ (by rw [hKR]; exact ⟨Nat.le_of_ble_eq_true rfl, Nat.le_of_ble_eq_true rfl⟩) (by rw [hKR]; exact ⟨Nat.le_of_ble_eq_true rfl, Nat.le_of_ble_eq_true rfl⟩) rfl rfl rfl (Nat.le_of_ble_eq_true rfl) dX7_groupHash_178 rfl (fun r178 D178 P178 hp178 => ?_) 
      obtain ⟨rfl, rfl, rfl⟩ := hp178
      refine pv_goto (tgt := 186) C dX7_groupHash_181 (by decide) ?_ 
      exact pv_lret C (⟨by unfold gH gH6 gH5; rw [if_neg (by omega), if_neg (by omega)]; rfl, hS2, rfl⟩) (by decide) (by decide) dX7_groupHash_186
set_option maxRecDepth 100000 in
set_option maxHeartbeats 4000000 in
theorem c_X7_viewHash (l : Launch) (X : XT) (D : DT) (P : PT) (h : Int64) (v : Nat) (hv : v < 3) (row : Nat → Int32) (h7 : D 7 = row) (hse : seen row v) : CG l X yX7_viewHash (.code yX7_viewHash cX7_viewHash 7 (some .long) :: AW) ({ frames := 3, cells := 0, slots := 0, locals := 108 } : Room) [.ref (X.2.2 6), .long h, .int (nI v)] (qL X (fun r D' P' => r = vH h row v 4 ∧ Sz D D' ∧ P = P')) D P 0 0 := by
  refine cg_of (by decide +kernel) (Nat.le_of_ble_eq_true rfl) ?_
  intro K hKl hKR C
  refine PV_lv (lv' := [some (.ref (X.2.2 6)), some (.long h), none, some (.int (nI v)), none, none, none]) rfl ?_
  
  refine pv_lload_n (q := 1) C dX7_viewHash_0 rfl rfl rfl ?_ 
  refine pv_aload_n (q := 2) C dX7_viewHash_1 rfl rfl rfl ?_ 
  refine pg_7_1 (q := 5) C k6 tw_996 dX7_viewHash_2 rfl (fun k2 => ?_) 
  refine pv_iload_n (q := 6) C dX7_viewHash_5 rfl rfl rfl ?_ 
  refine pv_callSi (q := 9) C hKl (c_X7_base l X D P v) tw_1093 mm_X7_base ⟨rfl, rfl⟩ (by rw [hKR]; exact ⟨Nat.le_of_ble_eq_true rfl, Nat.le_of_ble_eq_true rfl⟩) (by rw [hKR]; exact ⟨Nat.le_of_ble_eq_true rfl, Nat.le_of_ble_eq_true rfl⟩) rfl rfl rfl (Nat.le_of_ble_eq_true rfl) dX7_viewHash_6 rfl (fun r6 D6 P6 hp6 => ?_) 
  obtain ⟨rfl, rfl, rfl⟩ := hp6
  refine pv_bipush (q := 11) (v := 32) C dX7_viewHash_9 rfl (by decide) ?_ 
  refine pv_iaddN (q := 12) (a := (32 + 38 * v)) (b := 32) C rfl rfl dX7_viewHash_11 rfl ?_ 
  refine pv_iald (q := 13) (j := ((32 + 38 * v) + 32)) C (iln_15 k2) rfl (by omega) dX7_viewHash_12 rfl ?_ 
  refine pv_i2l (q := 14) C dX7_viewHash_13 rfl ?_ 
  refine pv_callSl (q := 17) C hKl (c_X7_mix l X D P _ _) tw_1458 mm_X7_mix ⟨rfl, rfl⟩ (by rw [hKR]; exact ⟨Nat.le_of_ble_eq_true rfl, Nat.le_of_ble_eq_true rfl⟩) (by rw [hKR]; exact ⟨Nat.le_of_ble_eq_true rfl, Nat.le_of_ble_eq_true rfl⟩) rfl rfl rfl (Nat.le_of_ble_eq_true rfl) dX7_viewHash_14 rfl (fun r14 D14 P14 hp14 => ?_) 
  obtain ⟨rfl, rfl, rfl⟩ := hp14
  refine pv_aload_n (q := 18) C dX7_viewHash_17 rfl rfl rfl ?_ 
  refine pg_7_1 (q := 21) C k6 tw_996 dX7_viewHash_18 rfl (fun k18 => ?_) 
  refine pv_iload_n (q := 22) C dX7_viewHash_21 rfl rfl rfl ?_ 
  refine pv_callSi (q := 25) C hKl (c_X7_base l X D P v) tw_1093 mm_X7_base ⟨rfl, rfl⟩ (by rw [hKR]; exact ⟨Nat.le_of_ble_eq_true rfl, Nat.le_of_ble_eq_true rfl⟩) (by rw [hKR]; exact ⟨Nat.le_of_ble_eq_true rfl, Nat.le_of_ble_eq_true rfl⟩) rfl rfl rfl (Nat.le_of_ble_eq_true rfl) dX7_viewHash_22 rfl (fun r22 D22 P22 hp22 => ?_) 
  obtain ⟨rfl, rfl, rfl⟩ := hp22
  refine pv_bipush (q := 27) (v := 33) C dX7_viewHash_25 rfl (by decide) ?_ 
  refine pv_iaddN (q := 28) (a := (32 + 38 * v)) (b := 33) C rfl rfl dX7_viewHash_27 rfl ?_ 
  refine pv_iald (q := 29) (j := ((32 + 38 * v) + 33)) C (iln_15 k18) rfl (by omega) dX7_viewHash_28 rfl ?_ 
  refine pv_i2l (q := 30) C dX7_viewHash_29 rfl ?_ 
  refine pv_callSl (q := 33) C hKl (c_X7_mix l X D P _ _) tw_1458 mm_X7_mix ⟨rfl, rfl⟩ (by rw [hKR]; exact ⟨Nat.le_of_ble_eq_true rfl, Nat.le_of_ble_eq_true rfl⟩) (by rw [hKR]; exact ⟨Nat.le_of_ble_eq_true rfl, Nat.le_of_ble_eq_true rfl⟩) rfl rfl rfl (Nat.le_of_ble_eq_true rfl) dX7_viewHash_30 rfl (fun r30 D30 P30 hp30 => ?_) 
  obtain ⟨rfl, rfl, rfl⟩ := hp30
  refine pv_lstore (q := 35) C dX7_viewHash_33 rfl (Nat.le_of_ble_eq_true rfl) rfl ?_ 
  refine pv_lload (q := 37) C dX7_viewHash_35 rfl rfl ?_ 
  refine pv_aload_n (q := 38) C dX7_viewHash_37 rfl rfl rfl ?_ 
  refine pg_7_1 (q := 41) C k6 tw_996 dX7_viewHash_38 rfl (fun k38 => ?_) 
  refine pv_iload_n (q := 42) C dX7_viewHash_41 rfl rfl rfl ?_ 
  refine pv_callSi (q := 45) C hKl (c_X7_base l X D P v) tw_1093 mm_X7_base ⟨rfl, rfl⟩ (by rw [hKR]; exact ⟨Nat.le_of_ble_eq_true rfl, Nat.le_of_ble_eq_true rfl⟩) (by rw [hKR]; exact ⟨Nat.le_of_ble_eq_true rfl, Nat.le_of_ble_eq_true rfl⟩) rfl rfl rfl (Nat.le_of_ble_eq_true rfl) dX7_viewHash_42 rfl (fun r42 D42 P42 hp42 => ?_) 
  obtain ⟨rfl, rfl, rfl⟩ := hp42
  refine pv_bipush (q := 47) (v := 34) C dX7_viewHash_45 rfl (by decide) ?_ 
  refine pv_iaddN (q := 48) (a := (32 + 38 * v)) (b := 34) C rfl rfl dX7_viewHash_47 rfl ?_ 
  refine pv_iald (q := 49) (j := ((32 + 38 * v) + 34)) C (iln_15 k38) rfl (by omega) dX7_viewHash_48 rfl ?_ 
  refine pv_i2l (q := 50) C dX7_viewHash_49 rfl ?_ 
  refine pv_callSl (q := 53) C hKl (c_X7_mix l X D P _ _) tw_1458 mm_X7_mix ⟨rfl, rfl⟩ (by rw [hKR]; exact ⟨Nat.le_of_ble_eq_true rfl, Nat.le_of_ble_eq_true rfl⟩) (by rw [hKR]; exact ⟨Nat.le_of_ble_eq_true rfl, Nat.le_of_ble_eq_true rfl⟩) rfl rfl rfl (Nat.le_of_ble_eq_true rfl) dX7_viewHash_50 rfl (fun r50 D50 P50 hp50 => ?_) 
  obtain ⟨rfl, rfl, rfl⟩ := hp50
  refine pv_aload_n (q := 54) C dX7_viewHash_53 rfl rfl rfl ?_ 
  refine pv_iload_n (q := 55) C dX7_viewHash_54 rfl rfl rfl ?_ 
  refine pv_callVi (q := 58) C hKl (c_X7_waits l X D P _ (by omega)) tw_1100 k6 (by decide) rfl mm_X7_waits ⟨rfl, rfl⟩ (by rw [hKR]; exact ⟨Nat.le_of_ble_eq_true rfl, Nat.le_of_ble_eq_true rfl⟩) (by rw [hKR]; exact ⟨Nat.le_of_ble_eq_true rfl, Nat.le_of_ble_eq_true rfl⟩) rfl rfl rfl (Nat.le_of_ble_eq_true rfl) dX7_viewHash_55 rfl (fun r55 D55 P55 hp55 => ?_) 
  obtain ⟨rfl, rfl, rfl⟩ := hp55
  refine pv_i2l (q := 59) C dX7_viewHash_58 rfl ?_ 
  refine pv_callSl (q := 62) C hKl (c_X7_mix l X D P _ _) tw_1458 mm_X7_mix ⟨rfl, rfl⟩ (by rw [hKR]; exact ⟨Nat.le_of_ble_eq_true rfl, Nat.le_of_ble_eq_true rfl⟩) (by rw [hKR]; exact ⟨Nat.le_of_ble_eq_true rfl, Nat.le_of_ble_eq_true rfl⟩) rfl rfl rfl (Nat.le_of_ble_eq_true rfl) dX7_viewHash_59 rfl (fun r59 D59 P59 hp59 => ?_) 
  obtain ⟨rfl, rfl, rfl⟩ := hp59
  refine pv_lstore (q := 64) C dX7_viewHash_62 rfl (Nat.le_of_ble_eq_true rfl) rfl ?_ 
  refine pv_lload (q := 66) C dX7_viewHash_64 rfl rfl ?_ 
  refine pv_aload_n (q := 67) C dX7_viewHash_66 rfl rfl rfl ?_ 
  refine pv_iload_n (q := 68) C dX7_viewHash_67 rfl rfl rfl ?_ 
  refine pv_callVi (q := 71) C hKl (c_X7_waits l X D P _ (by omega)) tw_1100 k6 (by decide) rfl mm_X7_waits ⟨rfl, rfl⟩ (by rw [hKR]; exact ⟨Nat.le_of_ble_eq_true rfl, Nat.le_of_ble_eq_true rfl⟩) (by rw [hKR]; exact ⟨Nat.le_of_ble_eq_true rfl, Nat.le_of_ble_eq_true rfl⟩) rfl rfl rfl (Nat.le_of_ble_eq_true rfl) dX7_viewHash_68 rfl (fun r68 D68 P68 hp68 => ?_) 
  obtain ⟨rfl, rfl, rfl⟩ := hp68
  refine pv_i2l (q := 72) C dX7_viewHash_71 rfl ?_ 
  refine pv_callSl (q := 75) C hKl (c_X7_mix l X D P _ _) tw_1458 mm_X7_mix ⟨rfl, rfl⟩ (by rw [hKR]; exact ⟨Nat.le_of_ble_eq_true rfl, Nat.le_of_ble_eq_true rfl⟩) (by rw [hKR]; exact ⟨Nat.le_of_ble_eq_true rfl, Nat.le_of_ble_eq_true rfl⟩) rfl rfl rfl (Nat.le_of_ble_eq_true rfl) dX7_viewHash_72 rfl (fun r72 D72 P72 hp72 => ?_) 
  obtain ⟨rfl, rfl, rfl⟩ := hp72
  refine pv_aload_n (q := 76) C dX7_viewHash_75 rfl rfl rfl ?_ 
  refine pv_iload_n (q := 77) C dX7_viewHash_76 rfl rfl rfl ?_ 
  refine pv_callVi (q := 80) C hKl (c_X7_weighty l X D P _ hv row h7 hse) tw_1328 k6 (by decide) rfl mm_X7_weighty ⟨rfl, rfl⟩ (by rw [hKR]; exact ⟨Nat.le_of_ble_eq_true rfl, Nat.le_of_ble_eq_true rfl⟩) (by rw [hKR]; exact ⟨Nat.le_of_ble_eq_true rfl, Nat.le_of_ble_eq_true rfl⟩) rfl rfl rfl (Nat.le_of_ble_eq_true rfl) dX7_viewHash_77 rfl (fun r77 D77 P77 hp77 => ?_) 
  obtain ⟨rfl, rfl, rfl⟩ := hp77
  refine pv_i2l (q := 81) C dX7_viewHash_80 rfl ?_ 
  refine pv_callSl (q := 84) C hKl (c_X7_mix l X D P _ _) tw_1458 mm_X7_mix ⟨rfl, rfl⟩ (by rw [hKR]; exact ⟨Nat.le_of_ble_eq_true rfl, Nat.le_of_ble_eq_true rfl⟩) (by rw [hKR]; exact ⟨Nat.le_of_ble_eq_true rfl, Nat.le_of_ble_eq_true rfl⟩) rfl rfl rfl (Nat.le_of_ble_eq_true rfl) dX7_viewHash_81 rfl (fun r81 D81 P81 hp81 => ?_) 
  obtain ⟨rfl, rfl, rfl⟩ := hp81
  refine pv_lstore (q := 86) C dX7_viewHash_84 rfl (Nat.le_of_ble_eq_true rfl) rfl ?_ 
  refine pv_lload (q := 88) C dX7_viewHash_86 rfl rfl ?_ 
  refine pv_aload_n (q := 89) C dX7_viewHash_88 rfl rfl rfl ?_ 
  refine pv_iload_n (q := 90) C dX7_viewHash_89 rfl rfl rfl ?_ 
  refine pv_callVi (q := 93) C hKl (c_X7_unlike l X D P _ hv row h7) tw_1429 k6 (by decide) rfl mm_X7_unlike ⟨rfl, rfl⟩ (by rw [hKR]; exact ⟨Nat.le_of_ble_eq_true rfl, Nat.le_of_ble_eq_true rfl⟩) (by rw [hKR]; exact ⟨Nat.le_of_ble_eq_true rfl, Nat.le_of_ble_eq_true rfl⟩) rfl rfl rfl (Nat.le_of_ble_eq_true rfl) dX7_viewHash_90 rfl (fun r90 D90 P90 hp90 => ?_) 
  obtain ⟨rfl, hS90, rfl⟩ := hp90
  refine pv_i2l (q := 94) C dX7_viewHash_93 rfl ?_ 
  refine pv_callSl (q := 97) C hKl (c_X7_mix l X D90 P _ _) tw_1458 mm_X7_mix ⟨rfl, rfl⟩ (by rw [hKR]; exact ⟨Nat.le_of_ble_eq_true rfl, Nat.le_of_ble_eq_true rfl⟩) (by rw [hKR]; exact ⟨Nat.le_of_ble_eq_true rfl, Nat.le_of_ble_eq_true rfl⟩) rfl rfl rfl (Nat.le_of_ble_eq_true rfl) dX7_viewHash_94 rfl (fun r94 D94 P94 hp94 => ?_) 
  obtain ⟨rfl, rfl, rfl⟩ := hp94
  refine pv_lconst (q := 98) (v := 0) C dX7_viewHash_97 rfl (by decide) ?_ 
  refine pv_callSl (q := 101) C hKl (c_X7_mix l X D90 P _ _) tw_1458 mm_X7_mix ⟨rfl, rfl⟩ (by rw [hKR]; exact ⟨Nat.le_of_ble_eq_true rfl, Nat.le_of_ble_eq_true rfl⟩) (by rw [hKR]; exact ⟨Nat.le_of_ble_eq_true rfl, Nat.le_of_ble_eq_true rfl⟩) rfl rfl rfl (Nat.le_of_ble_eq_true rfl) dX7_viewHash_98 rfl (fun r98 D98 P98 hp98 => ?_) 
  obtain ⟨rfl, rfl, rfl⟩ := hp98
  refine pv_aload_n (q := 102) C dX7_viewHash_101 rfl rfl rfl ?_ 
  refine pv_iload_n (q := 103) C dX7_viewHash_102 rfl rfl rfl ?_ 
  refine pv_callVi (q := 106) C hKl (c_X7_wakes l X D90 P _ hv) tw_1441 k6 (by decide) rfl mm_X7_wakes ⟨rfl, rfl⟩ (by rw [hKR]; exact ⟨Nat.le_of_ble_eq_true rfl, Nat.le_of_ble_eq_true rfl⟩) (by rw [hKR]; exact ⟨Nat.le_of_ble_eq_true rfl, Nat.le_of_ble_eq_true rfl⟩) rfl rfl rfl (Nat.le_of_ble_eq_true rfl) dX7_viewHash_103 rfl (fun r103 D103 P103 hp103 => ?_) 
  obtain ⟨rfl, rfl, rfl⟩ := hp103
  refine pv_i2l (q := 107) C dX7_viewHash_106 rfl ?_ 
  refine pv_callSl (q := 110) C hKl (c_X7_mix l X D90 P _ _) tw_1458 mm_X7_mix ⟨rfl, rfl⟩ (by rw [hKR]; exact ⟨Nat.le_of_ble_eq_true rfl, Nat.le_of_ble_eq_true rfl⟩) (by rw [hKR]; exact ⟨Nat.le_of_ble_eq_true rfl, Nat.le_of_ble_eq_true rfl⟩) rfl rfl rfl (Nat.le_of_ble_eq_true rfl) dX7_viewHash_107 rfl (fun r107 D107 P107 hp107 => ?_) 
  obtain ⟨rfl, rfl, rfl⟩ := hp107
  refine pv_lstore (q := 112) C dX7_viewHash_110 rfl (Nat.le_of_ble_eq_true rfl) rfl ?_ 
  refine pv_iconst (q := 113) (v := 0) C dX7_viewHash_112 rfl (by decide) ?_ 
  refine pv_istore (q := 115) C dX7_viewHash_113 rfl (Nat.le_of_ble_eq_true rfl) rfl ?_ 
  have loop_115 : ∀ (nn : Nat) (g : Nat) (x : Int64) (D1 : DT), (5 ≤ g + nn) → g ≤ 4 → x = vH h row v g → Sz D D1 → PV K X (MK K X (qL X (fun r D' P' => r = vH h row v 4 ∧ Sz D D' ∧ P = P')) 0 0) (0) (0) 115 [some (.ref (X.2.2 6)), some (.long h), none, some (.int (nI v)), some (.long x), none, some (.int (nI g))] [] D1 P := by
    intro nn
    induction nn with
    | zero =>
      intro g x D1 hfuel hg hx hS
      exact absurd hfuel (by omega)
    | succ nn ih =>
      intro g x D1 hfuel hg hx hS
      refine pv_iload (q := 117) C dX7_viewHash_115 rfl rfl ?_ 
      refine pv_iconst (q := 118) (v := 4) C dX7_viewHash_117 rfl (by decide) ?_ 
      refine pv_icmp_geN (q := 121) (tgt := 138) (a := g) (b := 4) C rfl rfl (by omega) (by omega) dX7_viewHash_118 (by decide) rfl (fun c_118 => ?_) (fun c_118 => ?_) 
      · refine pv_lload (q := 140) C dX7_viewHash_138 rfl rfl ?_
        exact pv_lret C (⟨by rw [hx, show g = 4 by omega], hS, rfl⟩) (by decide) (by decide) dX7_viewHash_140
      · refine pv_aload_n (q := 122) C dX7_viewHash_121 rfl rfl rfl ?_
        refine pv_lload (q := 124) C dX7_viewHash_122 rfl rfl ?_ 
        refine pv_iload_n (q := 125) C dX7_viewHash_124 rfl rfl rfl ?_ 
        refine pv_iload (q := 127) C dX7_viewHash_125 rfl rfl ?_ 
        refine pv_callVl (q := 130) C hKl (c_X7_groupHash l X D1 P _ _ _ hv (by omega) row (hS.r7.trans h7)) tw_1466 k6 (by decide) rfl mm_X7_groupHash ⟨rfl, rfl⟩ (by rw [hKR]; exact ⟨Nat.le_of_ble_eq_true rfl, Nat.le_of_ble_eq_true rfl⟩) (by rw [hKR]; exact ⟨Nat.le_of_ble_eq_true rfl, Nat.le_of_ble_eq_true rfl⟩) rfl rfl rfl (Nat.le_of_ble_eq_true rfl) dX7_viewHash_127 rfl (fun r127 D127 P127 hp127 => ?_) 
        obtain ⟨rfl, hS127, rfl⟩ := hp127
        refine pv_lstore (q := 132) C dX7_viewHash_130 rfl (Nat.le_of_ble_eq_true rfl) rfl ?_ 
        refine pv_iinc (q := 135) (v := nI (g + 1)) C dX7_viewHash_132 rfl rfl (nI_add _ _) rfl ?_ 
        refine pv_goto (tgt := 115) C dX7_viewHash_135 (by decide) ?_ 
        exact ih (g + 1) _ D127 (by omega) (by omega) (by show _ = gH (vH h row v g) row v g; rw [hx]) (hS.tr hS127)
  exact loop_115 5 0 _ D90 (by omega) (by omega) (by
    show _ = vH0 h row v
    unfold vH0
    rw [hS90.r7, ← h7]) hS90
