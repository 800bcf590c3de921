theorem rg_kv {v : Int32} (h : kView v = 0) : ∃ k, k < 3 ∧ v = nI k := by
  unfold kView at h
  split at h
  · rename_i q; exact rg3 q
  · exact absurd h (by decide)
theorem rg_kr {row : Nat → Int32} {p : Int32} (h : kRow row p = 0) : ∃ k, k < 16 ∧ p = nI k ∧ ¬ row k = 0 := by
  unfold kRow at h
  split at h
  · rename_i q
    obtain ⟨k, hk, rfl⟩ := rg16 q
    rw [ix_n (by omega)] at h
    split at h
    · exact absurd h (by decide)
    · rename_i z; exact ⟨k, hk, rfl, z⟩
  · exact absurd h (by decide)
theorem up2_as (D : DT) (i k : Nat) (v : Int32) : up2 D i k v = va_up D i (va_up (D i) k v) := rfl
set_option maxRecDepth 100000 in
set_option maxHeartbeats 4000000 in
theorem c_X7_save (l : Launch) (X : XT) (D : DT) (P : PT) (hs : sok D)  : CG l X yX7_save (.code yX7_save cX7_save 2 none :: AW) ({ frames := 0, cells := 0, slots := 0, locals := 0 } : Room) [.ref (X.2.2 6)] (qV X (fun D' P' => D' = m_save D ∧ P = P')) D P 0 0 := by
  refine cg_of (by decide +kernel) (Nat.le_of_ble_eq_true rfl) ?_
  intro K hKl hKR C
  refine PV_lv (lv' := [some (.ref (X.2.2 6)), none]) rfl ?_
  obtain ⟨s, hs5, h3⟩ := hs
  refine pv_aload_n (q := 1) C dX7_save_0 rfl rfl rfl ?_ 
  refine pg_7_3 (q := 4) C k6 tw_998 dX7_save_1 rfl ?_ 
  rw [h3]
  refine pv_iconst (q := 5) (v := 5) C dX7_save_4 rfl (by decide) ?_ 
  refine pv_icmp_neN (q := 8) (tgt := 49) (a := s) (b := 5) C rfl rfl (by omega) (by omega) dX7_save_5 (by decide) rfl (fun c_5 => ?_) (fun c_5 => ?_) 
  · refine pv_iconst (q := 50) (v := 0) C dX7_save_49 rfl (by decide) ?_
    refine pv_istore_n (q := 51) C dX7_save_50 rfl rfl (Nat.le_of_ble_eq_true rfl) rfl ?_ 
    have hm : D 6 3 = nI (min s 4) := by first | exact h3.trans (congrArg nI (by omega)) | (rw [hD46, up2_self]; exact congrArg nI (by omega))
    have h7 : D 7 = D 7 := by first | rfl | (rw [hD46]; rfl)
    have h8 : ∀ j, D 8 j = if s = 5 ∧ j < 736 then D 8 (184 + j) else D 8 j := by
      intro j
      first
      | (rw [if_neg (by omega)]; done)
      | (rw [hD46, up2_ne _ _ _ (by omega), va_up_self, hg]
         by_cases q : j < 736
         · rw [if_pos (by omega), if_pos (by omega)]
         · rw [if_neg (by omega), if_neg (by omega)])
    have hO : ∀ j, j ≠ 6 → j ≠ 8 → D j = D j := by intro j a b; first | rfl | (rw [hD46, up2_ne _ _ _ a, va_up_ne _ _ b])
    have h6 : ∀ j, j ≠ 3 → D 6 j = D 6 j := by intro j a; first | rfl | (rw [hD46, up2_nk _ _ _ a, va_up_ne _ _ (by omega)])
    have loop_51 : ∀ (nn : Nat) (k : Nat) (g : Nat → Int32), (185 ≤ k + nn) → k ≤ 184 → (∀ j, g j = if 184 * min s 4 ≤ j ∧ j < 184 * min s 4 + k then D 7 (j - 184 * min s 4) else D 8 j) → PV K X (MK K X (qV X (fun D' P' => D' = m_save D ∧ P = P')) 0 0) (0) (0) 51 [some (.ref (X.2.2 6)), some (.int (nI k))] [] (va_up D 8 g) P := by
      intro nn
      induction nn with
      | zero =>
        intro k g hfuel hk hg
        exact absurd hfuel (by omega)
      | succ nn ih =>
        intro k g hfuel hk hg
        refine pv_iload_n (q := 52) C dX7_save_51 rfl rfl rfl ?_ 
        refine pv_sipush (q := 55) (v := 184) C dX7_save_52 rfl (by decide) ?_ 
        refine pv_icmp_geN (q := 58) (tgt := 85) (a := k) (b := 184) C rfl rfl (by omega) (by omega) dX7_save_55 (by decide) rfl (fun c_55 => ?_) (fun c_55 => ?_) 
        · refine pv_aload_n (q := 86) C dX7_save_85 rfl rfl rfl ?_
          refine pv_dup (q := 87) C dX7_save_86 rfl rfl ?_ 
          refine pg_7_3 (q := 90) C k6 tw_998 dX7_save_87 rfl ?_ 
          rw [show (va_up D 8 g) 6 3 = nI (min s 4) from hm]
          refine pv_iconst (q := 91) (v := 1) C dX7_save_90 rfl (by decide) ?_ 
          refine pv_iaddN (q := 92) (a := (min s 4)) (b := 1) C rfl rfl dX7_save_91 rfl ?_ 
          refine pp_7_3 (q := 95) C k6 tw_998 dX7_save_92 rfl (fun D92 hD92 => ?_) 
          exact pv_vret C (by
              have ek : k = 184 := by omega
              subst ek
              refine ⟨?_, rfl⟩
              unfold m_save
              rw [h3, ix_n (by omega), hD92]
              funext i
              by_cases e6 : i = 6
              · subst e6
                funext j
                by_cases e3 : j = 3
                · subst e3; rw [up2_self, up2_self]
                · rw [up2_nk _ _ _ e3, up2_nk _ _ _ e3]; exact h6 j e3
              · rw [up2_ne _ _ _ e6, up2_ne _ _ _ e6]
                by_cases e8 : i = 8
                · subst e8
                  rw [va_up_self, va_up_self]
                  funext j
                  unfold m_book
                  rw [hg]
                  by_cases q : 184 * min s 4 ≤ j ∧ j < 184 * min s 4 + 184
                  · rw [if_pos q, if_pos q]
                  · rw [if_neg q, if_neg q]; exact h8 j
                · exact (va_up_ne _ _ e8).trans ((hO i e6 e8).trans (va_up_ne _ _ e8).symm)) (by decide) (by decide) dX7_save_95
        · refine pv_aload_n (q := 59) C dX7_save_58 rfl rfl rfl ?_
          refine pg_7_2 (q := 62) C k6 tw_997 dX7_save_59 rfl (fun k59 => ?_) 
          refine pv_sipush (q := 65) (v := 184) C dX7_save_62 rfl (by decide) ?_ 
          refine pv_aload_n (q := 66) C dX7_save_65 rfl rfl rfl ?_ 
          refine pg_7_3 (q := 69) C k6 tw_998 dX7_save_66 rfl ?_ 
          rw [show (va_up D 8 g) 6 3 = nI (min s 4) from hm]
          refine pv_imulN (q := 70) (a := 184) (b := (min s 4)) C rfl rfl dX7_save_69 rfl ?_ 
          refine pv_iload_n (q := 71) C dX7_save_70 rfl rfl rfl ?_ 
          refine pv_iaddN (q := 72) (a := (184 * (min s 4))) (b := k) C rfl rfl dX7_save_71 rfl ?_ 
          refine pv_aload_n (q := 73) C dX7_save_72 rfl rfl rfl ?_ 
          refine pg_7_1 (q := 76) C k6 tw_996 dX7_save_73 rfl (fun k73 => ?_) 
          refine pv_iload_n (q := 77) C dX7_save_76 rfl rfl rfl ?_ 
          refine pv_iald (q := 78) (j := k) C (iln_15 k73) rfl (by omega) dX7_save_77 rfl ?_ 
          refine pv_iast (q := 79) (j := ((184 * (min s 4)) + k)) C (iln_16 k59) rfl (by omega) dX7_save_78 rfl (fun D78 hD78 => ?_) 
          refine pv_iinc (q := 82) (v := nI (k + 1)) C dX7_save_79 rfl rfl (nI_add _ _) rfl ?_ 
          refine pv_goto (tgt := 51) C dX7_save_82 (by decide) ?_ 
          rw [up2_va] at hD78
          subst hD78
          exact ih (k + 1) _ (by omega) (by omega) (fun j => by
            by_cases e : j = 184 * min s 4 + k
            · subst e
              rw [va_up_self, if_pos (by omega), Nat.add_sub_cancel_left, ← h7]
              rfl
            · rw [va_up_ne _ _ e, hg]
              by_cases q : 184 * min s 4 ≤ j ∧ j < 184 * min s 4 + k
              · rw [if_pos q, if_pos (by omega)]
              · rw [if_neg q, if_neg (by omega)])
    refine PV_D (va_id D 8).symm ?_
    exact loop_51 185 0 (D 8) (by omega) (by omega) (fun j => by rw [if_neg (by omega)])
  · refine pv_iconst (q := 9) (v := 0) C dX7_save_8 rfl (by decide) ?_
    refine pv_istore_n (q := 10) C dX7_save_9 rfl rfl (Nat.le_of_ble_eq_true rfl) rfl ?_ 
    have loop_10 : ∀ (nn : Nat) (k : Nat) (g : Nat → Int32), (737 ≤ k + nn) → k ≤ 736 → (∀ j, g j = if j < k then D 8 (184 + j) else D 8 j) → PV K X (MK K X (qV X (fun D' P' => D' = m_save D ∧ P = P')) 0 0) (0) (0) 10 [some (.ref (X.2.2 6)), some (.int (nI k))] [] (va_up D 8 g) P := by
      intro nn
      induction nn with
      | zero =>
        intro k g hfuel hk hg
        exact absurd hfuel (by omega)
      | succ nn ih =>
        intro k g hfuel hk hg
        refine pv_iload_n (q := 11) C dX7_save_10 rfl rfl rfl ?_ 
        refine pv_sipush (q := 14) (v := 736) C dX7_save_11 rfl (by decide) ?_ 
        refine pv_icmp_geN (q := 17) (tgt := 39) (a := k) (b := 736) C rfl rfl (by omega) (by omega) dX7_save_14 (by decide) rfl (fun c_14 => ?_) (fun c_14 => ?_) 
        · refine pv_aload_n (q := 40) C dX7_save_39 rfl rfl rfl ?_
          refine pv_dup (q := 41) C dX7_save_40 rfl rfl ?_ 
          refine pg_7_3 (q := 44) C k6 tw_998 dX7_save_41 rfl ?_ 
          rw [show (va_up D 8 g) 6 3 = nI s from h3]
          refine pv_iconst (q := 45) (v := 1) C dX7_save_44 rfl (by decide) ?_ 
          refine pv_isubN (q := 46) (a := s) (b := 1) C rfl rfl (by omega) dX7_save_45 rfl ?_ 
          refine pp_7_3 (q := 49) C k6 tw_998 dX7_save_46 rfl (fun D46 hD46 => ?_) 
          refine pv_iconst (q := 50) (v := 0) C dX7_save_49 rfl (by decide) ?_ 
          refine pv_istore_n (q := 51) C dX7_save_50 rfl rfl (Nat.le_of_ble_eq_true rfl) rfl ?_ 
          have hm : D46 6 3 = nI (min s 4) := by first | exact h3.trans (congrArg nI (by omega)) | (rw [hD46, up2_self]; exact congrArg nI (by omega))
          have h7 : D46 7 = D 7 := by first | rfl | (rw [hD46]; rfl)
          have h8 : ∀ j, D46 8 j = if s = 5 ∧ j < 736 then D 8 (184 + j) else D 8 j := by
            intro j
            first
            | (rw [if_neg (by omega)]; done)
            | (rw [hD46, up2_ne _ _ _ (by omega), va_up_self, hg]
               by_cases q : j < 736
               · rw [if_pos (by omega), if_pos (by omega)]
               · rw [if_neg (by omega), if_neg (by omega)])
          have hO : ∀ j, j ≠ 6 → j ≠ 8 → D46 j = D j := by intro j a b; first | rfl | (rw [hD46, up2_ne _ _ _ a, va_up_ne _ _ b])
          have h6 : ∀ j, j ≠ 3 → D46 6 j = D 6 j := by intro j a; first | rfl | (rw [hD46, up2_nk _ _ _ a, va_up_ne _ _ (by omega)])
          have loop_51 : ∀ (nn : Nat) (k : Nat) (g : Nat → Int32), (185 ≤ k + nn) → k ≤ 184 → (∀ j, g j = if 184 * min s 4 ≤ j ∧ j < 184 * min s 4 + k then D 7 (j - 184 * min s 4) else D46 8 j) → PV K X (MK K X (qV X (fun D' P' => D' = m_save D ∧ P = P')) 0 0) (0) (0) 51 [some (.ref (X.2.2 6)), some (.int (nI k))] [] (va_up D46 8 g) P := by
            intro nn
            induction nn with
            | zero =>
              intro k g hfuel hk hg
              exact absurd hfuel (by omega)
            | succ nn ih =>
              intro k g hfuel hk hg
              refine pv_iload_n (q := 52) C dX7_save_51 rfl rfl rfl ?_ 
              refine pv_sipush (q := 55) (v := 184) C dX7_save_52 rfl (by decide) ?_ 
              refine pv_icmp_geN (q := 58) (tgt := 85) (a := k) (b := 184) C rfl rfl (by omega) (by omega) dX7_save_55 (by decide) rfl (fun c_55 => ?_) (fun c_55 => ?_) 
              · refine pv_aload_n (q := 86) C dX7_save_85 rfl rfl rfl ?_
                refine pv_dup (q := 87) C dX7_save_86 rfl rfl ?_ 
                refine pg_7_3 (q := 90) C k6 tw_998 dX7_save_87 rfl ?_ 
                rw [show (va_up D46 8 g) 6 3 = nI (min s 4) from hm]
                refine pv_iconst (q := 91) (v := 1) C dX7_save_90 rfl (by decide) ?_ 
                refine pv_iaddN (q := 92) (a := (min s 4)) (b := 1) C rfl rfl dX7_save_91 rfl ?_ 
                refine pp_7_3 (q := 95) C k6 tw_998 dX7_save_92 rfl (fun D92 hD92 => ?_) 
                exact pv_vret C (by
                    have ek : k = 184 := by omega
                    subst ek
                    refine ⟨?_, rfl⟩
                    unfold m_save
                    rw [h3, ix_n (by omega), hD92]
                    funext i
                    by_cases e6 : i = 6
                    · subst e6
                      funext j
                      by_cases e3 : j = 3
                      · subst e3; rw [up2_self, up2_self]
                      · rw [up2_nk _ _ _ e3, up2_nk _ _ _ e3]; exact h6 j e3
                    · rw [up2_ne _ _ _ e6, up2_ne _ _ _ e6]
                      by_cases e8 : i = 8
                      · subst e8
                        rw [va_up_self, va_up_self]
                        funext j
                        unfold m_book
                        rw [hg]
                        by_cases q : 184 * min s 4 ≤ j ∧ j < 184 * min s 4 + 184
                        · rw [if_pos q, if_pos q]
                        · rw [if_neg q, if_neg q]; exact h8 j
                      · exact (va_up_ne _ _ e8).trans ((hO i e6 e8).trans (va_up_ne _ _ e8).symm)) (by decide) (by decide) dX7_save_95
              · refine pv_aload_n (q := 59) C dX7_save_58 rfl rfl rfl ?_
                refine pg_7_2 (q := 62) C k6 tw_997 dX7_save_59 rfl (fun k59 => ?_) 
                refine pv_sipush (q := 65) (v := 184) C dX7_save_62 rfl (by decide) ?_ 
                refine pv_aload_n (q := 66) C dX7_save_65 rfl rfl rfl ?_ 
                refine pg_7_3 (q := 69) C k6 tw_998 dX7_save_66 rfl ?_ 
                rw [show (va_up D46 8 g) 6 3 = nI (min s 4) from hm]
                refine pv_imulN (q := 70) (a := 184) (b := (min s 4)) C rfl rfl dX7_save_69 rfl ?_ 
                refine pv_iload_n (q := 71) C dX7_save_70 rfl rfl rfl ?_ 
                refine pv_iaddN (q := 72) (a := (184 * (min s 4))) (b := k) C rfl rfl dX7_save_71 rfl ?_ 
                refine pv_aload_n (q := 73) C dX7_save_72 rfl rfl rfl ?_ 
                refine pg_7_1 (q := 76) C k6 tw_996 dX7_save_73 rfl (fun k73 => ?_) 
                refine pv_iload_n (q := 77) C dX7_save_76 rfl rfl rfl ?_ 
                refine pv_iald (q := 78) (j := k) C (iln_15 k73) rfl (by omega) dX7_save_77 rfl ?_ 
                refine pv_iast (q := 79) (j := ((184 * (min s 4)) + k)) C (iln_16 k59) rfl (by omega) dX7_save_78 rfl (fun D78 hD78 => ?_) 
                refine pv_iinc (q := 82) (v := nI (k + 1)) C dX7_save_79 rfl rfl (nI_add _ _) rfl ?_ 
                refine pv_goto (tgt := 51) C dX7_save_82 (by decide) ?_ 
                rw [up2_va] at hD78
                subst hD78
                exact ih (k + 1) _ (by omega) (by omega) (fun j => by
                  by_cases e : j = 184 * min s 4 + k
                  · subst e
                    rw [va_up_self, if_pos (by omega), Nat.add_sub_cancel_left, ← h7]
                    rfl
                  · rw [va_up_ne _ _ e, hg]
                    by_cases q : 184 * min s 4 ≤ j ∧ j < 184 * min s 4 + k
                    · rw [if_pos q, if_pos (by omega)]
                    · rw [if_neg q, if_neg (by omega)])
          refine PV_D (va_id D46 8).symm ?_
          exact loop_51 185 0 (D46 8) (by omega) (by omega) (fun j => by rw [if_neg (by omega)])
        · refine pv_aload_n (q := 18) C dX7_save_17 rfl rfl rfl ?_
          refine pg_7_2 (q := 21) C k6 tw_997 dX7_save_18 rfl (fun k18 => ?_) 
          refine pv_iload_n (q := 22) C dX7_save_21 rfl rfl rfl ?_ 
          refine pv_aload_n (q := 23) C dX7_save_22 rfl rfl rfl ?_ 
          refine pg_7_2 (q := 26) C k6 tw_997 dX7_save_23 rfl (fun k23 => ?_) 
          refine pv_sipush (q := 29) (v := 184) C dX7_save_26 rfl (by decide) ?_ 
          refine pv_iload_n (q := 30) C dX7_save_29 rfl rfl rfl ?_ 
          refine pv_iaddN (q := 31) (a := 184) (b := k) C rfl rfl dX7_save_30 rfl ?_ 
          refine pv_iald (q := 32) (j := (184 + k)) C (iln_16 k23) rfl (by omega) dX7_save_31 rfl ?_ 
          refine pv_iast (q := 33) (j := k) C (iln_16 k18) rfl (by omega) dX7_save_32 rfl (fun D32 hD32 => ?_) 
          refine pv_iinc (q := 36) (v := nI (k + 1)) C dX7_save_33 rfl rfl (nI_add _ _) rfl ?_ 
          refine pv_goto (tgt := 10) C dX7_save_36 (by decide) ?_ 
          rw [up2_va] at hD32
          subst hD32
          exact ih (k + 1) _ (by omega) (by omega) (fun j => by
            by_cases e : j = k
            · subst e
              rw [va_up_self, va_up_self, hg, if_neg (by omega), if_pos (by omega)]
            · rw [va_up_ne _ _ e, hg]
              by_cases q : j < k
              · rw [if_pos q, if_pos (by omega)]
              · rw [if_neg q, if_neg (by omega)])
    refine PV_D (va_id D 8).symm ?_
    exact loop_10 737 0 (D 8) (by omega) (by omega) (fun j => by rw [if_neg (by omega)])
set_option maxRecDepth 100000 in
set_option maxHeartbeats 4000000 in
theorem c_X7_insert (l : Launch) (X : XT) (D : DT) (P : PT) (place group amount : Int32) (hs : sok D) (hf : fl (D 7)) (hd : dl (D 7) 1)  : CG l X yX7_insert (.code yX7_insert cX7_insert 5 (some .int) :: AW) ({ frames := 5, cells := 0, slots := 0, locals := 180 } : Room) [.ref (X.2.2 6), .int place, .int group, .int amount] (qI X (fun r D' P' => mr (kIns (D 7) place group amount) (nI (tk (m_ins (D 7) (ix place) group amount))) D (va_up (m_save (clr D)) 7 (m_ins (D 7) (ix place) group amount)) r D' ∧ P = P')) D P 0 0 := by
  refine cg_of (by decide +kernel) (Nat.le_of_ble_eq_true rfl) ?_
  intro K hKl hKR C
  refine PV_lv (lv' := [some (.ref (X.2.2 6)), some (.int place), some (.int group), some (.int amount), none]) rfl ?_
  refine pv_iload_n (q := 1) C dX7_insert_0 rfl rfl rfl ?_ 
  refine pv_callSi (q := 4) C hKl (c_X7_isPlace l X D P _) tw_1049 mm_X7_isPlace ⟨rfl, rfl⟩ (by rw [hKR]; exact ⟨Nat.le_of_ble_eq_true rfl, Nat.le_of_ble_eq_true rfl⟩) (by rw [hKR]; exact ⟨Nat.le_of_ble_eq_true rfl, Nat.le_of_ble_eq_true rfl⟩) rfl rfl rfl (Nat.le_of_ble_eq_true rfl) dX7_insert_1 rfl (fun r1 D1 P1 hp1 => ?_) 
  rcases hp1 with ⟨⟨hy1, rfl⟩ | ⟨hn1, rfl⟩, rfl, rfl⟩
  · obtain ⟨p, hp, rfl⟩ := rg16 hy1
    refine pv_if_eq (q := 7) (tgt := 18) C dX7_insert_4 (by decide) rfl (fun h => absurd h (by decide)) (fun _ => ?_) 
    refine pv_iload_n (q := 8) C dX7_insert_7 rfl rfl rfl ?_ 
    refine pv_callSi (q := 11) C hKl (c_X7_isGroup l X D P _) tw_1056 mm_X7_isGroup ⟨rfl, rfl⟩ (by rw [hKR]; exact ⟨Nat.le_of_ble_eq_true rfl, Nat.le_of_ble_eq_true rfl⟩) (by rw [hKR]; exact ⟨Nat.le_of_ble_eq_true rfl, Nat.le_of_ble_eq_true rfl⟩) rfl rfl rfl (Nat.le_of_ble_eq_true rfl) dX7_insert_8 rfl (fun r8 D8 P8 hp8 => ?_) 
    rcases hp8 with ⟨⟨hy8, rfl⟩ | ⟨hn8, rfl⟩, rfl, rfl⟩
    · refine pv_if_eq (q := 14) (tgt := 18) C dX7_insert_11 (by decide) rfl (fun h => absurd h (by decide)) (fun _ => ?_)
      refine pv_iconst (q := 15) (v := 1) C dX7_insert_14 rfl (by decide) ?_ 
      refine pv_goto (tgt := 19) C dX7_insert_15 (by decide) ?_ 
      refine pv_istore (q := 21) C dX7_insert_19 rfl (Nat.le_of_ble_eq_true rfl) rfl ?_ 
      refine pv_aload_n (q := 22) C dX7_insert_21 rfl rfl rfl ?_ 
      refine pv_iload (q := 24) C dX7_insert_22 rfl rfl ?_ 
      refine pv_if_ne (q := 27) (tgt := 31) C dX7_insert_24 (by decide) rfl (fun _ => ?_) (fun h => absurd h (by decide)) 
      refine pv_iload_n (q := 32) C dX7_insert_31 rfl rfl rfl ?_ 
      refine pv_callSi (q := 35) C hKl (c_X7_isAmount l X D P _) tw_1060 mm_X7_isAmount ⟨rfl, rfl⟩ (by rw [hKR]; exact ⟨Nat.le_of_ble_eq_true rfl, Nat.le_of_ble_eq_true rfl⟩) (by rw [hKR]; exact ⟨Nat.le_of_ble_eq_true rfl, Nat.le_of_ble_eq_true rfl⟩) rfl rfl rfl (Nat.le_of_ble_eq_true rfl) dX7_insert_32 rfl (fun r32 D32 P32 hp32 => ?_) 
      rcases hp32 with ⟨⟨hy32, rfl⟩ | ⟨hn32, rfl⟩, rfl, rfl⟩
      · refine pv_if_ne (q := 38) (tgt := 42) C dX7_insert_35 (by decide) rfl (fun _ => ?_) (fun h => absurd h (by decide))
        refine pv_aload_n (q := 43) C dX7_insert_42 rfl rfl rfl ?_ 
        refine pv_iload_n (q := 44) C dX7_insert_43 rfl rfl rfl ?_ 
        refine pv_callVi (q := 47) C hKl (c_X7_vacant l X D P _ (by omega)) tw_1065 k6 (by decide) rfl mm_X7_vacant ⟨rfl, rfl⟩ (by rw [hKR]; exact ⟨Nat.le_of_ble_eq_true rfl, Nat.le_of_ble_eq_true rfl⟩) (by rw [hKR]; exact ⟨Nat.le_of_ble_eq_true rfl, Nat.le_of_ble_eq_true rfl⟩) rfl rfl rfl (Nat.le_of_ble_eq_true rfl) dX7_insert_44 rfl (fun r44 D44 P44 hp44 => ?_) 
        rcases hp44 with ⟨⟨hy44, rfl⟩ | ⟨hn44, rfl⟩, rfl, rfl⟩
        · refine pv_if_ne (q := 50) (tgt := 54) C dX7_insert_47 (by decide) rfl (fun _ => ?_) (fun h => absurd h (by decide))
          refine pv_iconst (q := 55) (v := 0) C dX7_insert_54 rfl (by decide) ?_ 
          refine pv_callVi (q := 58) C hKl (c_X7_refused0 l X D P ) tw_1069 k6 (by decide) rfl mm_X7_refused ⟨rfl, rfl⟩ (by rw [hKR]; exact ⟨Nat.le_of_ble_eq_true rfl, Nat.le_of_ble_eq_true rfl⟩) (by rw [hKR]; exact ⟨Nat.le_of_ble_eq_true rfl, Nat.le_of_ble_eq_true rfl⟩) rfl rfl rfl (Nat.le_of_ble_eq_true rfl) dX7_insert_55 rfl (fun r55 D55 P55 hp55 => ?_) 
          obtain ⟨rfl, hR55, rfl⟩ := hp55
          refine pv_if_eq (q := 61) (tgt := 63) C dX7_insert_58 (by decide) rfl (fun _ => ?_) (fun h => absurd h (by decide)) 
          refine pv_aload_n (q := 64) C dX7_insert_63 rfl rfl rfl ?_ 
          refine pv_callVv (q := 67) C hKl (c_X7_save l X D55 P (by rw [hR55]; exact hs)) tw_1073 k6 (by decide) rfl mm_X7_save ⟨rfl, rfl⟩ (by rw [hKR]; exact ⟨Nat.le_of_ble_eq_true rfl, Nat.le_of_ble_eq_true rfl⟩) (by rw [hKR]; exact ⟨Nat.le_of_ble_eq_true rfl, Nat.le_of_ble_eq_true rfl⟩) rfl rfl rfl (Nat.le_of_ble_eq_true rfl) dX7_insert_64 rfl (fun D64 P64 hp64 => ?_) 
          obtain ⟨hR64, rfl⟩ := hp64
          have r7 : D64 7 = D 7 := by rw [hR64, hR55]; rfl
          refine pv_aload_n (q := 68) C dX7_insert_67 rfl rfl rfl ?_ 
          refine pv_iload_n (q := 69) C dX7_insert_68 rfl rfl rfl ?_ 
          refine pv_iload_n (q := 70) C dX7_insert_69 rfl rfl rfl ?_ 
          refine pv_iload_n (q := 71) C dX7_insert_70 rfl rfl rfl ?_ 
          refine pv_callVi (q := 74) C hKl (c_X7_goInsert l X D64 P _ (by omega) _ _ (by rw [r7]; exact hf) (by rw [r7]; exact hd)) tw_1077 k6 (by decide) rfl mm_X7_goInsert ⟨rfl, rfl⟩ (by rw [hKR]; exact ⟨Nat.le_of_ble_eq_true rfl, Nat.le_of_ble_eq_true rfl⟩) (by rw [hKR]; exact ⟨Nat.le_of_ble_eq_true rfl, Nat.le_of_ble_eq_true rfl⟩) rfl rfl rfl (Nat.le_of_ble_eq_true rfl) dX7_insert_71 rfl (fun r71 D71 P71 hp71 => ?_) 
          obtain ⟨rfl, hR71, rfl⟩ := hp71
          exact pv_iret C (⟨mr_ok (by unfold kIns; rw [if_pos ⟨hy1, hy8⟩, if_pos hy32, ix_n (by omega), if_pos hy44]) (by rw [r7, ix_n (by omega)]) (by rw [hR71, r7, ix_n (by omega), hR64, hR55]; rfl), rfl⟩) (by decide) (by decide) dX7_insert_74
        · refine pv_if_ne (q := 50) (tgt := 54) C dX7_insert_47 (by decide) rfl (fun h => absurd h (by decide)) (fun _ => ?_)
          refine pv_iconst (q := 51) (v := 3) C dX7_insert_50 rfl (by decide) ?_ 
          refine pv_goto (tgt := 55) C dX7_insert_51 (by decide) ?_ 
          refine pv_callVi (q := 58) C hKl (c_X7_refused l X D P _ (by decide)) tw_1069 k6 (by decide) rfl mm_X7_refused ⟨rfl, rfl⟩ (by rw [hKR]; exact ⟨Nat.le_of_ble_eq_true rfl, Nat.le_of_ble_eq_true rfl⟩) (by rw [hKR]; exact ⟨Nat.le_of_ble_eq_true rfl, Nat.le_of_ble_eq_true rfl⟩) rfl rfl rfl (Nat.le_of_ble_eq_true rfl) dX7_insert_55 rfl (fun r55 D55 P55 hp55 => ?_) 
          obtain ⟨rfl, hR55, rfl⟩ := hp55
          refine pv_if_eq (q := 61) (tgt := 63) C dX7_insert_58 (by decide) rfl (fun h => absurd h (by decide)) (fun _ => ?_) 
          refine pv_iconst (q := 62) (v := 0) C dX7_insert_61 rfl (by decide) ?_ 
          exact pv_iret C (⟨mr_no 3 (by unfold kIns; rw [if_pos ⟨hy1, hy8⟩, if_pos hy32, ix_n (by omega), if_neg hn44]) (by decide) hR55, rfl⟩) (by decide) (by decide) dX7_insert_62
      · refine pv_if_ne (q := 38) (tgt := 42) C dX7_insert_35 (by decide) rfl (fun h => absurd h (by decide)) (fun _ => ?_)
        refine pv_iconst (q := 39) (v := 2) C dX7_insert_38 rfl (by decide) ?_ 
        refine pv_goto (tgt := 55) C dX7_insert_39 (by decide) ?_ 
        refine pv_callVi (q := 58) C hKl (c_X7_refused l X D P _ (by decide)) tw_1069 k6 (by decide) rfl mm_X7_refused ⟨rfl, rfl⟩ (by rw [hKR]; exact ⟨Nat.le_of_ble_eq_true rfl, Nat.le_of_ble_eq_true rfl⟩) (by rw [hKR]; exact ⟨Nat.le_of_ble_eq_true rfl, Nat.le_of_ble_eq_true rfl⟩) rfl rfl rfl (Nat.le_of_ble_eq_true rfl) dX7_insert_55 rfl (fun r55 D55 P55 hp55 => ?_) 
        obtain ⟨rfl, hR55, rfl⟩ := hp55
        refine pv_if_eq (q := 61) (tgt := 63) C dX7_insert_58 (by decide) rfl (fun h => absurd h (by decide)) (fun _ => ?_) 
        refine pv_iconst (q := 62) (v := 0) C dX7_insert_61 rfl (by decide) ?_ 
        exact pv_iret C (⟨mr_no 2 (by unfold kIns; rw [if_pos ⟨hy1, hy8⟩, if_neg hn32]) (by decide) hR55, rfl⟩) (by decide) (by decide) dX7_insert_62
    · refine pv_if_eq (q := 14) (tgt := 18) C dX7_insert_11 (by decide) rfl (fun _ => ?_) (fun h => absurd h (by decide))
      refine pv_iconst (q := 19) (v := 0) C dX7_insert_18 rfl (by decide) ?_ 
      refine pv_istore (q := 21) C dX7_insert_19 rfl (Nat.le_of_ble_eq_true rfl) rfl ?_ 
      refine pv_aload_n (q := 22) C dX7_insert_21 rfl rfl rfl ?_ 
      refine pv_iload (q := 24) C dX7_insert_22 rfl rfl ?_ 
      refine pv_if_ne (q := 27) (tgt := 31) C dX7_insert_24 (by decide) rfl (fun h => absurd h (by decide)) (fun _ => ?_) 
      refine pv_iconst (q := 28) (v := 1) C dX7_insert_27 rfl (by decide) ?_ 
      refine pv_goto (tgt := 55) C dX7_insert_28 (by decide) ?_ 
      refine pv_callVi (q := 58) C hKl (c_X7_refused l X D P _ (by decide)) tw_1069 k6 (by decide) rfl mm_X7_refused ⟨rfl, rfl⟩ (by rw [hKR]; exact ⟨Nat.le_of_ble_eq_true rfl, Nat.le_of_ble_eq_true rfl⟩) (by rw [hKR]; exact ⟨Nat.le_of_ble_eq_true rfl, Nat.le_of_ble_eq_true rfl⟩) rfl rfl rfl (Nat.le_of_ble_eq_true rfl) dX7_insert_55 rfl (fun r55 D55 P55 hp55 => ?_) 
      obtain ⟨rfl, hR55, rfl⟩ := hp55
      refine pv_if_eq (q := 61) (tgt := 63) C dX7_insert_58 (by decide) rfl (fun h => absurd h (by decide)) (fun _ => ?_) 
      refine pv_iconst (q := 62) (v := 0) C dX7_insert_61 rfl (by decide) ?_ 
      exact pv_iret C (⟨mr_no 1 (by unfold kIns; rw [if_neg (fun z => hn8 z.2)]) (by decide) hR55, rfl⟩) (by decide) (by decide) dX7_insert_62
  · refine pv_if_eq (q := 7) (tgt := 18) C dX7_insert_4 (by decide) rfl (fun _ => ?_) (fun h => absurd h (by decide))
    refine pv_iconst (q := 19) (v := 0) C dX7_insert_18 rfl (by decide) ?_ 
    refine pv_istore (q := 21) C dX7_insert_19 rfl (Nat.le_of_ble_eq_true rfl) rfl ?_ 
    refine pv_aload_n (q := 22) C dX7_insert_21 rfl rfl rfl ?_ 
    refine pv_iload (q := 24) C dX7_insert_22 rfl rfl ?_ 
    refine pv_if_ne (q := 27) (tgt := 31) C dX7_insert_24 (by decide) rfl (fun h => absurd h (by decide)) (fun _ => ?_) 
    refine pv_iconst (q := 28) (v := 1) C dX7_insert_27 rfl (by decide) ?_ 
    refine pv_goto (tgt := 55) C dX7_insert_28 (by decide) ?_ 
    refine pv_callVi (q := 58) C hKl (c_X7_refused l X D P _ (by decide)) tw_1069 k6 (by decide) rfl mm_X7_refused ⟨rfl, rfl⟩ (by rw [hKR]; exact ⟨Nat.le_of_ble_eq_true rfl, Nat.le_of_ble_eq_true rfl⟩) (by rw [hKR]; exact ⟨Nat.le_of_ble_eq_true rfl, Nat.le_of_ble_eq_true rfl⟩) rfl rfl rfl (Nat.le_of_ble_eq_true rfl) dX7_insert_55 rfl (fun r55 D55 P55 hp55 => ?_) 
    obtain ⟨rfl, hR55, rfl⟩ := hp55
    refine pv_if_eq (q := 61) (tgt := 63) C dX7_insert_58 (by decide) rfl (fun h => absurd h (by decide)) (fun _ => ?_) 
    refine pv_iconst (q := 62) (v := 0) C dX7_insert_61 rfl (by decide) ?_ 
    exact pv_iret C (⟨mr_no 1 (by unfold kIns; rw [if_neg (fun z => hn1 z.1)]) (by decide) hR55, rfl⟩) (by decide) (by decide) dX7_insert_62
set_option maxRecDepth 100000 in
set_option maxHeartbeats 4000000 in
theorem c_X7_change (l : Launch) (X : XT) (D : DT) (P : PT) (place amount : Int32) (hs : sok D) (hf : fl (D 7)) (hd : dl (D 7) 2)  : CG l X yX7_change (.code yX7_change cX7_change 4 (some .int) :: AW) ({ frames := 5, cells := 0, slots := 0, locals := 180 } : Room) [.ref (X.2.2 6), .int place, .int amount] (qI X (fun r D' P' => mr (kChg (D 7) place amount) (D 7 (16 + ix place)) D (va_up (m_save (clr D)) 7 (m_rep (D 7) (ix place) (D 7 (ix place)) amount)) r D' ∧ P = P')) D P 0 0 := by
  refine cg_of (by decide +kernel) (Nat.le_of_ble_eq_true rfl) ?_
  intro K hKl hKR C
  refine PV_lv (lv' := [some (.ref (X.2.2 6)), some (.int place), some (.int amount), none]) rfl ?_
  refine pv_iload_n (q := 1) C dX7_change_0 rfl rfl rfl ?_ 
  refine pv_callSi (q := 4) C hKl (c_X7_isPlace l X D P _) tw_1049 mm_X7_isPlace ⟨rfl, rfl⟩ (by rw [hKR]; exact ⟨Nat.le_of_ble_eq_true rfl, Nat.le_of_ble_eq_true rfl⟩) (by rw [hKR]; exact ⟨Nat.le_of_ble_eq_true rfl, Nat.le_of_ble_eq_true rfl⟩) rfl rfl rfl (Nat.le_of_ble_eq_true rfl) dX7_change_1 rfl (fun r1 D1 P1 hp1 => ?_) 
  rcases hp1 with ⟨⟨hy1, rfl⟩ | ⟨hn1, rfl⟩, rfl, rfl⟩
  · obtain ⟨p, hp, rfl⟩ := rg16 hy1
    refine pv_istore_n (q := 5) C dX7_change_4 rfl rfl (Nat.le_of_ble_eq_true rfl) rfl ?_ 
    refine pv_aload_n (q := 6) C dX7_change_5 rfl rfl rfl ?_ 
    refine pv_iload_n (q := 7) C dX7_change_6 rfl rfl rfl ?_ 
    refine pv_if_ne (q := 10) (tgt := 14) C dX7_change_7 (by decide) rfl (fun _ => ?_) (fun h => absurd h (by decide)) 
    refine pv_iload_n (q := 15) C dX7_change_14 rfl rfl rfl ?_ 
    refine pv_callSi (q := 18) C hKl (c_X7_isAmount l X D P _) tw_1060 mm_X7_isAmount ⟨rfl, rfl⟩ (by rw [hKR]; exact ⟨Nat.le_of_ble_eq_true rfl, Nat.le_of_ble_eq_true rfl⟩) (by rw [hKR]; exact ⟨Nat.le_of_ble_eq_true rfl, Nat.le_of_ble_eq_true rfl⟩) rfl rfl rfl (Nat.le_of_ble_eq_true rfl) dX7_change_15 rfl (fun r15 D15 P15 hp15 => ?_) 
    rcases hp15 with ⟨⟨hy15, rfl⟩ | ⟨hn15, rfl⟩, rfl, rfl⟩
    · refine pv_if_ne (q := 21) (tgt := 25) C dX7_change_18 (by decide) rfl (fun _ => ?_) (fun h => absurd h (by decide))
      refine pv_aload_n (q := 26) C dX7_change_25 rfl rfl rfl ?_ 
      refine pv_iload_n (q := 27) C dX7_change_26 rfl rfl rfl ?_ 
      refine pv_callVi (q := 30) C hKl (c_X7_vacant l X D P _ (by omega)) tw_1065 k6 (by decide) rfl mm_X7_vacant ⟨rfl, rfl⟩ (by rw [hKR]; exact ⟨Nat.le_of_ble_eq_true rfl, Nat.le_of_ble_eq_true rfl⟩) (by rw [hKR]; exact ⟨Nat.le_of_ble_eq_true rfl, Nat.le_of_ble_eq_true rfl⟩) rfl rfl rfl (Nat.le_of_ble_eq_true rfl) dX7_change_27 rfl (fun r27 D27 P27 hp27 => ?_) 
      rcases hp27 with ⟨⟨hy27, rfl⟩ | ⟨hn27, rfl⟩, rfl, rfl⟩
      · refine pv_if_eq (q := 33) (tgt := 37) C dX7_change_30 (by decide) rfl (fun h => absurd h (by decide)) (fun _ => ?_)
        refine pv_iconst (q := 34) (v := 3) C dX7_change_33 rfl (by decide) ?_ 
        refine pv_goto (tgt := 38) C dX7_change_34 (by decide) ?_ 
        refine pv_callVi (q := 41) C hKl (c_X7_refused l X D P _ (by decide)) tw_1069 k6 (by decide) rfl mm_X7_refused ⟨rfl, rfl⟩ (by rw [hKR]; exact ⟨Nat.le_of_ble_eq_true rfl, Nat.le_of_ble_eq_true rfl⟩) (by rw [hKR]; exact ⟨Nat.le_of_ble_eq_true rfl, Nat.le_of_ble_eq_true rfl⟩) rfl rfl rfl (Nat.le_of_ble_eq_true rfl) dX7_change_38 rfl (fun r38 D38 P38 hp38 => ?_) 
        obtain ⟨rfl, hR38, rfl⟩ := hp38
        refine pv_if_eq (q := 44) (tgt := 46) C dX7_change_41 (by decide) rfl (fun h => absurd h (by decide)) (fun _ => ?_) 
        refine pv_iconst (q := 45) (v := 0) C dX7_change_44 rfl (by decide) ?_ 
        exact pv_iret C (⟨mr_no 3 (by unfold kChg; rw [if_pos hy1, if_pos hy15, ix_n (by omega), if_pos hy27]) (by decide) hR38, rfl⟩) (by decide) (by decide) dX7_change_45
      · refine pv_if_eq (q := 33) (tgt := 37) C dX7_change_30 (by decide) rfl (fun _ => ?_) (fun h => absurd h (by decide))
        refine pv_iconst (q := 38) (v := 0) C dX7_change_37 rfl (by decide) ?_ 
        refine pv_callVi (q := 41) C hKl (c_X7_refused0 l X D P ) tw_1069 k6 (by decide) rfl mm_X7_refused ⟨rfl, rfl⟩ (by rw [hKR]; exact ⟨Nat.le_of_ble_eq_true rfl, Nat.le_of_ble_eq_true rfl⟩) (by rw [hKR]; exact ⟨Nat.le_of_ble_eq_true rfl, Nat.le_of_ble_eq_true rfl⟩) rfl rfl rfl (Nat.le_of_ble_eq_true rfl) dX7_change_38 rfl (fun r38 D38 P38 hp38 => ?_) 
        obtain ⟨rfl, hR38, rfl⟩ := hp38
        refine pv_if_eq (q := 44) (tgt := 46) C dX7_change_41 (by decide) rfl (fun _ => ?_) (fun h => absurd h (by decide)) 
        refine pv_aload_n (q := 47) C dX7_change_46 rfl rfl rfl ?_ 
        refine pv_callVv (q := 50) C hKl (c_X7_save l X D38 P (by rw [hR38]; exact hs)) tw_1073 k6 (by decide) rfl mm_X7_save ⟨rfl, rfl⟩ (by rw [hKR]; exact ⟨Nat.le_of_ble_eq_true rfl, Nat.le_of_ble_eq_true rfl⟩) (by rw [hKR]; exact ⟨Nat.le_of_ble_eq_true rfl, Nat.le_of_ble_eq_true rfl⟩) rfl rfl rfl (Nat.le_of_ble_eq_true rfl) dX7_change_47 rfl (fun D47 P47 hp47 => ?_) 
        obtain ⟨hR47, rfl⟩ := hp47
        have r7 : D47 7 = D 7 := by rw [hR47, hR38]; rfl
        refine pv_aload_n (q := 51) C dX7_change_50 rfl rfl rfl ?_ 
        refine pv_iload_n (q := 52) C dX7_change_51 rfl rfl rfl ?_ 
        refine pv_iload_n (q := 53) C dX7_change_52 rfl rfl rfl ?_ 
        refine pv_callVi (q := 56) C hKl (c_X7_goChange l X D47 P _ (by omega) _ (by rw [r7]; exact hf) (by rw [r7]; exact hd)) tw_1116 k6 (by decide) rfl mm_X7_goChange ⟨rfl, rfl⟩ (by rw [hKR]; exact ⟨Nat.le_of_ble_eq_true rfl, Nat.le_of_ble_eq_true rfl⟩) (by rw [hKR]; exact ⟨Nat.le_of_ble_eq_true rfl, Nat.le_of_ble_eq_true rfl⟩) rfl rfl rfl (Nat.le_of_ble_eq_true rfl) dX7_change_53 rfl (fun r53 D53 P53 hp53 => ?_) 
        obtain ⟨rfl, hR53, rfl⟩ := hp53
        exact pv_iret C (⟨mr_ok (by unfold kChg; rw [if_pos hy1, if_pos hy15, ix_n (by omega), if_neg hn27]) (by rw [r7, ix_n (by omega)]) (by rw [hR53, r7, ix_n (by omega), hR47, hR38]; rfl), rfl⟩) (by decide) (by decide) dX7_change_56
    · refine pv_if_ne (q := 21) (tgt := 25) C dX7_change_18 (by decide) rfl (fun h => absurd h (by decide)) (fun _ => ?_)
      refine pv_iconst (q := 22) (v := 2) C dX7_change_21 rfl (by decide) ?_ 
      refine pv_goto (tgt := 38) C dX7_change_22 (by decide) ?_ 
      refine pv_callVi (q := 41) C hKl (c_X7_refused l X D P _ (by decide)) tw_1069 k6 (by decide) rfl mm_X7_refused ⟨rfl, rfl⟩ (by rw [hKR]; exact ⟨Nat.le_of_ble_eq_true rfl, Nat.le_of_ble_eq_true rfl⟩) (by rw [hKR]; exact ⟨Nat.le_of_ble_eq_true rfl, Nat.le_of_ble_eq_true rfl⟩) rfl rfl rfl (Nat.le_of_ble_eq_true rfl) dX7_change_38 rfl (fun r38 D38 P38 hp38 => ?_) 
      obtain ⟨rfl, hR38, rfl⟩ := hp38
      refine pv_if_eq (q := 44) (tgt := 46) C dX7_change_41 (by decide) rfl (fun h => absurd h (by decide)) (fun _ => ?_) 
      refine pv_iconst (q := 45) (v := 0) C dX7_change_44 rfl (by decide) ?_ 
      exact pv_iret C (⟨mr_no 2 (by unfold kChg; rw [if_pos hy1, if_neg hn15]) (by decide) hR38, rfl⟩) (by decide) (by decide) dX7_change_45
  · refine pv_istore_n (q := 5) C dX7_change_4 rfl rfl (Nat.le_of_ble_eq_true rfl) rfl ?_
    refine pv_aload_n (q := 6) C dX7_change_5 rfl rfl rfl ?_ 
    refine pv_iload_n (q := 7) C dX7_change_6 rfl rfl rfl ?_ 
    refine pv_if_ne (q := 10) (tgt := 14) C dX7_change_7 (by decide) rfl (fun h => absurd h (by decide)) (fun _ => ?_) 
    refine pv_iconst (q := 11) (v := 1) C dX7_change_10 rfl (by decide) ?_ 
    refine pv_goto (tgt := 38) C dX7_change_11 (by decide) ?_ 
    refine pv_callVi (q := 41) C hKl (c_X7_refused l X D P _ (by decide)) tw_1069 k6 (by decide) rfl mm_X7_refused ⟨rfl, rfl⟩ (by rw [hKR]; exact ⟨Nat.le_of_ble_eq_true rfl, Nat.le_of_ble_eq_true rfl⟩) (by rw [hKR]; exact ⟨Nat.le_of_ble_eq_true rfl, Nat.le_of_ble_eq_true rfl⟩) rfl rfl rfl (Nat.le_of_ble_eq_true rfl) dX7_change_38 rfl (fun r38 D38 P38 hp38 => ?_) 
    obtain ⟨rfl, hR38, rfl⟩ := hp38
    refine pv_if_eq (q := 44) (tgt := 46) C dX7_change_41 (by decide) rfl (fun h => absurd h (by decide)) (fun _ => ?_) 
    refine pv_iconst (q := 45) (v := 0) C dX7_change_44 rfl (by decide) ?_ 
    exact pv_iret C (⟨mr_no 1 (by unfold kChg; rw [if_neg hn1]) (by decide) hR38, rfl⟩) (by decide) (by decide) dX7_change_45
set_option maxRecDepth 100000 in
set_option maxHeartbeats 4000000 in
theorem c_X7_regroup (l : Launch) (X : XT) (D : DT) (P : PT) (place group : Int32) (hs : sok D) (hf : fl (D 7)) (hd : dl (D 7) 2)  : CG l X yX7_regroup (.code yX7_regroup cX7_regroup 4 (some .int) :: AW) ({ frames := 5, cells := 0, slots := 0, locals := 180 } : Room) [.ref (X.2.2 6), .int place, .int group] (qI X (fun r D' P' => mr (kReg (D 7) place group) (D 7 (ix place) - 1) D (va_up (m_save (clr D)) 7 (m_rep (D 7) (ix place) (group + 1) (D 7 (16 + ix place)))) r D' ∧ P = P')) D P 0 0 := by
  refine cg_of (by decide +kernel) (Nat.le_of_ble_eq_true rfl) ?_
  intro K hKl hKR C
  refine PV_lv (lv' := [some (.ref (X.2.2 6)), some (.int place), some (.int group), none]) rfl ?_
  refine pv_iload_n (q := 1) C dX7_regroup_0 rfl rfl rfl ?_ 
  refine pv_callSi (q := 4) C hKl (c_X7_isPlace l X D P _) tw_1049 mm_X7_isPlace ⟨rfl, rfl⟩ (by rw [hKR]; exact ⟨Nat.le_of_ble_eq_true rfl, Nat.le_of_ble_eq_true rfl⟩) (by rw [hKR]; exact ⟨Nat.le_of_ble_eq_true rfl, Nat.le_of_ble_eq_true rfl⟩) rfl rfl rfl (Nat.le_of_ble_eq_true rfl) dX7_regroup_1 rfl (fun r1 D1 P1 hp1 => ?_) 
  rcases hp1 with ⟨⟨hy1, rfl⟩ | ⟨hn1, rfl⟩, rfl, rfl⟩
  · obtain ⟨p, hp, rfl⟩ := rg16 hy1
    refine pv_if_eq (q := 7) (tgt := 18) C dX7_regroup_4 (by decide) rfl (fun h => absurd h (by decide)) (fun _ => ?_) 
    refine pv_iload_n (q := 8) C dX7_regroup_7 rfl rfl rfl ?_ 
    refine pv_callSi (q := 11) C hKl (c_X7_isGroup l X D P _) tw_1056 mm_X7_isGroup ⟨rfl, rfl⟩ (by rw [hKR]; exact ⟨Nat.le_of_ble_eq_true rfl, Nat.le_of_ble_eq_true rfl⟩) (by rw [hKR]; exact ⟨Nat.le_of_ble_eq_true rfl, Nat.le_of_ble_eq_true rfl⟩) rfl rfl rfl (Nat.le_of_ble_eq_true rfl) dX7_regroup_8 rfl (fun r8 D8 P8 hp8 => ?_) 
    rcases hp8 with ⟨⟨hy8, rfl⟩ | ⟨hn8, rfl⟩, rfl, rfl⟩
    · refine pv_if_eq (q := 14) (tgt := 18) C dX7_regroup_11 (by decide) rfl (fun h => absurd h (by decide)) (fun _ => ?_)
      refine pv_iconst (q := 15) (v := 1) C dX7_regroup_14 rfl (by decide) ?_ 
      refine pv_goto (tgt := 19) C dX7_regroup_15 (by decide) ?_ 
      refine pv_istore_n (q := 20) C dX7_regroup_19 rfl rfl (Nat.le_of_ble_eq_true rfl) rfl ?_ 
      refine pv_aload_n (q := 21) C dX7_regroup_20 rfl rfl rfl ?_ 
      refine pv_iload_n (q := 22) C dX7_regroup_21 rfl rfl rfl ?_ 
      refine pv_if_ne (q := 25) (tgt := 29) C dX7_regroup_22 (by decide) rfl (fun _ => ?_) (fun h => absurd h (by decide)) 
      refine pv_aload_n (q := 30) C dX7_regroup_29 rfl rfl rfl ?_ 
      refine pv_iload_n (q := 31) C dX7_regroup_30 rfl rfl rfl ?_ 
      refine pv_callVi (q := 34) C hKl (c_X7_vacant l X D P _ (by omega)) tw_1065 k6 (by decide) rfl mm_X7_vacant ⟨rfl, rfl⟩ (by rw [hKR]; exact ⟨Nat.le_of_ble_eq_true rfl, Nat.le_of_ble_eq_true rfl⟩) (by rw [hKR]; exact ⟨Nat.le_of_ble_eq_true rfl, Nat.le_of_ble_eq_true rfl⟩) rfl rfl rfl (Nat.le_of_ble_eq_true rfl) dX7_regroup_31 rfl (fun r31 D31 P31 hp31 => ?_) 
      rcases hp31 with ⟨⟨hy31, rfl⟩ | ⟨hn31, rfl⟩, rfl, rfl⟩
      · refine pv_if_eq (q := 37) (tgt := 41) C dX7_regroup_34 (by decide) rfl (fun h => absurd h (by decide)) (fun _ => ?_)
        refine pv_iconst (q := 38) (v := 2) C dX7_regroup_37 rfl (by decide) ?_ 
        refine pv_goto (tgt := 42) C dX7_regroup_38 (by decide) ?_ 
        refine pv_callVi (q := 45) C hKl (c_X7_refused l X D P _ (by decide)) tw_1069 k6 (by decide) rfl mm_X7_refused ⟨rfl, rfl⟩ (by rw [hKR]; exact ⟨Nat.le_of_ble_eq_true rfl, Nat.le_of_ble_eq_true rfl⟩) (by rw [hKR]; exact ⟨Nat.le_of_ble_eq_true rfl, Nat.le_of_ble_eq_true rfl⟩) rfl rfl rfl (Nat.le_of_ble_eq_true rfl) dX7_regroup_42 rfl (fun r42 D42 P42 hp42 => ?_) 
        obtain ⟨rfl, hR42, rfl⟩ := hp42
        refine pv_if_eq (q := 48) (tgt := 50) C dX7_regroup_45 (by decide) rfl (fun h => absurd h (by decide)) (fun _ => ?_) 
        refine pv_iconst (q := 49) (v := 0) C dX7_regroup_48 rfl (by decide) ?_ 
        exact pv_iret C (⟨mr_no 2 (by unfold kReg; rw [if_pos ⟨hy1, hy8⟩, ix_n (by omega), if_pos hy31]) (by decide) hR42, rfl⟩) (by decide) (by decide) dX7_regroup_49
      · refine pv_if_eq (q := 37) (tgt := 41) C dX7_regroup_34 (by decide) rfl (fun _ => ?_) (fun h => absurd h (by decide))
        refine pv_iconst (q := 42) (v := 0) C dX7_regroup_41 rfl (by decide) ?_ 
        refine pv_callVi (q := 45) C hKl (c_X7_refused0 l X D P ) tw_1069 k6 (by decide) rfl mm_X7_refused ⟨rfl, rfl⟩ (by rw [hKR]; exact ⟨Nat.le_of_ble_eq_true rfl, Nat.le_of_ble_eq_true rfl⟩) (by rw [hKR]; exact ⟨Nat.le_of_ble_eq_true rfl, Nat.le_of_ble_eq_true rfl⟩) rfl rfl rfl (Nat.le_of_ble_eq_true rfl) dX7_regroup_42 rfl (fun r42 D42 P42 hp42 => ?_) 
        obtain ⟨rfl, hR42, rfl⟩ := hp42
        refine pv_if_eq (q := 48) (tgt := 50) C dX7_regroup_45 (by decide) rfl (fun _ => ?_) (fun h => absurd h (by decide)) 
        refine pv_aload_n (q := 51) C dX7_regroup_50 rfl rfl rfl ?_ 
        refine pv_callVv (q := 54) C hKl (c_X7_save l X D42 P (by rw [hR42]; exact hs)) tw_1073 k6 (by decide) rfl mm_X7_save ⟨rfl, rfl⟩ (by rw [hKR]; exact ⟨Nat.le_of_ble_eq_true rfl, Nat.le_of_ble_eq_true rfl⟩) (by rw [hKR]; exact ⟨Nat.le_of_ble_eq_true rfl, Nat.le_of_ble_eq_true rfl⟩) rfl rfl rfl (Nat.le_of_ble_eq_true rfl) dX7_regroup_51 rfl (fun D51 P51 hp51 => ?_) 
        obtain ⟨hR51, rfl⟩ := hp51
        have r7 : D51 7 = D 7 := by rw [hR51, hR42]; rfl
        refine pv_aload_n (q := 55) C dX7_regroup_54 rfl rfl rfl ?_ 
        refine pv_iload_n (q := 56) C dX7_regroup_55 rfl rfl rfl ?_ 
        refine pv_iload_n (q := 57) C dX7_regroup_56 rfl rfl rfl ?_ 
        refine pv_callVi (q := 60) C hKl (c_X7_goRegroup l X D51 P _ (by omega) _ (by rw [r7]; exact hf) (by rw [r7]; exact hd)) tw_1124 k6 (by decide) rfl mm_X7_goRegroup ⟨rfl, rfl⟩ (by rw [hKR]; exact ⟨Nat.le_of_ble_eq_true rfl, Nat.le_of_ble_eq_true rfl⟩) (by rw [hKR]; exact ⟨Nat.le_of_ble_eq_true rfl, Nat.le_of_ble_eq_true rfl⟩) rfl rfl rfl (Nat.le_of_ble_eq_true rfl) dX7_regroup_57 rfl (fun r57 D57 P57 hp57 => ?_) 
        obtain ⟨rfl, hR57, rfl⟩ := hp57
        exact pv_iret C (⟨mr_ok (by unfold kReg; rw [if_pos ⟨hy1, hy8⟩, ix_n (by omega), if_neg hn31]) (by rw [r7, ix_n (by omega)]) (by rw [hR57, r7, ix_n (by omega), hR51, hR42]; rfl), rfl⟩) (by decide) (by decide) dX7_regroup_60
    · refine pv_if_eq (q := 14) (tgt := 18) C dX7_regroup_11 (by decide) rfl (fun _ => ?_) (fun h => absurd h (by decide))
      refine pv_iconst (q := 19) (v := 0) C dX7_regroup_18 rfl (by decide) ?_ 
      refine pv_istore_n (q := 20) C dX7_regroup_19 rfl rfl (Nat.le_of_ble_eq_true rfl) rfl ?_ 
      refine pv_aload_n (q := 21) C dX7_regroup_20 rfl rfl rfl ?_ 
      refine pv_iload_n (q := 22) C dX7_regroup_21 rfl rfl rfl ?_ 
      refine pv_if_ne (q := 25) (tgt := 29) C dX7_regroup_22 (by decide) rfl (fun h => absurd h (by decide)) (fun _ => ?_) 
      refine pv_iconst (q := 26) (v := 1) C dX7_regroup_25 rfl (by decide) ?_ 
      refine pv_goto (tgt := 42) C dX7_regroup_26 (by decide) ?_ 
      refine pv_callVi (q := 45) C hKl (c_X7_refused l X D P _ (by decide)) tw_1069 k6 (by decide) rfl mm_X7_refused ⟨rfl, rfl⟩ (by rw [hKR]; exact ⟨Nat.le_of_ble_eq_true rfl, Nat.le_of_ble_eq_true rfl⟩) (by rw [hKR]; exact ⟨Nat.le_of_ble_eq_true rfl, Nat.le_of_ble_eq_true rfl⟩) rfl rfl rfl (Nat.le_of_ble_eq_true rfl) dX7_regroup_42 rfl (fun r42 D42 P42 hp42 => ?_) 
      obtain ⟨rfl, hR42, rfl⟩ := hp42
      refine pv_if_eq (q := 48) (tgt := 50) C dX7_regroup_45 (by decide) rfl (fun h => absurd h (by decide)) (fun _ => ?_) 
      refine pv_iconst (q := 49) (v := 0) C dX7_regroup_48 rfl (by decide) ?_ 
      exact pv_iret C (⟨mr_no 1 (by unfold kReg; rw [if_neg (fun z => hn8 z.2)]) (by decide) hR42, rfl⟩) (by decide) (by decide) dX7_regroup_49
  · refine pv_if_eq (q := 7) (tgt := 18) C dX7_regroup_4 (by decide) rfl (fun _ => ?_) (fun h => absurd h (by decide))
    refine pv_iconst (q := 19) (v := 0) C dX7_regroup_18 rfl (by decide) ?_ 
    refine pv_istore_n (q := 20) C dX7_regroup_19 rfl rfl (Nat.le_of_ble_eq_true rfl) rfl ?_ 
    refine pv_aload_n (q := 21) C dX7_regroup_20 rfl rfl rfl ?_ 
    refine pv_iload_n (q := 22) C dX7_regroup_21 rfl rfl rfl ?_ 
    refine pv_if_ne (q := 25) (tgt := 29) C dX7_regroup_22 (by decide) rfl (fun h => absurd h (by decide)) (fun _ => ?_) 
    refine pv_iconst (q := 26) (v := 1) C dX7_regroup_25 rfl (by decide) ?_ 
    refine pv_goto (tgt := 42) C dX7_regroup_26 (by decide) ?_ 
    refine pv_callVi (q := 45) C hKl (c_X7_refused l X D P _ (by decide)) tw_1069 k6 (by decide) rfl mm_X7_refused ⟨rfl, rfl⟩ (by rw [hKR]; exact ⟨Nat.le_of_ble_eq_true rfl, Nat.le_of_ble_eq_true rfl⟩) (by rw [hKR]; exact ⟨Nat.le_of_ble_eq_true rfl, Nat.le_of_ble_eq_true rfl⟩) rfl rfl rfl (Nat.le_of_ble_eq_true rfl) dX7_regroup_42 rfl (fun r42 D42 P42 hp42 => ?_) 
    obtain ⟨rfl, hR42, rfl⟩ := hp42
    refine pv_if_eq (q := 48) (tgt := 50) C dX7_regroup_45 (by decide) rfl (fun h => absurd h (by decide)) (fun _ => ?_) 
    refine pv_iconst (q := 49) (v := 0) C dX7_regroup_48 rfl (by decide) ?_ 
    exact pv_iret C (⟨mr_no 1 (by unfold kReg; rw [if_neg (fun z => hn1 z.1)]) (by decide) hR42, rfl⟩) (by decide) (by decide) dX7_regroup_49
set_option maxRecDepth 100000 in
set_option maxHeartbeats 4000000 in
theorem c_X7_noRow (l : Launch) (X : XT) (D : DT) (P : PT) (place : Int32) : CG l X yX7_noRow (.code yX7_noRow cX7_noRow 3 (some .boolean) :: AW) ({ frames := 2, cells := 0, slots := 0, locals := 72 } : Room) [.ref (X.2.2 6), .int place] (qI X (fun r D' P' => ((kRow (D 7) place = 0 ∧ r = 0 ∧ D' = up2 D 6 0 0) ∨ (¬ kRow (D 7) place = 0 ∧ r = 1 ∧ D' = up2 D 6 0 (kRow (D 7) place))) ∧ P = P')) D P 0 0 := by
  refine cg_of (by decide +kernel) (Nat.le_of_ble_eq_true rfl) ?_
  intro K hKl hKR C
  refine PV_lv (lv' := [some (.ref (X.2.2 6)), some (.int place), none]) rfl ?_
  refine pv_iload_n (q := 1) C dX7_noRow_0 rfl rfl rfl ?_ 
  refine pv_callSi (q := 4) C hKl (c_X7_isPlace l X D P _) tw_1049 mm_X7_isPlace ⟨rfl, rfl⟩ (by rw [hKR]; exact ⟨Nat.le_of_ble_eq_true rfl, Nat.le_of_ble_eq_true rfl⟩) (by rw [hKR]; exact ⟨Nat.le_of_ble_eq_true rfl, Nat.le_of_ble_eq_true rfl⟩) rfl rfl rfl (Nat.le_of_ble_eq_true rfl) dX7_noRow_1 rfl (fun r1 D1 P1 hp1 => ?_) 
  rcases hp1 with ⟨⟨hy1, rfl⟩ | ⟨hn1, rfl⟩, rfl, rfl⟩
  · obtain ⟨p, hp, rfl⟩ := rg16 hy1
    refine pv_istore_n (q := 5) C dX7_noRow_4 rfl rfl (Nat.le_of_ble_eq_true rfl) rfl ?_ 
    refine pv_aload_n (q := 6) C dX7_noRow_5 rfl rfl rfl ?_ 
    refine pv_iload_n (q := 7) C dX7_noRow_6 rfl rfl rfl ?_ 
    refine pv_if_ne (q := 10) (tgt := 14) C dX7_noRow_7 (by decide) rfl (fun _ => ?_) (fun h => absurd h (by decide)) 
    refine pv_aload_n (q := 15) C dX7_noRow_14 rfl rfl rfl ?_ 
    refine pv_iload_n (q := 16) C dX7_noRow_15 rfl rfl rfl ?_ 
    refine pv_callVi (q := 19) C hKl (c_X7_vacant l X D P _ (by omega)) tw_1065 k6 (by decide) rfl mm_X7_vacant ⟨rfl, rfl⟩ (by rw [hKR]; exact ⟨Nat.le_of_ble_eq_true rfl, Nat.le_of_ble_eq_true rfl⟩) (by rw [hKR]; exact ⟨Nat.le_of_ble_eq_true rfl, Nat.le_of_ble_eq_true rfl⟩) rfl rfl rfl (Nat.le_of_ble_eq_true rfl) dX7_noRow_16 rfl (fun r16 D16 P16 hp16 => ?_) 
    rcases hp16 with ⟨⟨hy16, rfl⟩ | ⟨hn16, rfl⟩, rfl, rfl⟩
    · refine pv_if_eq (q := 22) (tgt := 26) C dX7_noRow_19 (by decide) rfl (fun h => absurd h (by decide)) (fun _ => ?_)
      refine pv_iconst (q := 23) (v := 2) C dX7_noRow_22 rfl (by decide) ?_ 
      refine pv_goto (tgt := 27) C dX7_noRow_23 (by decide) ?_ 
      refine pv_callVi (q := 30) C hKl (c_X7_refused l X D P _ (by decide)) tw_1069 k6 (by decide) rfl mm_X7_refused ⟨rfl, rfl⟩ (by rw [hKR]; exact ⟨Nat.le_of_ble_eq_true rfl, Nat.le_of_ble_eq_true rfl⟩) (by rw [hKR]; exact ⟨Nat.le_of_ble_eq_true rfl, Nat.le_of_ble_eq_true rfl⟩) rfl rfl rfl (Nat.le_of_ble_eq_true rfl) dX7_noRow_27 rfl (fun r27 D27 P27 hp27 => ?_) 
      obtain ⟨rfl, hR27, rfl⟩ := hp27
      exact pv_zret C (Or.inr rfl) (⟨Or.inr ⟨(by rw [show kRow (D 7) (nI p) = 2 by unfold kRow; rw [if_pos hy1, ix_n (by omega), if_pos hy16]]; decide), rfl, by rw [show kRow (D 7) (nI p) = 2 by unfold kRow; rw [if_pos hy1, ix_n (by omega), if_pos hy16]]; exact hR27⟩, rfl⟩) (by decide) (by decide) dX7_noRow_30
    · refine pv_if_eq (q := 22) (tgt := 26) C dX7_noRow_19 (by decide) rfl (fun _ => ?_) (fun h => absurd h (by decide))
      refine pv_iconst (q := 27) (v := 0) C dX7_noRow_26 rfl (by decide) ?_ 
      refine pv_callVi (q := 30) C hKl (c_X7_refused0 l X D P ) tw_1069 k6 (by decide) rfl mm_X7_refused ⟨rfl, rfl⟩ (by rw [hKR]; exact ⟨Nat.le_of_ble_eq_true rfl, Nat.le_of_ble_eq_true rfl⟩) (by rw [hKR]; exact ⟨Nat.le_of_ble_eq_true rfl, Nat.le_of_ble_eq_true rfl⟩) rfl rfl rfl (Nat.le_of_ble_eq_true rfl) dX7_noRow_27 rfl (fun r27 D27 P27 hp27 => ?_) 
      obtain ⟨rfl, hR27, rfl⟩ := hp27
      exact pv_zret C (Or.inl rfl) (⟨Or.inl ⟨(by unfold kRow; rw [if_pos hy1, ix_n (by omega), if_neg hn16]), rfl, hR27⟩, rfl⟩) (by decide) (by decide) dX7_noRow_30
  · refine pv_istore_n (q := 5) C dX7_noRow_4 rfl rfl (Nat.le_of_ble_eq_true rfl) rfl ?_
    refine pv_aload_n (q := 6) C dX7_noRow_5 rfl rfl rfl ?_ 
    refine pv_iload_n (q := 7) C dX7_noRow_6 rfl rfl rfl ?_ 
    refine pv_if_ne (q := 10) (tgt := 14) C dX7_noRow_7 (by decide) rfl (fun h => absurd h (by decide)) (fun _ => ?_) 
    refine pv_iconst (q := 11) (v := 1) C dX7_noRow_10 rfl (by decide) ?_ 
    refine pv_goto (tgt := 27) C dX7_noRow_11 (by decide) ?_ 
    refine pv_callVi (q := 30) C hKl (c_X7_refused l X D P _ (by decide)) tw_1069 k6 (by decide) rfl mm_X7_refused ⟨rfl, rfl⟩ (by rw [hKR]; exact ⟨Nat.le_of_ble_eq_true rfl, Nat.le_of_ble_eq_true rfl⟩) (by rw [hKR]; exact ⟨Nat.le_of_ble_eq_true rfl, Nat.le_of_ble_eq_true rfl⟩) rfl rfl rfl (Nat.le_of_ble_eq_true rfl) dX7_noRow_27 rfl (fun r27 D27 P27 hp27 => ?_) 
    obtain ⟨rfl, hR27, rfl⟩ := hp27
    exact pv_zret C (Or.inr rfl) (⟨Or.inr ⟨(by rw [show kRow (D 7) place = 1 by unfold kRow; rw [if_neg hn1]]; decide), rfl, by rw [show kRow (D 7) place = 1 by unfold kRow; rw [if_neg hn1]]; exact hR27⟩, rfl⟩) (by decide) (by decide) dX7_noRow_30
set_option maxRecDepth 100000 in
set_option maxHeartbeats 4000000 in
theorem c_X7_noView (l : Launch) (X : XT) (D : DT) (P : PT) (view : Int32) : CG l X yX7_noView (.code yX7_noView cX7_noView 2 (some .boolean) :: AW) ({ frames := 2, cells := 0, slots := 0, locals := 72 } : Room) [.ref (X.2.2 6), .int view] (qI X (fun r D' P' => ((kView view = 0 ∧ r = 0 ∧ D' = up2 D 6 0 0) ∨ (¬ kView view = 0 ∧ r = 1 ∧ D' = up2 D 6 0 (kView view))) ∧ P = P')) D P 0 0 := by
  refine cg_of (by decide +kernel) (Nat.le_of_ble_eq_true rfl) ?_
  intro K hKl hKR C
  refine PV_lv (lv' := [some (.ref (X.2.2 6)), some (.int view)]) rfl ?_
  refine pv_aload_n (q := 1) C dX7_noView_0 rfl rfl rfl ?_ 
  refine pv_iload_n (q := 2) C dX7_noView_1 rfl rfl rfl ?_ 
  refine pv_callSi (q := 5) C hKl (c_X7_isView l X D P _) tw_1144 mm_X7_isView ⟨rfl, rfl⟩ (by rw [hKR]; exact ⟨Nat.le_of_ble_eq_true rfl, Nat.le_of_ble_eq_true rfl⟩) (by rw [hKR]; exact ⟨Nat.le_of_ble_eq_true rfl, Nat.le_of_ble_eq_true rfl⟩) rfl rfl rfl (Nat.le_of_ble_eq_true rfl) dX7_noView_2 rfl (fun r2 D2 P2 hp2 => ?_) 
  rcases hp2 with ⟨⟨hy2, rfl⟩ | ⟨hn2, rfl⟩, rfl, rfl⟩
  · refine pv_if_eq (q := 8) (tgt := 12) C dX7_noView_5 (by decide) rfl (fun h => absurd h (by decide)) (fun _ => ?_)
    refine pv_iconst (q := 9) (v := 0) C dX7_noView_8 rfl (by decide) ?_ 
    refine pv_goto (tgt := 13) C dX7_noView_9 (by decide) ?_ 
    refine pv_callVi (q := 16) C hKl (c_X7_refused0 l X D P ) tw_1069 k6 (by decide) rfl mm_X7_refused ⟨rfl, rfl⟩ (by rw [hKR]; exact ⟨Nat.le_of_ble_eq_true rfl, Nat.le_of_ble_eq_true rfl⟩) (by rw [hKR]; exact ⟨Nat.le_of_ble_eq_true rfl, Nat.le_of_ble_eq_true rfl⟩) rfl rfl rfl (Nat.le_of_ble_eq_true rfl) dX7_noView_13 rfl (fun r13 D13 P13 hp13 => ?_) 
    obtain ⟨rfl, hR13, rfl⟩ := hp13
    exact pv_zret C (Or.inl rfl) (⟨Or.inl ⟨(by unfold kView; rw [if_pos hy2]), rfl, hR13⟩, rfl⟩) (by decide) (by decide) dX7_noView_16
  · refine pv_if_eq (q := 8) (tgt := 12) C dX7_noView_5 (by decide) rfl (fun _ => ?_) (fun h => absurd h (by decide))
    refine pv_iconst (q := 13) (v := 1) C dX7_noView_12 rfl (by decide) ?_ 
    refine pv_callVi (q := 16) C hKl (c_X7_refused l X D P _ (by decide)) tw_1069 k6 (by decide) rfl mm_X7_refused ⟨rfl, rfl⟩ (by rw [hKR]; exact ⟨Nat.le_of_ble_eq_true rfl, Nat.le_of_ble_eq_true rfl⟩) (by rw [hKR]; exact ⟨Nat.le_of_ble_eq_true rfl, Nat.le_of_ble_eq_true rfl⟩) rfl rfl rfl (Nat.le_of_ble_eq_true rfl) dX7_noView_13 rfl (fun r13 D13 P13 hp13 => ?_) 
    obtain ⟨rfl, hR13, rfl⟩ := hp13
    exact pv_zret C (Or.inr rfl) (⟨Or.inr ⟨(by rw [show kView view = 1 by unfold kView; rw [if_neg hn2]]; decide), rfl, by rw [show kView view = 1 by unfold kView; rw [if_neg hn2]]; exact hR13⟩, rfl⟩) (by decide) (by decide) dX7_noView_16
set_option maxRecDepth 100000 in
set_option maxHeartbeats 4000000 in
theorem c_X7_delete (l : Launch) (X : XT) (D : DT) (P : PT) (place : Int32) (hs : sok D) (hf : fl (D 7)) (hd : dl (D 7) 1)  : CG l X yX7_delete (.code yX7_delete cX7_delete 2 (some .int) :: AW) ({ frames := 5, cells := 0, slots := 0, locals := 180 } : Room) [.ref (X.2.2 6), .int place] (qI X (fun r D' P' => mr (kRow (D 7) place) (D 7 (16 + ix place)) D (va_up (m_save (clr D)) 7 (m_del (D 7) (ix place))) r D' ∧ P = P')) D P 0 0 := by
  refine cg_of (by decide +kernel) (Nat.le_of_ble_eq_true rfl) ?_
  intro K hKl hKR C
  refine PV_lv (lv' := [some (.ref (X.2.2 6)), some (.int place)]) rfl ?_
  refine pv_aload_n (q := 1) C dX7_delete_0 rfl rfl rfl ?_ 
  refine pv_iload_n (q := 2) C dX7_delete_1 rfl rfl rfl ?_ 
  refine pv_callVi (q := 5) C hKl (c_X7_noRow l X D P _) tw_1132 k6 (by decide) rfl mm_X7_noRow ⟨rfl, rfl⟩ (by rw [hKR]; exact ⟨Nat.le_of_ble_eq_true rfl, Nat.le_of_ble_eq_true rfl⟩) (by rw [hKR]; exact ⟨Nat.le_of_ble_eq_true rfl, Nat.le_of_ble_eq_true rfl⟩) rfl rfl rfl (Nat.le_of_ble_eq_true rfl) dX7_delete_2 rfl (fun r2 D2 P2 hp2 => ?_) 
  rcases hp2 with ⟨⟨hk2, rfl, hR2⟩ | ⟨hk2, rfl, hR2⟩, rfl⟩
  · obtain ⟨p, hp, rfl, hrow⟩ := rg_kr hk2
    refine pv_if_eq (q := 8) (tgt := 10) C dX7_delete_5 (by decide) rfl (fun _ => ?_) (fun h => absurd h (by decide)) 
    refine pv_aload_n (q := 11) C dX7_delete_10 rfl rfl rfl ?_ 
    refine pv_callVv (q := 14) C hKl (c_X7_save l X D2 P (by rw [hR2]; exact hs)) tw_1073 k6 (by decide) rfl mm_X7_save ⟨rfl, rfl⟩ (by rw [hKR]; exact ⟨Nat.le_of_ble_eq_true rfl, Nat.le_of_ble_eq_true rfl⟩) (by rw [hKR]; exact ⟨Nat.le_of_ble_eq_true rfl, Nat.le_of_ble_eq_true rfl⟩) rfl rfl rfl (Nat.le_of_ble_eq_true rfl) dX7_delete_11 rfl (fun D11 P11 hp11 => ?_) 
    obtain ⟨hR11, rfl⟩ := hp11
    have r7 : D11 7 = D 7 := by rw [hR11, hR2]; rfl
    refine pv_aload_n (q := 15) C dX7_delete_14 rfl rfl rfl ?_ 
    refine pv_iload_n (q := 16) C dX7_delete_15 rfl rfl rfl ?_ 
    refine pv_callVi (q := 19) C hKl (c_X7_goDelete l X D11 P _ (by omega) (by rw [r7]; exact hf) (by rw [r7]; exact hd)) tw_1136 k6 (by decide) rfl mm_X7_goDelete ⟨rfl, rfl⟩ (by rw [hKR]; exact ⟨Nat.le_of_ble_eq_true rfl, Nat.le_of_ble_eq_true rfl⟩) (by rw [hKR]; exact ⟨Nat.le_of_ble_eq_true rfl, Nat.le_of_ble_eq_true rfl⟩) rfl rfl rfl (Nat.le_of_ble_eq_true rfl) dX7_delete_16 rfl (fun r16 D16 P16 hp16 => ?_) 
    obtain ⟨rfl, hR16, rfl⟩ := hp16
    exact pv_iret C (⟨mr_ok hk2 (by rw [r7, ix_n (by omega)]) (by rw [hR16, r7, ix_n (by omega), hR11, hR2]; rfl), rfl⟩) (by decide) (by decide) dX7_delete_19
  · refine pv_if_eq (q := 8) (tgt := 10) C dX7_delete_5 (by decide) rfl (fun h => absurd h (by decide)) (fun _ => ?_)
    refine pv_iconst (q := 9) (v := 0) C dX7_delete_8 rfl (by decide) ?_ 
    exact pv_iret C (⟨Or.inl ⟨hk2, hR2⟩, rfl⟩) (by decide) (by decide) dX7_delete_9
set_option maxRecDepth 100000 in
set_option maxHeartbeats 4000000 in
theorem c_X7_refresh (l : Launch) (X : XT) (D : DT) (P : PT) (view : Int32) (hs : sok D)  : CG l X yX7_refresh (.code yX7_refresh cX7_refresh 2 (some .int) :: AW) ({ frames := 3, cells := 0, slots := 0, locals := 108 } : Room) [.ref (X.2.2 6), .int view] (qI X (fun r D' P' => mr (kView view) (wt (D 7) (ix view)) D (va_up (m_save (clr D)) 7 (m_ref (D 7) (ix view))) r D' ∧ P = P')) D P 0 0 := by
  refine cg_of (by decide +kernel) (Nat.le_of_ble_eq_true rfl) ?_
  intro K hKl hKR C
  refine PV_lv (lv' := [some (.ref (X.2.2 6)), some (.int view)]) rfl ?_
  refine pv_aload_n (q := 1) C dX7_refresh_0 rfl rfl rfl ?_ 
  refine pv_iload_n (q := 2) C dX7_refresh_1 rfl rfl rfl ?_ 
  refine pv_callVi (q := 5) C hKl (c_X7_noView l X D P _) tw_1160 k6 (by decide) rfl mm_X7_noView ⟨rfl, rfl⟩ (by rw [hKR]; exact ⟨Nat.le_of_ble_eq_true rfl, Nat.le_of_ble_eq_true rfl⟩) (by rw [hKR]; exact ⟨Nat.le_of_ble_eq_true rfl, Nat.le_of_ble_eq_true rfl⟩) rfl rfl rfl (Nat.le_of_ble_eq_true rfl) dX7_refresh_2 rfl (fun r2 D2 P2 hp2 => ?_) 
  rcases hp2 with ⟨⟨hk2, rfl, hR2⟩ | ⟨hk2, rfl, hR2⟩, rfl⟩
  · obtain ⟨v, hv, rfl⟩ := rg_kv hk2
    refine pv_if_eq (q := 8) (tgt := 10) C dX7_refresh_5 (by decide) rfl (fun _ => ?_) (fun h => absurd h (by decide)) 
    refine pv_aload_n (q := 11) C dX7_refresh_10 rfl rfl rfl ?_ 
    refine pv_callVv (q := 14) C hKl (c_X7_save l X D2 P (by rw [hR2]; exact hs)) tw_1073 k6 (by decide) rfl mm_X7_save ⟨rfl, rfl⟩ (by rw [hKR]; exact ⟨Nat.le_of_ble_eq_true rfl, Nat.le_of_ble_eq_true rfl⟩) (by rw [hKR]; exact ⟨Nat.le_of_ble_eq_true rfl, Nat.le_of_ble_eq_true rfl⟩) rfl rfl rfl (Nat.le_of_ble_eq_true rfl) dX7_refresh_11 rfl (fun D11 P11 hp11 => ?_) 
    obtain ⟨hR11, rfl⟩ := hp11
    have r7 : D11 7 = D 7 := by rw [hR11, hR2]; rfl
    refine pv_aload_n (q := 15) C dX7_refresh_14 rfl rfl rfl ?_ 
    refine pv_iload_n (q := 16) C dX7_refresh_15 rfl rfl rfl ?_ 
    refine pv_callVi (q := 19) C hKl (c_X7_goRefresh l X D11 P _ (by omega)) tw_1164 k6 (by decide) rfl mm_X7_goRefresh ⟨rfl, rfl⟩ (by rw [hKR]; exact ⟨Nat.le_of_ble_eq_true rfl, Nat.le_of_ble_eq_true rfl⟩) (by rw [hKR]; exact ⟨Nat.le_of_ble_eq_true rfl, Nat.le_of_ble_eq_true rfl⟩) rfl rfl rfl (Nat.le_of_ble_eq_true rfl) dX7_refresh_16 rfl (fun r16 D16 P16 hp16 => ?_) 
    obtain ⟨rfl, hR16, rfl⟩ := hp16
    exact pv_iret C (⟨mr_ok hk2 (by rw [r7, ix_n (by omega)]) (by rw [hR16, r7, ix_n (by omega), hR11, hR2]; rfl), rfl⟩) (by decide) (by decide) dX7_refresh_19
  · refine pv_if_eq (q := 8) (tgt := 10) C dX7_refresh_5 (by decide) rfl (fun h => absurd h (by decide)) (fun _ => ?_)
    refine pv_iconst (q := 9) (v := 0) C dX7_refresh_8 rfl (by decide) ?_ 
    exact pv_iret C (⟨Or.inl ⟨hk2, hR2⟩, rfl⟩) (by decide) (by decide) dX7_refresh_9
set_option maxRecDepth 100000 in
set_option maxHeartbeats 4000000 in
theorem c_X7_nap (l : Launch) (X : XT) (D : DT) (P : PT) (view : Int32) (hs : sok D)  : CG l X yX7_nap (.code yX7_nap cX7_nap 3 (some .int) :: AW) ({ frames := 3, cells := 0, slots := 0, locals := 108 } : Room) [.ref (X.2.2 6), .int view] (qI X (fun r D' P' => mr (kNap (D 7) view) (nI (nps (m_nap (D 7) (ix view)))) D (va_up (m_save (clr D)) 7 (m_nap (D 7) (ix view))) r D' ∧ P = P')) D P 0 0 := by
  refine cg_of (by decide +kernel) (Nat.le_of_ble_eq_true rfl) ?_
  intro K hKl hKR C
  refine PV_lv (lv' := [some (.ref (X.2.2 6)), some (.int view), none]) rfl ?_
  refine pv_iload_n (q := 1) C dX7_nap_0 rfl rfl rfl ?_ 
  refine pv_callSi (q := 4) C hKl (c_X7_isView l X D P _) tw_1144 mm_X7_isView ⟨rfl, rfl⟩ (by rw [hKR]; exact ⟨Nat.le_of_ble_eq_true rfl, Nat.le_of_ble_eq_true rfl⟩) (by rw [hKR]; exact ⟨Nat.le_of_ble_eq_true rfl, Nat.le_of_ble_eq_true rfl⟩) rfl rfl rfl (Nat.le_of_ble_eq_true rfl) dX7_nap_1 rfl (fun r1 D1 P1 hp1 => ?_) 
  rcases hp1 with ⟨⟨hy1, rfl⟩ | ⟨hn1, rfl⟩, rfl, rfl⟩
  · obtain ⟨v, hv, rfl⟩ := rg3 hy1
    refine pv_istore_n (q := 5) C dX7_nap_4 rfl rfl (Nat.le_of_ble_eq_true rfl) rfl ?_ 
    refine pv_aload_n (q := 6) C dX7_nap_5 rfl rfl rfl ?_ 
    refine pv_iload_n (q := 7) C dX7_nap_6 rfl rfl rfl ?_ 
    refine pv_if_ne (q := 10) (tgt := 14) C dX7_nap_7 (by decide) rfl (fun _ => ?_) (fun h => absurd h (by decide)) 
    refine pv_aload_n (q := 15) C dX7_nap_14 rfl rfl rfl ?_ 
    refine pv_iload_n (q := 16) C dX7_nap_15 rfl rfl rfl ?_ 
    refine pv_callVi (q := 19) C hKl (c_X7_naps l X D P _ (by omega)) tw_1089 k6 (by decide) rfl mm_X7_naps ⟨rfl, rfl⟩ (by rw [hKR]; exact ⟨Nat.le_of_ble_eq_true rfl, Nat.le_of_ble_eq_true rfl⟩) (by rw [hKR]; exact ⟨Nat.le_of_ble_eq_true rfl, Nat.le_of_ble_eq_true rfl⟩) rfl rfl rfl (Nat.le_of_ble_eq_true rfl) dX7_nap_16 rfl (fun r16 D16 P16 hp16 => ?_) 
    rcases hp16 with ⟨⟨hy16, rfl⟩ | ⟨hn16, rfl⟩, rfl, rfl⟩
    · refine pv_if_eq (q := 22) (tgt := 26) C dX7_nap_19 (by decide) rfl (fun h => absurd h (by decide)) (fun _ => ?_)
      refine pv_iconst (q := 23) (v := 2) C dX7_nap_22 rfl (by decide) ?_ 
      refine pv_goto (tgt := 27) C dX7_nap_23 (by decide) ?_ 
      refine pv_callVi (q := 30) C hKl (c_X7_refused l X D P _ (by decide)) tw_1069 k6 (by decide) rfl mm_X7_refused ⟨rfl, rfl⟩ (by rw [hKR]; exact ⟨Nat.le_of_ble_eq_true rfl, Nat.le_of_ble_eq_true rfl⟩) (by rw [hKR]; exact ⟨Nat.le_of_ble_eq_true rfl, Nat.le_of_ble_eq_true rfl⟩) rfl rfl rfl (Nat.le_of_ble_eq_true rfl) dX7_nap_27 rfl (fun r27 D27 P27 hp27 => ?_) 
      obtain ⟨rfl, hR27, rfl⟩ := hp27
      refine pv_if_eq (q := 33) (tgt := 35) C dX7_nap_30 (by decide) rfl (fun h => absurd h (by decide)) (fun _ => ?_) 
      refine pv_iconst (q := 34) (v := 0) C dX7_nap_33 rfl (by decide) ?_ 
      exact pv_iret C (⟨mr_no 2 (by unfold kNap; rw [if_pos hy1, ix_n (by omega), if_pos hy16]) (by decide) hR27, rfl⟩) (by decide) (by decide) dX7_nap_34
    · refine pv_if_eq (q := 22) (tgt := 26) C dX7_nap_19 (by decide) rfl (fun _ => ?_) (fun h => absurd h (by decide))
      refine pv_iconst (q := 27) (v := 0) C dX7_nap_26 rfl (by decide) ?_ 
      refine pv_callVi (q := 30) C hKl (c_X7_refused0 l X D P ) tw_1069 k6 (by decide) rfl mm_X7_refused ⟨rfl, rfl⟩ (by rw [hKR]; exact ⟨Nat.le_of_ble_eq_true rfl, Nat.le_of_ble_eq_true rfl⟩) (by rw [hKR]; exact ⟨Nat.le_of_ble_eq_true rfl, Nat.le_of_ble_eq_true rfl⟩) rfl rfl rfl (Nat.le_of_ble_eq_true rfl) dX7_nap_27 rfl (fun r27 D27 P27 hp27 => ?_) 
      obtain ⟨rfl, hR27, rfl⟩ := hp27
      refine pv_if_eq (q := 33) (tgt := 35) C dX7_nap_30 (by decide) rfl (fun _ => ?_) (fun h => absurd h (by decide)) 
      refine pv_aload_n (q := 36) C dX7_nap_35 rfl rfl rfl ?_ 
      refine pv_callVv (q := 39) C hKl (c_X7_save l X D27 P (by rw [hR27]; exact hs)) tw_1073 k6 (by decide) rfl mm_X7_save ⟨rfl, rfl⟩ (by rw [hKR]; exact ⟨Nat.le_of_ble_eq_true rfl, Nat.le_of_ble_eq_true rfl⟩) (by rw [hKR]; exact ⟨Nat.le_of_ble_eq_true rfl, Nat.le_of_ble_eq_true rfl⟩) rfl rfl rfl (Nat.le_of_ble_eq_true rfl) dX7_nap_36 rfl (fun D36 P36 hp36 => ?_) 
      obtain ⟨hR36, rfl⟩ := hp36
      have r7 : D36 7 = D 7 := by rw [hR36, hR27]; rfl
      refine pv_aload_n (q := 40) C dX7_nap_39 rfl rfl rfl ?_ 
      refine pv_iload_n (q := 41) C dX7_nap_40 rfl rfl rfl ?_ 
      refine pv_callVi (q := 44) C hKl (c_X7_goNap l X D36 P _ (by omega)) tw_1148 k6 (by decide) rfl mm_X7_goNap ⟨rfl, rfl⟩ (by rw [hKR]; exact ⟨Nat.le_of_ble_eq_true rfl, Nat.le_of_ble_eq_true rfl⟩) (by rw [hKR]; exact ⟨Nat.le_of_ble_eq_true rfl, Nat.le_of_ble_eq_true rfl⟩) rfl rfl rfl (Nat.le_of_ble_eq_true rfl) dX7_nap_41 rfl (fun r41 D41 P41 hp41 => ?_) 
      obtain ⟨rfl, hR41, rfl⟩ := hp41
      exact pv_iret C (⟨mr_ok (by unfold kNap; rw [if_pos hy1, ix_n (by omega), if_neg hn16]) (by rw [r7, ix_n (by omega)]) (by rw [hR41, r7, ix_n (by omega), hR36, hR27]; rfl), rfl⟩) (by decide) (by decide) dX7_nap_44
  · refine pv_istore_n (q := 5) C dX7_nap_4 rfl rfl (Nat.le_of_ble_eq_true rfl) rfl ?_
    refine pv_aload_n (q := 6) C dX7_nap_5 rfl rfl rfl ?_ 
    refine pv_iload_n (q := 7) C dX7_nap_6 rfl rfl rfl ?_ 
    refine pv_if_ne (q := 10) (tgt := 14) C dX7_nap_7 (by decide) rfl (fun h => absurd h (by decide)) (fun _ => ?_) 
    refine pv_iconst (q := 11) (v := 1) C dX7_nap_10 rfl (by decide) ?_ 
    refine pv_goto (tgt := 27) C dX7_nap_11 (by decide) ?_ 
    refine pv_callVi (q := 30) C hKl (c_X7_refused l X D P _ (by decide)) tw_1069 k6 (by decide) rfl mm_X7_refused ⟨rfl, rfl⟩ (by rw [hKR]; exact ⟨Nat.le_of_ble_eq_true rfl, Nat.le_of_ble_eq_true rfl⟩) (by rw [hKR]; exact ⟨Nat.le_of_ble_eq_true rfl, Nat.le_of_ble_eq_true rfl⟩) rfl rfl rfl (Nat.le_of_ble_eq_true rfl) dX7_nap_27 rfl (fun r27 D27 P27 hp27 => ?_) 
    obtain ⟨rfl, hR27, rfl⟩ := hp27
    refine pv_if_eq (q := 33) (tgt := 35) C dX7_nap_30 (by decide) rfl (fun h => absurd h (by decide)) (fun _ => ?_) 
    refine pv_iconst (q := 34) (v := 0) C dX7_nap_33 rfl (by decide) ?_ 
    exact pv_iret C (⟨mr_no 1 (by unfold kNap; rw [if_neg hn1]) (by decide) hR27, rfl⟩) (by decide) (by decide) dX7_nap_34
set_option maxRecDepth 100000 in
set_option maxHeartbeats 4000000 in
theorem c_X7_wake (l : Launch) (X : XT) (D : DT) (P : PT) (view : Int32) (hs : sok D)  : CG l X yX7_wake (.code yX7_wake cX7_wake 3 (some .int) :: AW) ({ frames := 3, cells := 0, slots := 0, locals := 108 } : Room) [.ref (X.2.2 6), .int view] (qI X (fun r D' P' => mr (kWak (D 7) view) (wt (D 7) (ix view)) D (va_up (m_save (clr D)) 7 (m_wake (D 7) (ix view))) r D' ∧ P = P')) D P 0 0 := by
  refine cg_of (by decide +kernel) (Nat.le_of_ble_eq_true rfl) ?_
  intro K hKl hKR C
  refine PV_lv (lv' := [some (.ref (X.2.2 6)), some (.int view), none]) rfl ?_
  refine pv_iload_n (q := 1) C dX7_wake_0 rfl rfl rfl ?_ 
  refine pv_callSi (q := 4) C hKl (c_X7_isView l X D P _) tw_1144 mm_X7_isView ⟨rfl, rfl⟩ (by rw [hKR]; exact ⟨Nat.le_of_ble_eq_true rfl, Nat.le_of_ble_eq_true rfl⟩) (by rw [hKR]; exact ⟨Nat.le_of_ble_eq_true rfl, Nat.le_of_ble_eq_true rfl⟩) rfl rfl rfl (Nat.le_of_ble_eq_true rfl) dX7_wake_1 rfl (fun r1 D1 P1 hp1 => ?_) 
  rcases hp1 with ⟨⟨hy1, rfl⟩ | ⟨hn1, rfl⟩, rfl, rfl⟩
  · obtain ⟨v, hv, rfl⟩ := rg3 hy1
    refine pv_istore_n (q := 5) C dX7_wake_4 rfl rfl (Nat.le_of_ble_eq_true rfl) rfl ?_ 
    refine pv_aload_n (q := 6) C dX7_wake_5 rfl rfl rfl ?_ 
    refine pv_iload_n (q := 7) C dX7_wake_6 rfl rfl rfl ?_ 
    refine pv_if_ne (q := 10) (tgt := 14) C dX7_wake_7 (by decide) rfl (fun _ => ?_) (fun h => absurd h (by decide)) 
    refine pv_aload_n (q := 15) C dX7_wake_14 rfl rfl rfl ?_ 
    refine pv_iload_n (q := 16) C dX7_wake_15 rfl rfl rfl ?_ 
    refine pv_callVi (q := 19) C hKl (c_X7_naps l X D P _ (by omega)) tw_1089 k6 (by decide) rfl mm_X7_naps ⟨rfl, rfl⟩ (by rw [hKR]; exact ⟨Nat.le_of_ble_eq_true rfl, Nat.le_of_ble_eq_true rfl⟩) (by rw [hKR]; exact ⟨Nat.le_of_ble_eq_true rfl, Nat.le_of_ble_eq_true rfl⟩) rfl rfl rfl (Nat.le_of_ble_eq_true rfl) dX7_wake_16 rfl (fun r16 D16 P16 hp16 => ?_) 
    rcases hp16 with ⟨⟨hy16, rfl⟩ | ⟨hn16, rfl⟩, rfl, rfl⟩
    · refine pv_if_ne (q := 22) (tgt := 26) C dX7_wake_19 (by decide) rfl (fun _ => ?_) (fun h => absurd h (by decide))
      refine pv_iconst (q := 27) (v := 0) C dX7_wake_26 rfl (by decide) ?_ 
      refine pv_callVi (q := 30) C hKl (c_X7_refused0 l X D P ) tw_1069 k6 (by decide) rfl mm_X7_refused ⟨rfl, rfl⟩ (by rw [hKR]; exact ⟨Nat.le_of_ble_eq_true rfl, Nat.le_of_ble_eq_true rfl⟩) (by rw [hKR]; exact ⟨Nat.le_of_ble_eq_true rfl, Nat.le_of_ble_eq_true rfl⟩) rfl rfl rfl (Nat.le_of_ble_eq_true rfl) dX7_wake_27 rfl (fun r27 D27 P27 hp27 => ?_) 
      obtain ⟨rfl, hR27, rfl⟩ := hp27
      refine pv_if_eq (q := 33) (tgt := 35) C dX7_wake_30 (by decide) rfl (fun _ => ?_) (fun h => absurd h (by decide)) 
      refine pv_aload_n (q := 36) C dX7_wake_35 rfl rfl rfl ?_ 
      refine pv_callVv (q := 39) C hKl (c_X7_save l X D27 P (by rw [hR27]; exact hs)) tw_1073 k6 (by decide) rfl mm_X7_save ⟨rfl, rfl⟩ (by rw [hKR]; exact ⟨Nat.le_of_ble_eq_true rfl, Nat.le_of_ble_eq_true rfl⟩) (by rw [hKR]; exact ⟨Nat.le_of_ble_eq_true rfl, Nat.le_of_ble_eq_true rfl⟩) rfl rfl rfl (Nat.le_of_ble_eq_true rfl) dX7_wake_36 rfl (fun D36 P36 hp36 => ?_) 
      obtain ⟨hR36, rfl⟩ := hp36
      have r7 : D36 7 = D 7 := by rw [hR36, hR27]; rfl
      refine pv_aload_n (q := 40) C dX7_wake_39 rfl rfl rfl ?_ 
      refine pv_iload_n (q := 41) C dX7_wake_40 rfl rfl rfl ?_ 
      refine pv_callVi (q := 44) C hKl (c_X7_rouse l X D36 P _ (by omega)) tw_1104 k6 (by decide) rfl mm_X7_rouse ⟨rfl, rfl⟩ (by rw [hKR]; exact ⟨Nat.le_of_ble_eq_true rfl, Nat.le_of_ble_eq_true rfl⟩) (by rw [hKR]; exact ⟨Nat.le_of_ble_eq_true rfl, Nat.le_of_ble_eq_true rfl⟩) rfl rfl rfl (Nat.le_of_ble_eq_true rfl) dX7_wake_41 rfl (fun r41 D41 P41 hp41 => ?_) 
      obtain ⟨rfl, hR41, rfl⟩ := hp41
      exact pv_iret C (⟨mr_ok (by unfold kWak; rw [if_pos hy1, ix_n (by omega), if_pos hy16]) (by rw [r7, ix_n (by omega)]) (by rw [hR41, r7, ix_n (by omega), hR36, hR27]; rfl), rfl⟩) (by decide) (by decide) dX7_wake_44
    · refine pv_if_ne (q := 22) (tgt := 26) C dX7_wake_19 (by decide) rfl (fun h => absurd h (by decide)) (fun _ => ?_)
      refine pv_iconst (q := 23) (v := 2) C dX7_wake_22 rfl (by decide) ?_ 
      refine pv_goto (tgt := 27) C dX7_wake_23 (by decide) ?_ 
      refine pv_callVi (q := 30) C hKl (c_X7_refused l X D P _ (by decide)) tw_1069 k6 (by decide) rfl mm_X7_refused ⟨rfl, rfl⟩ (by rw [hKR]; exact ⟨Nat.le_of_ble_eq_true rfl, Nat.le_of_ble_eq_true rfl⟩) (by rw [hKR]; exact ⟨Nat.le_of_ble_eq_true rfl, Nat.le_of_ble_eq_true rfl⟩) rfl rfl rfl (Nat.le_of_ble_eq_true rfl) dX7_wake_27 rfl (fun r27 D27 P27 hp27 => ?_) 
      obtain ⟨rfl, hR27, rfl⟩ := hp27
      refine pv_if_eq (q := 33) (tgt := 35) C dX7_wake_30 (by decide) rfl (fun h => absurd h (by decide)) (fun _ => ?_) 
      refine pv_iconst (q := 34) (v := 0) C dX7_wake_33 rfl (by decide) ?_ 
      exact pv_iret C (⟨mr_no 2 (by unfold kWak; rw [if_pos hy1, ix_n (by omega), if_neg hn16]) (by decide) hR27, rfl⟩) (by decide) (by decide) dX7_wake_34
  · refine pv_istore_n (q := 5) C dX7_wake_4 rfl rfl (Nat.le_of_ble_eq_true rfl) rfl ?_
    refine pv_aload_n (q := 6) C dX7_wake_5 rfl rfl rfl ?_ 
    refine pv_iload_n (q := 7) C dX7_wake_6 rfl rfl rfl ?_ 
    refine pv_if_ne (q := 10) (tgt := 14) C dX7_wake_7 (by decide) rfl (fun h => absurd h (by decide)) (fun _ => ?_) 
    refine pv_iconst (q := 11) (v := 1) C dX7_wake_10 rfl (by decide) ?_ 
    refine pv_goto (tgt := 27) C dX7_wake_11 (by decide) ?_ 
    refine pv_callVi (q := 30) C hKl (c_X7_refused l X D P _ (by decide)) tw_1069 k6 (by decide) rfl mm_X7_refused ⟨rfl, rfl⟩ (by rw [hKR]; exact ⟨Nat.le_of_ble_eq_true rfl, Nat.le_of_ble_eq_true rfl⟩) (by rw [hKR]; exact ⟨Nat.le_of_ble_eq_true rfl, Nat.le_of_ble_eq_true rfl⟩) rfl rfl rfl (Nat.le_of_ble_eq_true rfl) dX7_wake_27 rfl (fun r27 D27 P27 hp27 => ?_) 
    obtain ⟨rfl, hR27, rfl⟩ := hp27
    refine pv_if_eq (q := 33) (tgt := 35) C dX7_wake_30 (by decide) rfl (fun h => absurd h (by decide)) (fun _ => ?_) 
    refine pv_iconst (q := 34) (v := 0) C dX7_wake_33 rfl (by decide) ?_ 
    exact pv_iret C (⟨mr_no 1 (by unfold kWak; rw [if_neg hn1]) (by decide) hR27, rfl⟩) (by decide) (by decide) dX7_wake_34
set_option maxRecDepth 100000 in
set_option maxHeartbeats 4000000 in
theorem c_X7_set (l : Launch) (X : XT) (D : DT) (P : PT) (v w : Nat) (hv : v < 3) (hw : w < 38) (x : Int32) (hs : sok D)  : CG l X yX7_set (.code yX7_set cX7_set 5 (some .int) :: AW) ({ frames := 1, cells := 0, slots := 0, locals := 36 } : Room) [.ref (X.2.2 6), .int (nI v), .int (nI w), .int x] (qI X (fun r D' P' => r = D 7 (32 + 38 * v + w) ∧ D' = va_up (m_save D) 7 (setV (D 7) v w x) ∧ P = P')) D P 0 0 := by
  refine cg_of (by decide +kernel) (Nat.le_of_ble_eq_true rfl) ?_
  intro K hKl hKR C
  refine PV_lv (lv' := [some (.ref (X.2.2 6)), some (.int (nI v)), some (.int (nI w)), some (.int x), none]) rfl ?_
  refine pv_aload_n (q := 1) C dX7_set_0 rfl rfl rfl ?_ 
  refine pv_callVv (q := 4) C hKl (c_X7_save l X D P hs) tw_1073 k6 (by decide) rfl mm_X7_save ⟨rfl, rfl⟩ (by rw [hKR]; exact ⟨Nat.le_of_ble_eq_true rfl, Nat.le_of_ble_eq_true rfl⟩) (by rw [hKR]; exact ⟨Nat.le_of_ble_eq_true rfl, Nat.le_of_ble_eq_true rfl⟩) rfl rfl rfl (Nat.le_of_ble_eq_true rfl) dX7_set_1 rfl (fun D1 P1 hp1 => ?_) 
  obtain ⟨hR1, rfl⟩ := hp1
  refine pv_aload_n (q := 5) C dX7_set_4 rfl rfl rfl ?_ 
  refine pg_7_1 (q := 8) C k6 tw_996 dX7_set_5 rfl (fun k5 => ?_) 
  refine pv_iload_n (q := 9) C dX7_set_8 rfl rfl rfl ?_ 
  refine pv_callSi (q := 12) C hKl (c_X7_base l X D1 P v) tw_1093 mm_X7_base ⟨rfl, rfl⟩ (by rw [hKR]; exact ⟨Nat.le_of_ble_eq_true rfl, Nat.le_of_ble_eq_true rfl⟩) (by rw [hKR]; exact ⟨Nat.le_of_ble_eq_true rfl, Nat.le_of_ble_eq_true rfl⟩) rfl rfl rfl (Nat.le_of_ble_eq_true rfl) dX7_set_9 rfl (fun r9 D9 P9 hp9 => ?_) 
  obtain ⟨rfl, rfl, rfl⟩ := hp9
  refine pv_iload_n (q := 13) C dX7_set_12 rfl rfl rfl ?_ 
  refine pv_iaddN (q := 14) (a := (32 + 38 * v)) (b := w) C rfl rfl dX7_set_13 rfl ?_ 
  refine pv_iald (q := 15) (j := ((32 + 38 * v) + w)) C (iln_15 k5) rfl (by omega) dX7_set_14 rfl ?_ 
  refine pv_istore (q := 17) C dX7_set_15 rfl (Nat.le_of_ble_eq_true rfl) rfl ?_ 
  refine pv_aload_n (q := 18) C dX7_set_17 rfl rfl rfl ?_ 
  refine pg_7_1 (q := 21) C k6 tw_996 dX7_set_18 rfl (fun k18 => ?_) 
  refine pv_iload_n (q := 22) C dX7_set_21 rfl rfl rfl ?_ 
  refine pv_callSi (q := 25) C hKl (c_X7_base l X D1 P v) tw_1093 mm_X7_base ⟨rfl, rfl⟩ (by rw [hKR]; exact ⟨Nat.le_of_ble_eq_true rfl, Nat.le_of_ble_eq_true rfl⟩) (by rw [hKR]; exact ⟨Nat.le_of_ble_eq_true rfl, Nat.le_of_ble_eq_true rfl⟩) rfl rfl rfl (Nat.le_of_ble_eq_true rfl) dX7_set_22 rfl (fun r22 D22 P22 hp22 => ?_) 
  obtain ⟨rfl, rfl, rfl⟩ := hp22
  refine pv_iload_n (q := 26) C dX7_set_25 rfl rfl rfl ?_ 
  refine pv_iaddN (q := 27) (a := (32 + 38 * v)) (b := w) C rfl rfl dX7_set_26 rfl ?_ 
  refine pv_iload_n (q := 28) C dX7_set_27 rfl rfl rfl ?_ 
  refine pv_iast (q := 29) (j := ((32 + 38 * v) + w)) C (iln_15 k18) rfl (by omega) dX7_set_28 rfl (fun D28 hD28 => ?_) 
  refine pv_iload (q := 31) C dX7_set_29 rfl rfl ?_ 
  exact pv_iret C (by
      have r7 : D1 7 = D 7 := by rw [hR1]; rfl
      refine ⟨by rw [r7], ?_, rfl⟩
      rw [hD28, up2_as, r7, hR1]
      rfl) (by decide) (by decide) dX7_set_31
set_option maxRecDepth 100000 in
set_option maxHeartbeats 4000000 in
theorem c_X7_setFilter (l : Launch) (X : XT) (D : DT) (P : PT) (view least : Int32) (hs : sok D)  : CG l X yX7_setFilter (.code yX7_setFilter cX7_setFilter 5 (some .int) :: AW) ({ frames := 3, cells := 0, slots := 0, locals := 108 } : Room) [.ref (X.2.2 6), .int view, .int least] (qI X (fun r D' P' => mr (kSet view least (-99) 99) (D 7 (32 + 38 * ix view + 34)) D (va_up (m_save (clr D)) 7 (m_ref (setV (D 7) (ix view) 34 least) (ix view))) r D' ∧ P = P')) D P 0 0 := by
  refine cg_of (by decide +kernel) (Nat.le_of_ble_eq_true rfl) ?_
  intro K hKl hKR C
  refine PV_lv (lv' := [some (.ref (X.2.2 6)), some (.int view), some (.int least), none, none]) rfl ?_
  refine pv_aload_n (q := 1) C dX7_setFilter_0 rfl rfl rfl ?_ 
  refine pv_iload_n (q := 2) C dX7_setFilter_1 rfl rfl rfl ?_ 
  refine pv_callSi (q := 5) C hKl (c_X7_isView l X D P _) tw_1144 mm_X7_isView ⟨rfl, rfl⟩ (by rw [hKR]; exact ⟨Nat.le_of_ble_eq_true rfl, Nat.le_of_ble_eq_true rfl⟩) (by rw [hKR]; exact ⟨Nat.le_of_ble_eq_true rfl, Nat.le_of_ble_eq_true rfl⟩) rfl rfl rfl (Nat.le_of_ble_eq_true rfl) dX7_setFilter_2 rfl (fun r2 D2 P2 hp2 => ?_) 
  rcases hp2 with ⟨⟨hy2, rfl⟩ | ⟨hn2, rfl⟩, rfl, rfl⟩
  · obtain ⟨v, hv, rfl⟩ := rg3 hy2
    refine pv_if_ne (q := 8) (tgt := 12) C dX7_setFilter_5 (by decide) rfl (fun _ => ?_) (fun h => absurd h (by decide)) 
    refine pv_iload_n (q := 13) C dX7_setFilter_12 rfl rfl rfl ?_ 
    refine pv_callSi (q := 16) C hKl (c_X7_isAmount l X D P _) tw_1060 mm_X7_isAmount ⟨rfl, rfl⟩ (by rw [hKR]; exact ⟨Nat.le_of_ble_eq_true rfl, Nat.le_of_ble_eq_true rfl⟩) (by rw [hKR]; exact ⟨Nat.le_of_ble_eq_true rfl, Nat.le_of_ble_eq_true rfl⟩) rfl rfl rfl (Nat.le_of_ble_eq_true rfl) dX7_setFilter_13 rfl (fun r13 D13 P13 hp13 => ?_) 
    rcases hp13 with ⟨⟨hy13, rfl⟩ | ⟨hn13, rfl⟩, rfl, rfl⟩
    · refine pv_if_ne (q := 19) (tgt := 23) C dX7_setFilter_16 (by decide) rfl (fun _ => ?_) (fun h => absurd h (by decide))
      refine pv_iconst (q := 24) (v := 0) C dX7_setFilter_23 rfl (by decide) ?_ 
      refine pv_callVi (q := 27) C hKl (c_X7_refused0 l X D P ) tw_1069 k6 (by decide) rfl mm_X7_refused ⟨rfl, rfl⟩ (by rw [hKR]; exact ⟨Nat.le_of_ble_eq_true rfl, Nat.le_of_ble_eq_true rfl⟩) (by rw [hKR]; exact ⟨Nat.le_of_ble_eq_true rfl, Nat.le_of_ble_eq_true rfl⟩) rfl rfl rfl (Nat.le_of_ble_eq_true rfl) dX7_setFilter_24 rfl (fun r24 D24 P24 hp24 => ?_) 
      obtain ⟨rfl, hR24, rfl⟩ := hp24
      refine pv_if_eq (q := 30) (tgt := 32) C dX7_setFilter_27 (by decide) rfl (fun _ => ?_) (fun h => absurd h (by decide)) 
      refine pv_aload_n (q := 33) C dX7_setFilter_32 rfl rfl rfl ?_ 
      refine pv_iload_n (q := 34) C dX7_setFilter_33 rfl rfl rfl ?_ 
      refine pv_bipush (q := 36) (v := 34) C dX7_setFilter_34 rfl (by decide) ?_ 
      refine pv_iload_n (q := 37) C dX7_setFilter_36 rfl rfl rfl ?_ 
      refine pv_callVi (q := 40) C hKl (c_X7_set l X D24 P _ 34 (by omega) (by decide) _ (by rw [hR24]; exact hs)) tw_1172 k6 (by decide) rfl mm_X7_set ⟨rfl, rfl⟩ (by rw [hKR]; exact ⟨Nat.le_of_ble_eq_true rfl, Nat.le_of_ble_eq_true rfl⟩) (by rw [hKR]; exact ⟨Nat.le_of_ble_eq_true rfl, Nat.le_of_ble_eq_true rfl⟩) rfl rfl rfl (Nat.le_of_ble_eq_true rfl) dX7_setFilter_37 rfl (fun r37 D37 P37 hp37 => ?_) 
      obtain ⟨rfl, hR37, rfl⟩ := hp37
      refine pv_istore_n (q := 41) C dX7_setFilter_40 rfl rfl (Nat.le_of_ble_eq_true rfl) rfl ?_ 
      refine pv_aload_n (q := 42) C dX7_setFilter_41 rfl rfl rfl ?_ 
      refine pv_iload_n (q := 43) C dX7_setFilter_42 rfl rfl rfl ?_ 
      refine pv_callVi (q := 46) C hKl (c_X7_goRefresh l X D37 P _ (by omega)) tw_1164 k6 (by decide) rfl mm_X7_goRefresh ⟨rfl, rfl⟩ (by rw [hKR]; exact ⟨Nat.le_of_ble_eq_true rfl, Nat.le_of_ble_eq_true rfl⟩) (by rw [hKR]; exact ⟨Nat.le_of_ble_eq_true rfl, Nat.le_of_ble_eq_true rfl⟩) rfl rfl rfl (Nat.le_of_ble_eq_true rfl) dX7_setFilter_43 rfl (fun r43 D43 P43 hp43 => ?_) 
      obtain ⟨rfl, hR43, rfl⟩ := hp43
      refine pv_istore (q := 48) C dX7_setFilter_46 rfl (Nat.le_of_ble_eq_true rfl) rfl ?_ 
      refine pv_iload_n (q := 49) C dX7_setFilter_48 rfl rfl rfl ?_ 
      exact pv_iret C (⟨mr_ok (by unfold kSet; rw [if_pos hy2, if_pos hy13]) (by rw [hR24, ix_n (by omega)]; rfl) (by rw [hR43, hR37, hR24, va_up_self, va_up_up, ix_n (by omega)]; rfl), rfl⟩) (by decide) (by decide) dX7_setFilter_49
    · refine pv_if_ne (q := 19) (tgt := 23) C dX7_setFilter_16 (by decide) rfl (fun h => absurd h (by decide)) (fun _ => ?_)
      refine pv_iconst (q := 20) (v := 2) C dX7_setFilter_19 rfl (by decide) ?_ 
      refine pv_goto (tgt := 24) C dX7_setFilter_20 (by decide) ?_ 
      refine pv_callVi (q := 27) C hKl (c_X7_refused l X D P _ (by decide)) tw_1069 k6 (by decide) rfl mm_X7_refused ⟨rfl, rfl⟩ (by rw [hKR]; exact ⟨Nat.le_of_ble_eq_true rfl, Nat.le_of_ble_eq_true rfl⟩) (by rw [hKR]; exact ⟨Nat.le_of_ble_eq_true rfl, Nat.le_of_ble_eq_true rfl⟩) rfl rfl rfl (Nat.le_of_ble_eq_true rfl) dX7_setFilter_24 rfl (fun r24 D24 P24 hp24 => ?_) 
      obtain ⟨rfl, hR24, rfl⟩ := hp24
      refine pv_if_eq (q := 30) (tgt := 32) C dX7_setFilter_27 (by decide) rfl (fun h => absurd h (by decide)) (fun _ => ?_) 
      refine pv_iconst (q := 31) (v := 0) C dX7_setFilter_30 rfl (by decide) ?_ 
      exact pv_iret C (⟨mr_no 2 (by unfold kSet; rw [if_pos hy2, if_neg hn13]) (by decide) hR24, rfl⟩) (by decide) (by decide) dX7_setFilter_31
  · refine pv_if_ne (q := 8) (tgt := 12) C dX7_setFilter_5 (by decide) rfl (fun h => absurd h (by decide)) (fun _ => ?_)
    refine pv_iconst (q := 9) (v := 1) C dX7_setFilter_8 rfl (by decide) ?_ 
    refine pv_goto (tgt := 24) C dX7_setFilter_9 (by decide) ?_ 
    refine pv_callVi (q := 27) C hKl (c_X7_refused l X D P _ (by decide)) tw_1069 k6 (by decide) rfl mm_X7_refused ⟨rfl, rfl⟩ (by rw [hKR]; exact ⟨Nat.le_of_ble_eq_true rfl, Nat.le_of_ble_eq_true rfl⟩) (by rw [hKR]; exact ⟨Nat.le_of_ble_eq_true rfl, Nat.le_of_ble_eq_true rfl⟩) rfl rfl rfl (Nat.le_of_ble_eq_true rfl) dX7_setFilter_24 rfl (fun r24 D24 P24 hp24 => ?_) 
    obtain ⟨rfl, hR24, rfl⟩ := hp24
    refine pv_if_eq (q := 30) (tgt := 32) C dX7_setFilter_27 (by decide) rfl (fun h => absurd h (by decide)) (fun _ => ?_) 
    refine pv_iconst (q := 31) (v := 0) C dX7_setFilter_30 rfl (by decide) ?_ 
    exact pv_iret C (⟨mr_no 1 (by unfold kSet; rw [if_neg hn2]) (by decide) hR24, rfl⟩) (by decide) (by decide) dX7_setFilter_31
set_option maxRecDepth 100000 in
set_option maxHeartbeats 4000000 in
theorem c_X7_setBehind (l : Launch) (X : XT) (D : DT) (P : PT) (view deltas : Int32) (hs : sok D) (hf : fl (D 7))  : CG l X yX7_setBehind (.code yX7_setBehind cX7_setBehind 4 (some .int) :: AW) ({ frames := 4, cells := 0, slots := 0, locals := 144 } : Room) [.ref (X.2.2 6), .int view, .int deltas] (qI X (fun r D' P' => mr (kSet view deltas 1 30) (D 7 (32 + 38 * ix view + 35)) D (va_up (m_save (clr D)) 7 (m_settle (setV (D 7) (ix view) 35 deltas))) r D' ∧ P = P')) D P 0 0 := by
  refine cg_of (by decide +kernel) (Nat.le_of_ble_eq_true rfl) ?_
  intro K hKl hKR C
  refine PV_lv (lv' := [some (.ref (X.2.2 6)), some (.int view), some (.int deltas), none]) rfl ?_
  refine pv_aload_n (q := 1) C dX7_setBehind_0 rfl rfl rfl ?_ 
  refine pv_iload_n (q := 2) C dX7_setBehind_1 rfl rfl rfl ?_ 
  refine pv_callSi (q := 5) C hKl (c_X7_isView l X D P _) tw_1144 mm_X7_isView ⟨rfl, rfl⟩ (by rw [hKR]; exact ⟨Nat.le_of_ble_eq_true rfl, Nat.le_of_ble_eq_true rfl⟩) (by rw [hKR]; exact ⟨Nat.le_of_ble_eq_true rfl, Nat.le_of_ble_eq_true rfl⟩) rfl rfl rfl (Nat.le_of_ble_eq_true rfl) dX7_setBehind_2 rfl (fun r2 D2 P2 hp2 => ?_) 
  rcases hp2 with ⟨⟨hy2, rfl⟩ | ⟨hn2, rfl⟩, rfl, rfl⟩
  · obtain ⟨v, hv, rfl⟩ := rg3 hy2
    refine pv_if_ne (q := 8) (tgt := 12) C dX7_setBehind_5 (by decide) rfl (fun _ => ?_) (fun h => absurd h (by decide)) 
    refine pv_iload_n (q := 13) C dX7_setBehind_12 rfl rfl rfl ?_ 
    refine pv_i2l (q := 14) C dX7_setBehind_13 rfl ?_ 
    refine pv_lconst (q := 15) (v := 1) C dX7_setBehind_14 rfl (by decide) ?_ 
    refine pv_ldc2 (q := 18) C dX7_setBehind_15 rfl tw_1180 ?_ 
    refine pv_callSi (q := 21) C hKl (c_X7_in l X D P _ _ _) tw_1053 mm_X7_in ⟨rfl, rfl⟩ (by rw [hKR]; exact ⟨Nat.le_of_ble_eq_true rfl, Nat.le_of_ble_eq_true rfl⟩) (by rw [hKR]; exact ⟨Nat.le_of_ble_eq_true rfl, Nat.le_of_ble_eq_true rfl⟩) rfl rfl rfl (Nat.le_of_ble_eq_true rfl) dX7_setBehind_18 rfl (fun r18 D18 P18 hp18 => ?_) 
    rcases hp18 with ⟨⟨hz18, rfl⟩ | ⟨hm18, rfl⟩, rfl, rfl⟩
    · have hy18 : rg deltas 1 30 := (rg_l (by decide) (by decide)).mpr hz18
      refine pv_if_ne (q := 24) (tgt := 28) C dX7_setBehind_21 (by decide) rfl (fun _ => ?_) (fun h => absurd h (by decide)) 
      refine pv_iconst (q := 29) (v := 0) C dX7_setBehind_28 rfl (by decide) ?_ 
      refine pv_callVi (q := 32) C hKl (c_X7_refused0 l X D P ) tw_1069 k6 (by decide) rfl mm_X7_refused ⟨rfl, rfl⟩ (by rw [hKR]; exact ⟨Nat.le_of_ble_eq_true rfl, Nat.le_of_ble_eq_true rfl⟩) (by rw [hKR]; exact ⟨Nat.le_of_ble_eq_true rfl, Nat.le_of_ble_eq_true rfl⟩) rfl rfl rfl (Nat.le_of_ble_eq_true rfl) dX7_setBehind_29 rfl (fun r29 D29 P29 hp29 => ?_) 
      obtain ⟨rfl, hR29, rfl⟩ := hp29
      refine pv_if_eq (q := 35) (tgt := 37) C dX7_setBehind_32 (by decide) rfl (fun _ => ?_) (fun h => absurd h (by decide)) 
      refine pv_aload_n (q := 38) C dX7_setBehind_37 rfl rfl rfl ?_ 
      refine pv_iload_n (q := 39) C dX7_setBehind_38 rfl rfl rfl ?_ 
      refine pv_bipush (q := 41) (v := 35) C dX7_setBehind_39 rfl (by decide) ?_ 
      refine pv_iload_n (q := 42) C dX7_setBehind_41 rfl rfl rfl ?_ 
      refine pv_callVi (q := 45) C hKl (c_X7_set l X D29 P _ 35 (by omega) (by decide) _ (by rw [hR29]; exact hs)) tw_1172 k6 (by decide) rfl mm_X7_set ⟨rfl, rfl⟩ (by rw [hKR]; exact ⟨Nat.le_of_ble_eq_true rfl, Nat.le_of_ble_eq_true rfl⟩) (by rw [hKR]; exact ⟨Nat.le_of_ble_eq_true rfl, Nat.le_of_ble_eq_true rfl⟩) rfl rfl rfl (Nat.le_of_ble_eq_true rfl) dX7_setBehind_42 rfl (fun r42 D42 P42 hp42 => ?_) 
      obtain ⟨rfl, hR42, rfl⟩ := hp42
      refine pv_istore_n (q := 46) C dX7_setBehind_45 rfl rfl (Nat.le_of_ble_eq_true rfl) rfl ?_ 
      refine pv_aload_n (q := 47) C dX7_setBehind_46 rfl rfl rfl ?_ 
      refine pv_callVv (q := 50) C hKl (c_X7_rouseBehind l X D42 P (by rw [hR42, va_up_self, hR29]; exact fl_upg hf (fun u hu => by omega))) tw_1085 k6 (by decide) rfl mm_X7_rouseBehind ⟨rfl, rfl⟩ (by rw [hKR]; exact ⟨Nat.le_of_ble_eq_true rfl, Nat.le_of_ble_eq_true rfl⟩) (by rw [hKR]; exact ⟨Nat.le_of_ble_eq_true rfl, Nat.le_of_ble_eq_true rfl⟩) rfl rfl rfl (Nat.le_of_ble_eq_true rfl) dX7_setBehind_47 rfl (fun D47 P47 hp47 => ?_) 
      obtain ⟨hR47, rfl⟩ := hp47
      refine pv_iload_n (q := 51) C dX7_setBehind_50 rfl rfl rfl ?_ 
      exact pv_iret C (⟨mr_ok (by unfold kSet; rw [if_pos hy2, if_pos hy18]) (by rw [hR29, ix_n (by omega)]; rfl) (by rw [hR47, hR42, hR29, va_up_self, va_up_up, ix_n (by omega)]; rfl), rfl⟩) (by decide) (by decide) dX7_setBehind_51
    · have hn18 : ¬ rg deltas 1 30 := fun q => hm18 ((rg_l (by decide) (by decide)).mp q)
      refine pv_if_ne (q := 24) (tgt := 28) C dX7_setBehind_21 (by decide) rfl (fun h => absurd h (by decide)) (fun _ => ?_) 
      refine pv_iconst (q := 25) (v := 2) C dX7_setBehind_24 rfl (by decide) ?_ 
      refine pv_goto (tgt := 29) C dX7_setBehind_25 (by decide) ?_ 
      refine pv_callVi (q := 32) C hKl (c_X7_refused l X D P _ (by decide)) tw_1069 k6 (by decide) rfl mm_X7_refused ⟨rfl, rfl⟩ (by rw [hKR]; exact ⟨Nat.le_of_ble_eq_true rfl, Nat.le_of_ble_eq_true rfl⟩) (by rw [hKR]; exact ⟨Nat.le_of_ble_eq_true rfl, Nat.le_of_ble_eq_true rfl⟩) rfl rfl rfl (Nat.le_of_ble_eq_true rfl) dX7_setBehind_29 rfl (fun r29 D29 P29 hp29 => ?_) 
      obtain ⟨rfl, hR29, rfl⟩ := hp29
      refine pv_if_eq (q := 35) (tgt := 37) C dX7_setBehind_32 (by decide) rfl (fun h => absurd h (by decide)) (fun _ => ?_) 
      refine pv_iconst (q := 36) (v := 0) C dX7_setBehind_35 rfl (by decide) ?_ 
      exact pv_iret C (⟨mr_no 2 (by unfold kSet; rw [if_pos hy2, if_neg hn18]) (by decide) hR29, rfl⟩) (by decide) (by decide) dX7_setBehind_36
  · refine pv_if_ne (q := 8) (tgt := 12) C dX7_setBehind_5 (by decide) rfl (fun h => absurd h (by decide)) (fun _ => ?_)
    refine pv_iconst (q := 9) (v := 1) C dX7_setBehind_8 rfl (by decide) ?_ 
    refine pv_goto (tgt := 29) C dX7_setBehind_9 (by decide) ?_ 
    refine pv_callVi (q := 32) C hKl (c_X7_refused l X D P _ (by decide)) tw_1069 k6 (by decide) rfl mm_X7_refused ⟨rfl, rfl⟩ (by rw [hKR]; exact ⟨Nat.le_of_ble_eq_true rfl, Nat.le_of_ble_eq_true rfl⟩) (by rw [hKR]; exact ⟨Nat.le_of_ble_eq_true rfl, Nat.le_of_ble_eq_true rfl⟩) rfl rfl rfl (Nat.le_of_ble_eq_true rfl) dX7_setBehind_29 rfl (fun r29 D29 P29 hp29 => ?_) 
    obtain ⟨rfl, hR29, rfl⟩ := hp29
    refine pv_if_eq (q := 35) (tgt := 37) C dX7_setBehind_32 (by decide) rfl (fun h => absurd h (by decide)) (fun _ => ?_) 
    refine pv_iconst (q := 36) (v := 0) C dX7_setBehind_35 rfl (by decide) ?_ 
    exact pv_iret C (⟨mr_no 1 (by unfold kSet; rw [if_neg hn2]) (by decide) hR29, rfl⟩) (by decide) (by decide) dX7_setBehind_36
set_option maxRecDepth 100000 in
set_option maxHeartbeats 4000000 in
theorem c_X7_setLongest (l : Launch) (X : XT) (D : DT) (P : PT) (view ticks : Int32) (hs : sok D)  : CG l X yX7_setLongest (.code yX7_setLongest cX7_setLongest 3 (some .int) :: AW) ({ frames := 2, cells := 0, slots := 0, locals := 72 } : Room) [.ref (X.2.2 6), .int view, .int ticks] (qI X (fun r D' P' => mr (kSet view ticks 1 30) (D 7 (32 + 38 * ix view + 36)) D (va_up (m_save (clr D)) 7 (setV (D 7) (ix view) 36 ticks)) r D' ∧ P = P')) D P 0 0 := by
  refine cg_of (by decide +kernel) (Nat.le_of_ble_eq_true rfl) ?_
  intro K hKl hKR C
  refine PV_lv (lv' := [some (.ref (X.2.2 6)), some (.int view), some (.int ticks)]) rfl ?_
  refine pv_aload_n (q := 1) C dX7_setLongest_0 rfl rfl rfl ?_ 
  refine pv_iload_n (q := 2) C dX7_setLongest_1 rfl rfl rfl ?_ 
  refine pv_callSi (q := 5) C hKl (c_X7_isView l X D P _) tw_1144 mm_X7_isView ⟨rfl, rfl⟩ (by rw [hKR]; exact ⟨Nat.le_of_ble_eq_true rfl, Nat.le_of_ble_eq_true rfl⟩) (by rw [hKR]; exact ⟨Nat.le_of_ble_eq_true rfl, Nat.le_of_ble_eq_true rfl⟩) rfl rfl rfl (Nat.le_of_ble_eq_true rfl) dX7_setLongest_2 rfl (fun r2 D2 P2 hp2 => ?_) 
  rcases hp2 with ⟨⟨hy2, rfl⟩ | ⟨hn2, rfl⟩, rfl, rfl⟩
  · obtain ⟨v, hv, rfl⟩ := rg3 hy2
    refine pv_if_ne (q := 8) (tgt := 12) C dX7_setLongest_5 (by decide) rfl (fun _ => ?_) (fun h => absurd h (by decide)) 
    refine pv_iload_n (q := 13) C dX7_setLongest_12 rfl rfl rfl ?_ 
    refine pv_i2l (q := 14) C dX7_setLongest_13 rfl ?_ 
    refine pv_lconst (q := 15) (v := 1) C dX7_setLongest_14 rfl (by decide) ?_ 
    refine pv_ldc2 (q := 18) C dX7_setLongest_15 rfl tw_1180 ?_ 
    refine pv_callSi (q := 21) C hKl (c_X7_in l X D P _ _ _) tw_1053 mm_X7_in ⟨rfl, rfl⟩ (by rw [hKR]; exact ⟨Nat.le_of_ble_eq_true rfl, Nat.le_of_ble_eq_true rfl⟩) (by rw [hKR]; exact ⟨Nat.le_of_ble_eq_true rfl, Nat.le_of_ble_eq_true rfl⟩) rfl rfl rfl (Nat.le_of_ble_eq_true rfl) dX7_setLongest_18 rfl (fun r18 D18 P18 hp18 => ?_) 
    rcases hp18 with ⟨⟨hz18, rfl⟩ | ⟨hm18, rfl⟩, rfl, rfl⟩
    · have hy18 : rg ticks 1 30 := (rg_l (by decide) (by decide)).mpr hz18
      refine pv_if_ne (q := 24) (tgt := 28) C dX7_setLongest_21 (by decide) rfl (fun _ => ?_) (fun h => absurd h (by decide)) 
      refine pv_iconst (q := 29) (v := 0) C dX7_setLongest_28 rfl (by decide) ?_ 
      refine pv_callVi (q := 32) C hKl (c_X7_refused0 l X D P ) tw_1069 k6 (by decide) rfl mm_X7_refused ⟨rfl, rfl⟩ (by rw [hKR]; exact ⟨Nat.le_of_ble_eq_true rfl, Nat.le_of_ble_eq_true rfl⟩) (by rw [hKR]; exact ⟨Nat.le_of_ble_eq_true rfl, Nat.le_of_ble_eq_true rfl⟩) rfl rfl rfl (Nat.le_of_ble_eq_true rfl) dX7_setLongest_29 rfl (fun r29 D29 P29 hp29 => ?_) 
      obtain ⟨rfl, hR29, rfl⟩ := hp29
      refine pv_if_eq (q := 35) (tgt := 37) C dX7_setLongest_32 (by decide) rfl (fun _ => ?_) (fun h => absurd h (by decide)) 
      refine pv_aload_n (q := 38) C dX7_setLongest_37 rfl rfl rfl ?_ 
      refine pv_iload_n (q := 39) C dX7_setLongest_38 rfl rfl rfl ?_ 
      refine pv_bipush (q := 41) (v := 36) C dX7_setLongest_39 rfl (by decide) ?_ 
      refine pv_iload_n (q := 42) C dX7_setLongest_41 rfl rfl rfl ?_ 
      refine pv_callVi (q := 45) C hKl (c_X7_set l X D29 P _ 36 (by omega) (by decide) _ (by rw [hR29]; exact hs)) tw_1172 k6 (by decide) rfl mm_X7_set ⟨rfl, rfl⟩ (by rw [hKR]; exact ⟨Nat.le_of_ble_eq_true rfl, Nat.le_of_ble_eq_true rfl⟩) (by rw [hKR]; exact ⟨Nat.le_of_ble_eq_true rfl, Nat.le_of_ble_eq_true rfl⟩) rfl rfl rfl (Nat.le_of_ble_eq_true rfl) dX7_setLongest_42 rfl (fun r42 D42 P42 hp42 => ?_) 
      obtain ⟨rfl, hR42, rfl⟩ := hp42
      exact pv_iret C (⟨mr_ok (by unfold kSet; rw [if_pos hy2, if_pos hy18]) (by rw [hR29, ix_n (by omega)]; rfl) (by rw [hR42, hR29, ix_n (by omega)]; rfl), rfl⟩) (by decide) (by decide) dX7_setLongest_45
    · have hn18 : ¬ rg ticks 1 30 := fun q => hm18 ((rg_l (by decide) (by decide)).mp q)
      refine pv_if_ne (q := 24) (tgt := 28) C dX7_setLongest_21 (by decide) rfl (fun h => absurd h (by decide)) (fun _ => ?_) 
      refine pv_iconst (q := 25) (v := 2) C dX7_setLongest_24 rfl (by decide) ?_ 
      refine pv_goto (tgt := 29) C dX7_setLongest_25 (by decide) ?_ 
      refine pv_callVi (q := 32) C hKl (c_X7_refused l X D P _ (by decide)) tw_1069 k6 (by decide) rfl mm_X7_refused ⟨rfl, rfl⟩ (by rw [hKR]; exact ⟨Nat.le_of_ble_eq_true rfl, Nat.le_of_ble_eq_true rfl⟩) (by rw [hKR]; exact ⟨Nat.le_of_ble_eq_true rfl, Nat.le_of_ble_eq_true rfl⟩) rfl rfl rfl (Nat.le_of_ble_eq_true rfl) dX7_setLongest_29 rfl (fun r29 D29 P29 hp29 => ?_) 
      obtain ⟨rfl, hR29, rfl⟩ := hp29
      refine pv_if_eq (q := 35) (tgt := 37) C dX7_setLongest_32 (by decide) rfl (fun h => absurd h (by decide)) (fun _ => ?_) 
      refine pv_iconst (q := 36) (v := 0) C dX7_setLongest_35 rfl (by decide) ?_ 
      exact pv_iret C (⟨mr_no 2 (by unfold kSet; rw [if_pos hy2, if_neg hn18]) (by decide) hR29, rfl⟩) (by decide) (by decide) dX7_setLongest_36
  · refine pv_if_ne (q := 8) (tgt := 12) C dX7_setLongest_5 (by decide) rfl (fun h => absurd h (by decide)) (fun _ => ?_)
    refine pv_iconst (q := 9) (v := 1) C dX7_setLongest_8 rfl (by decide) ?_ 
    refine pv_goto (tgt := 29) C dX7_setLongest_9 (by decide) ?_ 
    refine pv_callVi (q := 32) C hKl (c_X7_refused l X D P _ (by decide)) tw_1069 k6 (by decide) rfl mm_X7_refused ⟨rfl, rfl⟩ (by rw [hKR]; exact ⟨Nat.le_of_ble_eq_true rfl, Nat.le_of_ble_eq_true rfl⟩) (by rw [hKR]; exact ⟨Nat.le_of_ble_eq_true rfl, Nat.le_of_ble_eq_true rfl⟩) rfl rfl rfl (Nat.le_of_ble_eq_true rfl) dX7_setLongest_29 rfl (fun r29 D29 P29 hp29 => ?_) 
    obtain ⟨rfl, hR29, rfl⟩ := hp29
    refine pv_if_eq (q := 35) (tgt := 37) C dX7_setLongest_32 (by decide) rfl (fun h => absurd h (by decide)) (fun _ => ?_) 
    refine pv_iconst (q := 36) (v := 0) C dX7_setLongest_35 rfl (by decide) ?_ 
    exact pv_iret C (⟨mr_no 1 (by unfold kSet; rw [if_neg hn2]) (by decide) hR29, rfl⟩) (by decide) (by decide) dX7_setLongest_36
set_option maxRecDepth 100000 in
set_option maxHeartbeats 4000000 in
theorem c_X7_pass (l : Launch) (X : XT) (D : DT) (P : PT) (ticks : Int32) (hs : sok D) (hf : fl (D 7))  : CG l X yX7_pass (.code yX7_pass cX7_pass 2 (some .int) :: AW) ({ frames := 4, cells := 0, slots := 0, locals := 144 } : Room) [.ref (X.2.2 6), .int ticks] (qI X (fun r D' P' => mr (kRg ticks 1 30) (m_ticks (D 7) (ix ticks) 181 - D 7 181) D (va_up (m_save (clr D)) 7 (m_ticks (D 7) (ix ticks))) r D' ∧ P = P')) D P 0 0 := by
  refine cg_of (by decide +kernel) (Nat.le_of_ble_eq_true rfl) ?_
  intro K hKl hKR C
  refine PV_lv (lv' := [some (.ref (X.2.2 6)), some (.int ticks)]) rfl ?_
  refine pv_aload_n (q := 1) C dX7_pass_0 rfl rfl rfl ?_ 
  refine pv_iload_n (q := 2) C dX7_pass_1 rfl rfl rfl ?_ 
  refine pv_i2l (q := 3) C dX7_pass_2 rfl ?_ 
  refine pv_lconst (q := 4) (v := 1) C dX7_pass_3 rfl (by decide) ?_ 
  refine pv_ldc2 (q := 7) C dX7_pass_4 rfl tw_1180 ?_ 
  refine pv_callSi (q := 10) C hKl (c_X7_in l X D P _ _ _) tw_1053 mm_X7_in ⟨rfl, rfl⟩ (by rw [hKR]; exact ⟨Nat.le_of_ble_eq_true rfl, Nat.le_of_ble_eq_true rfl⟩) (by rw [hKR]; exact ⟨Nat.le_of_ble_eq_true rfl, Nat.le_of_ble_eq_true rfl⟩) rfl rfl rfl (Nat.le_of_ble_eq_true rfl) dX7_pass_7 rfl (fun r7 D7 P7 hp7 => ?_) 
  rcases hp7 with ⟨⟨hz7, rfl⟩ | ⟨hm7, rfl⟩, rfl, rfl⟩
  · have hy7 : rg ticks 1 30 := (rg_l (by decide) (by decide)).mpr hz7
    obtain ⟨t, ht1, ht2, rfl⟩ := rg30 hy7
    refine pv_if_eq (q := 13) (tgt := 17) C dX7_pass_10 (by decide) rfl (fun h => absurd h (by decide)) (fun _ => ?_) 
    refine pv_iconst (q := 14) (v := 0) C dX7_pass_13 rfl (by decide) ?_ 
    refine pv_goto (tgt := 18) C dX7_pass_14 (by decide) ?_ 
    refine pv_callVi (q := 21) C hKl (c_X7_refused0 l X D P ) tw_1069 k6 (by decide) rfl mm_X7_refused ⟨rfl, rfl⟩ (by rw [hKR]; exact ⟨Nat.le_of_ble_eq_true rfl, Nat.le_of_ble_eq_true rfl⟩) (by rw [hKR]; exact ⟨Nat.le_of_ble_eq_true rfl, Nat.le_of_ble_eq_true rfl⟩) rfl rfl rfl (Nat.le_of_ble_eq_true rfl) dX7_pass_18 rfl (fun r18 D18 P18 hp18 => ?_) 
    obtain ⟨rfl, hR18, rfl⟩ := hp18
    refine pv_if_eq (q := 24) (tgt := 26) C dX7_pass_21 (by decide) rfl (fun _ => ?_) (fun h => absurd h (by decide)) 
    refine pv_aload_n (q := 27) C dX7_pass_26 rfl rfl rfl ?_ 
    refine pv_callVv (q := 30) C hKl (c_X7_save l X D18 P (by rw [hR18]; exact hs)) tw_1073 k6 (by decide) rfl mm_X7_save ⟨rfl, rfl⟩ (by rw [hKR]; exact ⟨Nat.le_of_ble_eq_true rfl, Nat.le_of_ble_eq_true rfl⟩) (by rw [hKR]; exact ⟨Nat.le_of_ble_eq_true rfl, Nat.le_of_ble_eq_true rfl⟩) rfl rfl rfl (Nat.le_of_ble_eq_true rfl) dX7_pass_27 rfl (fun D27 P27 hp27 => ?_) 
    obtain ⟨hR27, rfl⟩ := hp27
    have r7 : D27 7 = D 7 := by rw [hR27, hR18]; rfl
    refine pv_aload_n (q := 31) C dX7_pass_30 rfl rfl rfl ?_ 
    refine pv_iload_n (q := 32) C dX7_pass_31 rfl rfl rfl ?_ 
    refine pv_callVi (q := 35) C hKl (c_X7_goPass l X D27 P _ (by omega) (by rw [r7]; exact hf)) tw_1189 k6 (by decide) rfl mm_X7_goPass ⟨rfl, rfl⟩ (by rw [hKR]; exact ⟨Nat.le_of_ble_eq_true rfl, Nat.le_of_ble_eq_true rfl⟩) (by rw [hKR]; exact ⟨Nat.le_of_ble_eq_true rfl, Nat.le_of_ble_eq_true rfl⟩) rfl rfl rfl (Nat.le_of_ble_eq_true rfl) dX7_pass_32 rfl (fun r32 D32 P32 hp32 => ?_) 
    obtain ⟨rfl, hR32, rfl⟩ := hp32
    exact pv_iret C (⟨mr_ok (by unfold kRg; rw [if_pos hy7]) (by rw [r7, ix_n (by omega)]) (by rw [hR32, r7, ix_n (by omega), hR27, hR18]; rfl), rfl⟩) (by decide) (by decide) dX7_pass_35
  · have hn7 : ¬ rg ticks 1 30 := fun q => hm7 ((rg_l (by decide) (by decide)).mp q)
    refine pv_if_eq (q := 13) (tgt := 17) C dX7_pass_10 (by decide) rfl (fun _ => ?_) (fun h => absurd h (by decide)) 
    refine pv_iconst (q := 18) (v := 1) C dX7_pass_17 rfl (by decide) ?_ 
    refine pv_callVi (q := 21) C hKl (c_X7_refused l X D P _ (by decide)) tw_1069 k6 (by decide) rfl mm_X7_refused ⟨rfl, rfl⟩ (by rw [hKR]; exact ⟨Nat.le_of_ble_eq_true rfl, Nat.le_of_ble_eq_true rfl⟩) (by rw [hKR]; exact ⟨Nat.le_of_ble_eq_true rfl, Nat.le_of_ble_eq_true rfl⟩) rfl rfl rfl (Nat.le_of_ble_eq_true rfl) dX7_pass_18 rfl (fun r18 D18 P18 hp18 => ?_) 
    obtain ⟨rfl, hR18, rfl⟩ := hp18
    refine pv_if_eq (q := 24) (tgt := 26) C dX7_pass_21 (by decide) rfl (fun h => absurd h (by decide)) (fun _ => ?_) 
    refine pv_iconst (q := 25) (v := 0) C dX7_pass_24 rfl (by decide) ?_ 
    exact pv_iret C (⟨mr_no 1 (by unfold kRg; rw [if_neg hn7]) (by decide) hR18, rfl⟩) (by decide) (by decide) dX7_pass_25
