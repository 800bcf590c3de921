set_option maxRecDepth 100000 in
set_option maxHeartbeats 4000000 in
theorem c_X7_lay (l : Launch) (X : XT) (D : DT) (P : PT) (fr g t : Nat) (lo : Int32) (hfr : fr + 32 ≤ 184) (hg : g < 4) (ht : kd t = 9) : CG l X yX7_lay (.code yX7_lay cX7_lay 9 (some .int) :: AW) ({ frames := 0, cells := 0, slots := 0, locals := 0 } : Room) [.ref (X.2.2 6), .int (nI fr), .int (nI g), .int lo, .ref (X.2.2 t)] (qI X (fun r D' P' => (∃ f n, r = nI n ∧ n ≤ 16 ∧ D' = va_up D t f ∧ SL f n (fun a => tcn (fun p => D 7 (fr + p)) (fun p => D 7 (fr + 16 + p)) (nI (g + 1)) lo a 16)) ∧ P = P')) D P 0 0 := by
  refine cg_of (by decide +kernel) (Nat.le_of_ble_eq_true rfl) ?_
  intro K hKl hKR C
  refine PV_lv (lv' := [some (.ref (X.2.2 6)), some (.int (nI fr)), some (.int (nI g)), some (.int lo), some (.ref (X.2.2 t)), none, none, none, none]) rfl ?_
  have n7 : 7 ≠ t := kne (by rfl : kd 7 = 15) ht (by decide)
  refine pv_iconst (q := 1) (v := 0) C dX7_lay_0 rfl (by decide) ?_ 
  refine pv_istore (q := 3) C dX7_lay_1 rfl (Nat.le_of_ble_eq_true rfl) rfl ?_ 
  refine pv_iconst (q := 4) (v := 0) C dX7_lay_3 rfl (by decide) ?_ 
  refine pv_istore (q := 6) C dX7_lay_4 rfl (Nat.le_of_ble_eq_true rfl) rfl ?_ 
  have loop_6 : ∀ (nn : Nat) (p n : Nat) (f : Nat → Int32), (17 ≤ p + nn) → p ≤ 16 → n ≤ p → SL f n (fun a => tcn (fun p => D 7 (fr + p)) (fun p => D 7 (fr + 16 + p)) (nI (g + 1)) lo a p) → PV K X (MK K X (qI X (fun r D' P' => (∃ f n, r = nI n ∧ n ≤ 16 ∧ D' = va_up D t f ∧ SL f n (fun a => tcn (fun p => D 7 (fr + p)) (fun p => D 7 (fr + 16 + p)) (nI (g + 1)) lo a 16)) ∧ P = P')) 0 0) (0) (0) 6 [some (.ref (X.2.2 6)), some (.int (nI fr)), some (.int (nI g)), some (.int lo), some (.ref (X.2.2 t)), some (.int (nI n)), some (.int (nI p)), none, none] [] (va_up D t f) P := by
    intro nn
    induction nn with
    | zero =>
      intro p n f hfuel hp hn hsl
      exact absurd hfuel (by omega)
    | succ nn ih =>
      intro p n f hfuel hp hn hsl
      have ihO := ih
      refine pv_iload (q := 8) C dX7_lay_6 rfl rfl ?_ 
      refine pv_bipush (q := 10) (v := 16) C dX7_lay_8 rfl (by decide) ?_ 
      refine pv_icmp_geN (q := 13) (tgt := 103) (a := p) (b := 16) C rfl rfl (by omega) (by omega) dX7_lay_10 (by decide) rfl (fun c_10 => ?_) (fun c_10 => ?_) 
      · refine pv_iload (q := 105) C dX7_lay_103 rfl rfl ?_
        exact pv_iret C (⟨⟨f, n, rfl, by omega, rfl, by rw [show p = 16 by omega] at hsl; exact hsl⟩, rfl⟩) (by decide) (by decide) dX7_lay_105
      · refine pv_aload_n (q := 14) C dX7_lay_13 rfl rfl rfl ?_
        refine pg_7_1 (q := 17) C k6 tw_996 dX7_lay_14 rfl (fun k14 => ?_) 
        refine pv_iload_n (q := 18) C dX7_lay_17 rfl rfl rfl ?_ 
        refine pv_bipush (q := 20) (v := 16) C dX7_lay_18 rfl (by decide) ?_ 
        refine pv_iaddN (q := 21) (a := fr) (b := 16) C rfl rfl dX7_lay_20 rfl ?_ 
        refine pv_iload (q := 23) C dX7_lay_21 rfl rfl ?_ 
        refine pv_iaddN (q := 24) (a := (fr + 16)) (b := p) C rfl rfl dX7_lay_23 rfl ?_ 
        refine pv_iald (q := 25) (j := ((fr + 16) + p)) C (iln_15 k14) rfl (by omega) dX7_lay_24 rfl ?_ 
        rw [show (va_up D t f) 7 = D 7 from va_up_ne _ _ n7]
        refine pv_istore (q := 27) C dX7_lay_25 rfl (Nat.le_of_ble_eq_true rfl) rfl ?_ 
        refine pv_aload_n (q := 28) C dX7_lay_27 rfl rfl rfl ?_ 
        refine pg_7_1 (q := 31) C k6 tw_996 dX7_lay_28 rfl (fun k28 => ?_) 
        refine pv_iload_n (q := 32) C dX7_lay_31 rfl rfl rfl ?_ 
        refine pv_iload (q := 34) C dX7_lay_32 rfl rfl ?_ 
        refine pv_iaddN (q := 35) (a := fr) (b := p) C rfl rfl dX7_lay_34 rfl ?_ 
        refine pv_iald (q := 36) (j := (fr + p)) C (iln_15 k28) rfl (by omega) dX7_lay_35 rfl ?_ 
        rw [show (va_up D t f) 7 = D 7 from va_up_ne _ _ n7]
        refine pv_iload_n (q := 37) C dX7_lay_36 rfl rfl rfl ?_ 
        refine pv_iconst (q := 38) (v := 1) C dX7_lay_37 rfl (by decide) ?_ 
        refine pv_iaddN (q := 39) (a := g) (b := 1) C rfl rfl dX7_lay_38 rfl ?_ 
        refine pv_icmp_ne (q := 42) (tgt := 97) C dX7_lay_39 (by decide) rfl (fun c_39 => ?_) (fun c_39 => ?_) 
        · refine pv_iinc (q := 100) (v := nI (p + 1)) C dX7_lay_97 rfl rfl (nI_add _ _) rfl ?_
          refine pv_goto (tgt := 6) C dX7_lay_100 (by decide) ?_ 
          exact PV_le (ihO (p + 1) n f (by omega) (by omega) (by omega) (SL_cong hsl (fun _ _ => rfl) (fun a => tcn_no (gr := fun p => D 7 (fr + p)) (am := fun p => D 7 (fr + 16 + p)) (fun q => c_39 q.1) a))) ⟨Or.inr rfl, Or.inr rfl, Or.inr rfl, Or.inr rfl, Or.inr rfl, Or.inr rfl, Or.inr rfl, Or.inl rfl, Or.inl rfl, trivial⟩
        · refine pv_iload (q := 44) C dX7_lay_42 rfl rfl ?_
          refine pv_iload_n (q := 45) C dX7_lay_44 rfl rfl rfl ?_ 
          refine pv_icmp_lt (q := 48) (tgt := 97) C dX7_lay_45 (by decide) rfl (fun c_45 => ?_) (fun c_45 => ?_) 
          · refine pv_iinc (q := 100) (v := nI (p + 1)) C dX7_lay_97 rfl rfl (nI_add _ _) rfl ?_
            refine pv_goto (tgt := 6) C dX7_lay_100 (by decide) ?_ 
            exact PV_le (ihO (p + 1) n f (by omega) (by omega) (by omega) (SL_cong hsl (fun _ _ => rfl) (fun a => tcn_no (gr := fun p => D 7 (fr + p)) (am := fun p => D 7 (fr + 16 + p)) (fun q => absurd q.2 (Int32.not_le.mpr c_45)) a))) ⟨Or.inr rfl, Or.inr rfl, Or.inr rfl, Or.inr rfl, Or.inr rfl, Or.inr rfl, Or.inr rfl, Or.inl rfl, Or.inl rfl, trivial⟩
          · refine pv_iload (q := 50) C dX7_lay_48 rfl rfl ?_
            refine pv_istore (q := 52) C dX7_lay_50 rfl (Nat.le_of_ble_eq_true rfl) rfl ?_ 
            have loop_52 : ∀ (nn : Nat) (i : Nat) (g2 : Nat → Int32), (i + 1 ≤ nn) → i ≤ n → (∀ j, j < i → g2 j = f j) → (∀ j, i < j → j ≤ n → g2 j = f (j - 1)) → (∀ j, i ≤ j → j < n → D 7 (fr + 16 + p) < f j) → PV K X (MK K X (qI X (fun r D' P' => (∃ f n, r = nI n ∧ n ≤ 16 ∧ D' = va_up D t f ∧ SL f n (fun a => tcn (fun p => D 7 (fr + p)) (fun p => D 7 (fr + 16 + p)) (nI (g + 1)) lo a 16)) ∧ P = P')) 0 0) (0) (0) 52 [some (.ref (X.2.2 6)), some (.int (nI fr)), some (.int (nI g)), some (.int lo), some (.ref (X.2.2 t)), some (.int (nI n)), some (.int (nI p)), some (.int (D 7 (fr + 16 + p))), some (.int (nI i))] [] (va_up D t g2) P := by
              intro nn
              induction nn with
              | zero =>
                intro i g2 hfuel hi h1 h2 h3
                exact absurd hfuel (by omega)
              | succ nn ih =>
                intro i g2 hfuel hi h1 h2 h3
                refine pv_iload (q := 54) C dX7_lay_52 rfl rfl ?_ 
                refine pv_if_leN (q := 57) (tgt := 87) (a := i) (b := 0) C rfl rfl (by omega) (by omega) dX7_lay_54 (by decide) rfl (fun c_54 => ?_) (fun c_54 => ?_) 
                · refine pv_aload (q := 89) C dX7_lay_87 rfl rfl ?_
                  refine pv_iload (q := 91) C dX7_lay_89 rfl rfl ?_ 
                  refine pv_iload (q := 93) C dX7_lay_91 rfl rfl ?_ 
                  refine pv_iast (q := 94) (j := i) C (iln_9 ht) rfl (by omega) dX7_lay_93 rfl (fun D93 hD93 => ?_) 
                  refine pv_iinc (q := 97) (v := nI (n + 1)) C dX7_lay_94 rfl rfl (nI_add _ _) rfl ?_ 
                  refine pv_iinc (q := 100) (v := nI (p + 1)) C dX7_lay_97 rfl rfl (nI_add _ _) rfl ?_ 
                  refine pv_goto (tgt := 6) C dX7_lay_100 (by decide) ?_ 
                  rw [up2_va] at hD93
                  subst hD93
                  exact PV_le (ihO (p + 1) (n + 1) (va_up g2 i (D 7 (fr + 16 + p))) (by omega) (by omega) (by omega) (SL_cong (SL_ins hsl ⟨i, hi, fun j hj => by rw [va_up_ne _ _ (by omega)]; exact h1 j hj, va_up_self _ _ _, fun j a b => by rw [va_up_ne _ _ (by omega)]; exact h2 j a b, h3, fun z => absurd z (by omega)⟩) (fun _ _ => rfl) (fun a => tcn_yes (gr := fun p => D 7 (fr + p)) (am := fun p => D 7 (fr + 16 + p)) c_39 (Int32.not_lt.mp c_45) a))) ⟨Or.inr rfl, Or.inr rfl, Or.inr rfl, Or.inr rfl, Or.inr rfl, Or.inr rfl, Or.inr rfl, Or.inl rfl, Or.inl rfl, trivial⟩
                · refine pv_aload (q := 59) C dX7_lay_57 rfl rfl ?_
                  refine pv_iload (q := 61) C dX7_lay_59 rfl rfl ?_ 
                  refine pv_iconst (q := 62) (v := 1) C dX7_lay_61 rfl (by decide) ?_ 
                  refine pv_isubN (q := 63) (a := i) (b := 1) C rfl rfl (by omega) dX7_lay_62 rfl ?_ 
                  refine pv_iald (q := 64) (j := (i - 1)) C (iln_9 ht) rfl (by omega) dX7_lay_63 rfl ?_ 
                  refine pv_iload (q := 66) C dX7_lay_64 rfl rfl ?_ 
                  refine pv_icmp_le (q := 69) (tgt := 87) C dX7_lay_66 (by decide) rfl (fun c_66 => ?_) (fun c_66 => ?_) 
                  · refine pv_aload (q := 89) C dX7_lay_87 rfl rfl ?_
                    refine pv_iload (q := 91) C dX7_lay_89 rfl rfl ?_ 
                    refine pv_iload (q := 93) C dX7_lay_91 rfl rfl ?_ 
                    refine pv_iast (q := 94) (j := i) C (iln_9 ht) rfl (by omega) dX7_lay_93 rfl (fun D93 hD93 => ?_) 
                    refine pv_iinc (q := 97) (v := nI (n + 1)) C dX7_lay_94 rfl rfl (nI_add _ _) rfl ?_ 
                    refine pv_iinc (q := 100) (v := nI (p + 1)) C dX7_lay_97 rfl rfl (nI_add _ _) rfl ?_ 
                    refine pv_goto (tgt := 6) C dX7_lay_100 (by decide) ?_ 
                    rw [up2_va] at hD93
                    subst hD93
                    exact PV_le (ihO (p + 1) (n + 1) (va_up g2 i (D 7 (fr + 16 + p))) (by omega) (by omega) (by omega) (SL_cong (SL_ins hsl ⟨i, hi, fun j hj => by rw [va_up_ne _ _ (by omega)]; exact h1 j hj, va_up_self _ _ _, fun j a b => by rw [va_up_ne _ _ (by omega)]; exact h2 j a b, h3, fun z => by rw [va_up_self, h1 _ (by omega)] at c_66; exact Int32.not_lt.mpr c_66⟩) (fun _ _ => rfl) (fun a => tcn_yes (gr := fun p => D 7 (fr + p)) (am := fun p => D 7 (fr + 16 + p)) c_39 (Int32.not_lt.mp c_45) a))) ⟨Or.inr rfl, Or.inr rfl, Or.inr rfl, Or.inr rfl, Or.inr rfl, Or.inr rfl, Or.inr rfl, Or.inl rfl, Or.inl rfl, trivial⟩
                  · refine pv_aload (q := 71) C dX7_lay_69 rfl rfl ?_
                    refine pv_iload (q := 73) C dX7_lay_71 rfl rfl ?_ 
                    refine pv_aload (q := 75) C dX7_lay_73 rfl rfl ?_ 
                    refine pv_iload (q := 77) C dX7_lay_75 rfl rfl ?_ 
                    refine pv_iconst (q := 78) (v := 1) C dX7_lay_77 rfl (by decide) ?_ 
                    refine pv_isubN (q := 79) (a := i) (b := 1) C rfl rfl (by omega) dX7_lay_78 rfl ?_ 
                    refine pv_iald (q := 80) (j := (i - 1)) C (iln_9 ht) rfl (by omega) dX7_lay_79 rfl ?_ 
                    refine pv_iast (q := 81) (j := i) C (iln_9 ht) rfl (by omega) dX7_lay_80 rfl (fun D80 hD80 => ?_) 
                    refine pv_iinc (q := 84) (v := nI (i - 1)) C dX7_lay_81 rfl rfl (nI_m1 (by omega)) rfl ?_ 
                    refine pv_goto (tgt := 52) C dX7_lay_84 (by decide) ?_ 
                    rw [up2_va] at hD80
                    subst hD80
                    exact ih (i - 1) _ (by omega) (by omega) (fun j hj => by rw [va_up_ne _ _ (by omega)]; exact h1 j (by omega)) (fun j a b => by
                      by_cases e : j = i
                      · subst e; rw [va_up_self, va_up_self]; exact h1 _ (by omega)
                      · rw [va_up_ne _ _ e]; exact h2 j (by omega) b) (fun j a b => by
                      by_cases e : j = i - 1
                      · subst e; rw [va_up_self, h1 _ (by omega)] at c_66; exact Int32.not_le.mp c_66
                      · exact h3 j (by omega) b)
            exact loop_52 (n + 1) n f (by omega) (by omega) (fun _ _ => rfl) (fun j a b => absurd b (by omega)) (fun j a b => absurd b (by omega))
  refine PV_D (va_id D t).symm ?_
  exact loop_6 17 0 0 (D t) (by omega) (by omega) (by omega) (SL_0 _)
set_option maxRecDepth 100000 in
set_option maxHeartbeats 4000000 in
theorem c_X7_layView (l : Launch) (X : XT) (D : DT) (P : PT) (v g : Nat) (hv : v < 3) (hg : g < 4) (row : Nat → Int32) (h7 : D 7 = row)  : CG l X yX7_layView (.code yX7_layView cX7_layView 3 (some .int) :: AW) ({ frames := 1, cells := 0, slots := 0, locals := 36 } : Room) [.ref (X.2.2 6), .int (nI v), .int (nI g)] (qI X (fun r D' P' => r = nI (VN row v g) ∧ (∃ f, D' = va_up D 10 f ∧ ∀ j, j < VN row v g → f j = VF row v g j) ∧ P = P')) D P 0 0 := by
  refine cg_of (by decide +kernel) (Nat.le_of_ble_eq_true rfl) ?_
  intro K hKl hKR C
  refine PV_lv (lv' := [some (.ref (X.2.2 6)), some (.int (nI v)), some (.int (nI g))]) rfl ?_
  refine pv_aload_n (q := 1) C dX7_layView_0 rfl rfl rfl ?_ 
  refine pv_iload_n (q := 2) C dX7_layView_1 rfl rfl rfl ?_ 
  refine pv_callSi (q := 5) C hKl (c_X7_base l X D P v) tw_1093 mm_X7_base ⟨rfl, rfl⟩ (by rw [hKR]; exact ⟨Nat.le_of_ble_eq_true rfl, Nat.le_of_ble_eq_true rfl⟩) (by rw [hKR]; exact ⟨Nat.le_of_ble_eq_true rfl, Nat.le_of_ble_eq_true rfl⟩) rfl rfl rfl (Nat.le_of_ble_eq_true rfl) dX7_layView_2 rfl (fun r2 D2 P2 hp2 => ?_) 
  obtain ⟨rfl, rfl, rfl⟩ := hp2
  refine pv_iload_n (q := 6) C dX7_layView_5 rfl rfl rfl ?_ 
  refine pv_aload_n (q := 7) C dX7_layView_6 rfl rfl rfl ?_ 
  refine pg_7_1 (q := 10) C k6 tw_996 dX7_layView_7 rfl (fun k7 => ?_) 
  refine pv_iload_n (q := 11) C dX7_layView_10 rfl rfl rfl ?_ 
  refine pv_callSi (q := 14) C hKl (c_X7_base l X D P v) tw_1093 mm_X7_base ⟨rfl, rfl⟩ (by rw [hKR]; exact ⟨Nat.le_of_ble_eq_true rfl, Nat.le_of_ble_eq_true rfl⟩) (by rw [hKR]; exact ⟨Nat.le_of_ble_eq_true rfl, Nat.le_of_ble_eq_true rfl⟩) rfl rfl rfl (Nat.le_of_ble_eq_true rfl) dX7_layView_11 rfl (fun r11 D11 P11 hp11 => ?_) 
  obtain ⟨rfl, rfl, rfl⟩ := hp11
  refine pv_bipush (q := 16) (v := 34) C dX7_layView_14 rfl (by decide) ?_ 
  refine pv_iaddN (q := 17) (a := (32 + 38 * v)) (b := 34) C rfl rfl dX7_layView_16 rfl ?_ 
  refine pv_iald (q := 18) (j := ((32 + 38 * v) + 34)) C (iln_15 k7) rfl (by omega) dX7_layView_17 rfl ?_ 
  refine pv_aload_n (q := 19) C dX7_layView_18 rfl rfl rfl ?_ 
  refine pg_7_6 (q := 22) C k6 tw_1001 dX7_layView_19 rfl (fun k19 => ?_) 
  refine pv_callVi (q := 25) C hKl (c_X7_lay l X D P (32 + 38 * v) g 10 _ (by omega) hg rfl) tw_1364 k6 (by decide) rfl mm_X7_lay ⟨rfl, rfl⟩ (by rw [hKR]; exact ⟨Nat.le_of_ble_eq_true rfl, Nat.le_of_ble_eq_true rfl⟩) (by rw [hKR]; exact ⟨Nat.le_of_ble_eq_true rfl, Nat.le_of_ble_eq_true rfl⟩) rfl rfl rfl (Nat.le_of_ble_eq_true rfl) dX7_layView_22 rfl (fun r22 D22 P22 hp22 => ?_) 
  obtain ⟨⟨f, n, rfl, hn, hR22, hsl⟩, rfl⟩ := hp22
  exact pv_iret C (by
      obtain ⟨e1, e2⟩ := vF_u (row := row) (fr := (32 + 38 * v)) (g := g) (lo := row (32 + 38 * v + 34)) (f := f) (n := n) (by subst h7; exact hsl)
      subst e1
      exact ⟨rfl, ⟨f, hR22, e2⟩, rfl⟩) (by decide) (by decide) dX7_layView_25
set_option maxRecDepth 100000 in
set_option maxHeartbeats 4000000 in
theorem c_X7_layTable (l : Launch) (X : XT) (D : DT) (P : PT) (v g : Nat) (hv : v < 3) (hg : g < 4) (row : Nat → Int32) (h7 : D 7 = row)  : CG l X yX7_layTable (.code yX7_layTable cX7_layTable 3 (some .int) :: AW) ({ frames := 1, cells := 0, slots := 0, locals := 36 } : Room) [.ref (X.2.2 6), .int (nI v), .int (nI g)] (qI X (fun r D' P' => r = nI (TN row v g) ∧ (∃ f, D' = va_up D 11 f ∧ ∀ j, j < TN row v g → f j = TF row v g j) ∧ P = P')) D P 0 0 := by
  refine cg_of (by decide +kernel) (Nat.le_of_ble_eq_true rfl) ?_
  intro K hKl hKR C
  refine PV_lv (lv' := [some (.ref (X.2.2 6)), some (.int (nI v)), some (.int (nI g))]) rfl ?_
  refine pv_aload_n (q := 1) C dX7_layTable_0 rfl rfl rfl ?_ 
  refine pv_iconst (q := 2) (v := 0) C dX7_layTable_1 rfl (by decide) ?_ 
  refine pv_iload_n (q := 3) C dX7_layTable_2 rfl rfl rfl ?_ 
  refine pv_aload_n (q := 4) C dX7_layTable_3 rfl rfl rfl ?_ 
  refine pg_7_1 (q := 7) C k6 tw_996 dX7_layTable_4 rfl (fun k4 => ?_) 
  refine pv_iload_n (q := 8) C dX7_layTable_7 rfl rfl rfl ?_ 
  refine pv_callSi (q := 11) C hKl (c_X7_base l X D P v) tw_1093 mm_X7_base ⟨rfl, rfl⟩ (by rw [hKR]; exact ⟨Nat.le_of_ble_eq_true rfl, Nat.le_of_ble_eq_true rfl⟩) (by rw [hKR]; exact ⟨Nat.le_of_ble_eq_true rfl, Nat.le_of_ble_eq_true rfl⟩) rfl rfl rfl (Nat.le_of_ble_eq_true rfl) dX7_layTable_8 rfl (fun r8 D8 P8 hp8 => ?_) 
  obtain ⟨rfl, rfl, rfl⟩ := hp8
  refine pv_bipush (q := 13) (v := 34) C dX7_layTable_11 rfl (by decide) ?_ 
  refine pv_iaddN (q := 14) (a := (32 + 38 * v)) (b := 34) C rfl rfl dX7_layTable_13 rfl ?_ 
  refine pv_iald (q := 15) (j := ((32 + 38 * v) + 34)) C (iln_15 k4) rfl (by omega) dX7_layTable_14 rfl ?_ 
  refine pv_aload_n (q := 16) C dX7_layTable_15 rfl rfl rfl ?_ 
  refine pg_7_7 (q := 19) C k6 tw_1002 dX7_layTable_16 rfl (fun k16 => ?_) 
  refine pv_callVi (q := 22) C hKl (c_X7_lay l X D P 0 g 11 _ (by omega) hg rfl) tw_1364 k6 (by decide) rfl mm_X7_lay ⟨rfl, rfl⟩ (by rw [hKR]; exact ⟨Nat.le_of_ble_eq_true rfl, Nat.le_of_ble_eq_true rfl⟩) (by rw [hKR]; exact ⟨Nat.le_of_ble_eq_true rfl, Nat.le_of_ble_eq_true rfl⟩) rfl rfl rfl (Nat.le_of_ble_eq_true rfl) dX7_layTable_19 rfl (fun r19 D19 P19 hp19 => ?_) 
  obtain ⟨⟨f, n, rfl, hn, hR19, hsl⟩, rfl⟩ := hp19
  exact pv_iret C (by
      obtain ⟨e1, e2⟩ := vF_u (row := row) (fr := 0) (g := g) (lo := row (32 + 38 * v + 34)) (f := f) (n := n) (by subst h7; exact hsl)
      subst e1
      exact ⟨rfl, ⟨f, hR19, e2⟩, rfl⟩) (by decide) (by decide) dX7_layTable_22
set_option maxRecDepth 100000 in
set_option maxHeartbeats 4000000 in
theorem c_X7_total (l : Launch) (X : XT) (D : DT) (P : PT) (t n : Nat) (ht : kd t = 9) (hn : n ≤ 16)  : CG l X yX7_total (.code yX7_total cX7_total 4 (some .int) :: AW) ({ frames := 0, cells := 0, slots := 0, locals := 0 } : Room) [.ref (X.2.2 t), .int (nI n)] (qI X (fun r D' P' => r = sm (D t) n ∧ D = D' ∧ P = P')) D P 0 0 := by
  refine cg_of (by decide +kernel) (Nat.le_of_ble_eq_true rfl) ?_
  intro K hKl hKR C
  refine PV_lv (lv' := [some (.ref (X.2.2 t)), some (.int (nI n)), none, none]) rfl ?_
  refine pv_iconst (q := 1) (v := 0) C dX7_total_0 rfl (by decide) ?_ 
  refine pv_istore_n (q := 2) C dX7_total_1 rfl rfl (Nat.le_of_ble_eq_true rfl) rfl ?_ 
  refine pv_iconst (q := 3) (v := 0) C dX7_total_2 rfl (by decide) ?_ 
  refine pv_istore_n (q := 4) C dX7_total_3 rfl rfl (Nat.le_of_ble_eq_true rfl) rfl ?_ 
  have loop_4 : ∀ (nn : Nat) (i : Nat), (n + 1 ≤ i + nn) → i ≤ n → PV K X (MK K X (qI X (fun r D' P' => r = sm (D t) n ∧ D = D' ∧ P = P')) 0 0) (0) (0) 4 [some (.ref (X.2.2 t)), some (.int (nI n)), some (.int (sm (D t) i)), some (.int (nI i))] [] D P := by
    intro nn
    induction nn with
    | zero =>
      intro i hfuel hi
      exact absurd hfuel (by omega)
    | succ nn ih =>
      intro i hfuel hi
      refine pv_iload_n (q := 5) C dX7_total_4 rfl rfl rfl ?_ 
      refine pv_iload_n (q := 6) C dX7_total_5 rfl rfl rfl ?_ 
      refine pv_icmp_geN (q := 9) (tgt := 21) (a := i) (b := n) C rfl rfl (by omega) (by omega) dX7_total_6 (by decide) rfl (fun c_6 => ?_) (fun c_6 => ?_) 
      · refine pv_iload_n (q := 22) C dX7_total_21 rfl rfl rfl ?_
        exact pv_iret C (⟨by rw [show i = n by omega], rfl, rfl⟩) (by decide) (by decide) dX7_total_22
      · refine pv_iload_n (q := 10) C dX7_total_9 rfl rfl rfl ?_
        refine pv_aload_n (q := 11) C dX7_total_10 rfl rfl rfl ?_ 
        refine pv_iload_n (q := 12) C dX7_total_11 rfl rfl rfl ?_ 
        refine pv_iald (q := 13) (j := i) C (iln_9 ht) rfl (by omega) dX7_total_12 rfl ?_ 
        refine pv_iadd (q := 14) C dX7_total_13 rfl ?_ 
        refine pv_istore_n (q := 15) C dX7_total_14 rfl rfl (Nat.le_of_ble_eq_true rfl) rfl ?_ 
        refine pv_iinc (q := 18) (v := nI (i + 1)) C dX7_total_15 rfl rfl (nI_add _ _) rfl ?_ 
        refine pv_goto (tgt := 4) C dX7_total_18 (by decide) ?_ 
        exact ih (i + 1) (by omega) (by omega)
  exact loop_4 (n + 1) 0 (by omega) (by omega)
set_option maxRecDepth 100000 in
set_option maxHeartbeats 4000000 in
theorem c_X7_below (l : Launch) (X : XT) (D : DT) (P : PT) (t n : Nat) (ht : kd t = 9) (hn : n ≤ 16) (a : Int32) : CG l X yX7_below (.code yX7_below cX7_below 5 (some .int) :: AW) ({ frames := 0, cells := 0, slots := 0, locals := 0 } : Room) [.ref (X.2.2 t), .int (nI n), .int a] (qI X (fun r D' P' => r = nI (bl (D t) n a) ∧ D = D' ∧ P = P')) D P 0 0 := by
  refine cg_of (by decide +kernel) (Nat.le_of_ble_eq_true rfl) ?_
  intro K hKl hKR C
  refine PV_lv (lv' := [some (.ref (X.2.2 t)), some (.int (nI n)), some (.int a), none, none]) rfl ?_
  refine pv_iconst (q := 1) (v := 0) C dX7_below_0 rfl (by decide) ?_ 
  refine pv_istore_n (q := 2) C dX7_below_1 rfl rfl (Nat.le_of_ble_eq_true rfl) rfl ?_ 
  refine pv_iconst (q := 3) (v := 0) C dX7_below_2 rfl (by decide) ?_ 
  refine pv_istore (q := 5) C dX7_below_3 rfl (Nat.le_of_ble_eq_true rfl) rfl ?_ 
  have loop_5 : ∀ (nn : Nat) (i c : Nat), (n + 1 ≤ i + nn) → i ≤ n → c = ct (fun j => decide (D t j < a)) i → PV K X (MK K X (qI X (fun r D' P' => r = nI (bl (D t) n a) ∧ D = D' ∧ P = P')) 0 0) (0) (0) 5 [some (.ref (X.2.2 t)), some (.int (nI n)), some (.int a), some (.int (nI c)), some (.int (nI i))] [] D P := by
    intro nn
    induction nn with
    | zero =>
      intro i c hfuel hi hc
      exact absurd hfuel (by omega)
    | succ nn ih =>
      intro i c hfuel hi hc
      refine pv_iload (q := 7) C dX7_below_5 rfl rfl ?_ 
      refine pv_iload_n (q := 8) C dX7_below_7 rfl rfl rfl ?_ 
      refine pv_icmp_geN (q := 11) (tgt := 33) (a := i) (b := n) C rfl rfl (by omega) (by omega) dX7_below_8 (by decide) rfl (fun c_8 => ?_) (fun c_8 => ?_) 
      · refine pv_iload_n (q := 34) C dX7_below_33 rfl rfl rfl ?_
        exact pv_iret C (⟨by rw [hc, show i = n by omega]; rfl, rfl, rfl⟩) (by decide) (by decide) dX7_below_34
      · refine pv_iload_n (q := 12) C dX7_below_11 rfl rfl rfl ?_
        refine pv_aload_n (q := 13) C dX7_below_12 rfl rfl rfl ?_ 
        refine pv_iload (q := 15) C dX7_below_13 rfl rfl ?_ 
        refine pv_iald (q := 16) (j := i) C (iln_9 ht) rfl (by omega) dX7_below_15 rfl ?_ 
        refine pv_iload_n (q := 17) C dX7_below_16 rfl rfl rfl ?_ 
        refine pv_icmp_ge (q := 20) (tgt := 24) C dX7_below_17 (by decide) rfl (fun c_17 => ?_) (fun c_17 => ?_) 
        · refine pv_iconst (q := 25) (v := 0) C dX7_below_24 rfl (by decide) ?_
          refine pv_iaddN (q := 26) (a := c) (b := 0) C rfl rfl dX7_below_25 rfl ?_ 
          refine pv_istore_n (q := 27) C dX7_below_26 rfl rfl (Nat.le_of_ble_eq_true rfl) rfl ?_ 
          refine pv_iinc (q := 30) (v := nI (i + 1)) C dX7_below_27 rfl rfl (nI_add _ _) rfl ?_ 
          refine pv_goto (tgt := 5) C dX7_below_30 (by decide) ?_ 
          exact ih (i + 1) (c + 0) (by omega) (by omega) (by rw [ct_s, if_neg (by simpa using c_17), hc])
        · refine pv_iconst (q := 21) (v := 1) C dX7_below_20 rfl (by decide) ?_
          refine pv_goto (tgt := 25) C dX7_below_21 (by decide) ?_ 
          refine pv_iaddN (q := 26) (a := c) (b := 1) C rfl rfl dX7_below_25 rfl ?_ 
          refine pv_istore_n (q := 27) C dX7_below_26 rfl rfl (Nat.le_of_ble_eq_true rfl) rfl ?_ 
          refine pv_iinc (q := 30) (v := nI (i + 1)) C dX7_below_27 rfl rfl (nI_add _ _) rfl ?_ 
          refine pv_goto (tgt := 5) C dX7_below_30 (by decide) ?_ 
          exact ih (i + 1) (c + 1) (by omega) (by omega) (by rw [ct_s, if_pos (by simpa using c_17), hc])
  exact loop_5 (n + 1) 0 0 (by omega) (by omega) rfl
set_option maxRecDepth 100000 in
set_option maxHeartbeats 4000000 in
theorem c_X7_kinds (l : Launch) (X : XT) (D : DT) (P : PT) (t n : Nat) (ht : kd t = 9) (hn : n ≤ 16)  : CG l X yX7_kinds (.code yX7_kinds cX7_kinds 4 (some .int) :: AW) ({ frames := 0, cells := 0, slots := 0, locals := 0 } : Room) [.ref (X.2.2 t), .int (nI n)] (qI X (fun r D' P' => r = nI (kn (D t) n) ∧ D = D' ∧ P = P')) D P 0 0 := by
  refine cg_of (by decide +kernel) (Nat.le_of_ble_eq_true rfl) ?_
  intro K hKl hKR C
  refine PV_lv (lv' := [some (.ref (X.2.2 t)), some (.int (nI n)), none, none]) rfl ?_
  refine pv_iconst (q := 1) (v := 0) C dX7_kinds_0 rfl (by decide) ?_ 
  refine pv_istore_n (q := 2) C dX7_kinds_1 rfl rfl (Nat.le_of_ble_eq_true rfl) rfl ?_ 
  refine pv_iconst (q := 3) (v := 0) C dX7_kinds_2 rfl (by decide) ?_ 
  refine pv_istore_n (q := 4) C dX7_kinds_3 rfl rfl (Nat.le_of_ble_eq_true rfl) rfl ?_ 
  have loop_4 : ∀ (nn : Nat) (i c : Nat), (n + 1 ≤ i + nn) → i ≤ n → c = kn (D t) i → PV K X (MK K X (qI X (fun r D' P' => r = nI (kn (D t) n) ∧ D = D' ∧ P = P')) 0 0) (0) (0) 4 [some (.ref (X.2.2 t)), some (.int (nI n)), some (.int (nI c)), some (.int (nI i))] [] D P := by
    intro nn
    induction nn with
    | zero =>
      intro i c hfuel hi hc
      exact absurd hfuel (by omega)
    | succ nn ih =>
      intro i c hfuel hi hc
      refine pv_iload_n (q := 5) C dX7_kinds_4 rfl rfl rfl ?_ 
      refine pv_iload_n (q := 6) C dX7_kinds_5 rfl rfl rfl ?_ 
      refine pv_icmp_geN (q := 9) (tgt := 38) (a := i) (b := n) C rfl rfl (by omega) (by omega) dX7_kinds_6 (by decide) rfl (fun c_6 => ?_) (fun c_6 => ?_) 
      · refine pv_iload_n (q := 39) C dX7_kinds_38 rfl rfl rfl ?_
        exact pv_iret C (⟨by rw [hc, show i = n by omega], rfl, rfl⟩) (by decide) (by decide) dX7_kinds_39
      · refine pv_iload_n (q := 10) C dX7_kinds_9 rfl rfl rfl ?_
        refine pv_iload_n (q := 11) C dX7_kinds_10 rfl rfl rfl ?_ 
        refine pv_if_eqN (q := 14) (tgt := 25) (a := i) (b := 0) C rfl rfl (by omega) (by omega) dX7_kinds_11 (by decide) rfl (fun c_11 => ?_) (fun c_11 => ?_) 
        · refine pv_iconst (q := 26) (v := 1) C dX7_kinds_25 rfl (by decide) ?_
          refine pv_goto (tgt := 30) C dX7_kinds_26 (by decide) ?_ 
          refine pv_iaddN (q := 31) (a := c) (b := 1) C rfl rfl dX7_kinds_30 rfl ?_ 
          refine pv_istore_n (q := 32) C dX7_kinds_31 rfl rfl (Nat.le_of_ble_eq_true rfl) rfl ?_ 
          refine pv_iinc (q := 35) (v := nI (i + 1)) C dX7_kinds_32 rfl rfl (nI_add _ _) rfl ?_ 
          refine pv_goto (tgt := 4) C dX7_kinds_35 (by decide) ?_ 
          exact ih (i + 1) (c + 1) (by omega) (by omega) (by unfold kn; rw [if_pos (Or.inl c_11), hc])
        · refine pv_aload_n (q := 15) C dX7_kinds_14 rfl rfl rfl ?_
          refine pv_iload_n (q := 16) C dX7_kinds_15 rfl rfl rfl ?_ 
          refine pv_iald (q := 17) (j := i) C (iln_9 ht) rfl (by omega) dX7_kinds_16 rfl ?_ 
          refine pv_aload_n (q := 18) C dX7_kinds_17 rfl rfl rfl ?_ 
          refine pv_iload_n (q := 19) C dX7_kinds_18 rfl rfl rfl ?_ 
          refine pv_iconst (q := 20) (v := 1) C dX7_kinds_19 rfl (by decide) ?_ 
          refine pv_isubN (q := 21) (a := i) (b := 1) C rfl rfl (by omega) dX7_kinds_20 rfl ?_ 
          refine pv_iald (q := 22) (j := (i - 1)) C (iln_9 ht) rfl (by omega) dX7_kinds_21 rfl ?_ 
          refine pv_icmp_eq (q := 25) (tgt := 29) C dX7_kinds_22 (by decide) rfl (fun c_22 => ?_) (fun c_22 => ?_) 
          · refine pv_iconst (q := 30) (v := 0) C dX7_kinds_29 rfl (by decide) ?_
            refine pv_iaddN (q := 31) (a := c) (b := 0) C rfl rfl dX7_kinds_30 rfl ?_ 
            refine pv_istore_n (q := 32) C dX7_kinds_31 rfl rfl (Nat.le_of_ble_eq_true rfl) rfl ?_ 
            refine pv_iinc (q := 35) (v := nI (i + 1)) C dX7_kinds_32 rfl rfl (nI_add _ _) rfl ?_ 
            refine pv_goto (tgt := 4) C dX7_kinds_35 (by decide) ?_ 
            exact ih (i + 1) (c + 0) (by omega) (by omega) (by unfold kn; rw [if_neg (by rintro (q | q); exact c_11 q; exact q c_22), hc])
          · refine pv_iconst (q := 26) (v := 1) C dX7_kinds_25 rfl (by decide) ?_
            refine pv_goto (tgt := 30) C dX7_kinds_26 (by decide) ?_ 
            refine pv_iaddN (q := 31) (a := c) (b := 1) C rfl rfl dX7_kinds_30 rfl ?_ 
            refine pv_istore_n (q := 32) C dX7_kinds_31 rfl rfl (Nat.le_of_ble_eq_true rfl) rfl ?_ 
            refine pv_iinc (q := 35) (v := nI (i + 1)) C dX7_kinds_32 rfl rfl (nI_add _ _) rfl ?_ 
            refine pv_goto (tgt := 4) C dX7_kinds_35 (by decide) ?_ 
            exact ih (i + 1) (c + 1) (by omega) (by omega) (by unfold kn; rw [if_pos (Or.inr c_22), hc])
  exact loop_4 (n + 1) 0 0 (by omega) (by omega) rfl
set_option maxRecDepth 100000 in
set_option maxHeartbeats 4000000 in
theorem c_X7_tell (l : Launch) (X : XT) (D : DT) (P : PT) (w : Nat) (hw : w < 184) : CG l X yX7_tell (.code yX7_tell cX7_tell 2 (some .int) :: AW) ({ frames := 0, cells := 0, slots := 0, locals := 0 } : Room) [.ref (X.2.2 6), .int (nI w)] (qI X (fun r D' P' => rd (0) (D 7 w) D r D' ∧ P = P')) D P 0 0 := by
  refine cg_of (by decide +kernel) (Nat.le_of_ble_eq_true rfl) ?_
  intro K hKl hKR C
  refine PV_lv (lv' := [some (.ref (X.2.2 6)), some (.int (nI w))]) rfl ?_
  refine pv_aload_n (q := 1) C dX7_tell_0 rfl rfl rfl ?_ 
  refine pv_iconst (q := 2) (v := 0) C dX7_tell_1 rfl (by decide) ?_ 
  refine pp_7_0 (q := 5) C k6 tw_995 dX7_tell_2 rfl (fun D2 hD2 => ?_) 
  refine pv_aload_n (q := 6) C dX7_tell_5 rfl rfl rfl ?_ 
  refine pg_7_1 (q := 9) C k6 tw_996 dX7_tell_6 rfl (fun k6 => ?_) 
  refine pv_iload_n (q := 10) C dX7_tell_9 rfl rfl rfl ?_ 
  refine pv_iald (q := 11) (j := w) C (iln_15 k6) rfl (by omega) dX7_tell_10 rfl ?_ 
  exact pv_iret C (⟨⟨by rw [hD2]; rfl, fun _ => by rw [hD2]; rfl, (by subst_vars; repeat (first | exact Sx_rf _ | refine Sx.ar ?_ (by decide) | refine Sx.up ?_ (by decide)))⟩, rfl⟩) (by decide) (by decide) dX7_tell_11
set_option maxRecDepth 100000 in
set_option maxHeartbeats 4000000 in
theorem c_X7_deltas (l : Launch) (X : XT) (D : DT) (P : PT)  : CG l X yX7_deltas (.code yX7_deltas cX7_deltas 1 (some .int) :: AW) ({ frames := 1, cells := 0, slots := 0, locals := 36 } : Room) [.ref (X.2.2 6)] (qI X (fun r D' P' => rd (0) (D 7 178) D r D' ∧ P = P')) D P 0 0 := by
  refine cg_of (by decide +kernel) (Nat.le_of_ble_eq_true rfl) ?_
  intro K hKl hKR C
  refine PV_lv (lv' := [some (.ref (X.2.2 6))]) rfl ?_
  refine pv_aload_n (q := 1) C dX7_deltas_0 rfl rfl rfl ?_ 
  refine pv_sipush (q := 4) (v := 178) C dX7_deltas_1 rfl (by decide) ?_ 
  refine pv_callVi (q := 7) C hKl (c_X7_tell l X D P 178 (by decide)) tw_1292 k6 (by decide) rfl mm_X7_tell ⟨rfl, rfl⟩ (by rw [hKR]; exact ⟨Nat.le_of_ble_eq_true rfl, Nat.le_of_ble_eq_true rfl⟩) (by rw [hKR]; exact ⟨Nat.le_of_ble_eq_true rfl, Nat.le_of_ble_eq_true rfl⟩) rfl rfl rfl (Nat.le_of_ble_eq_true rfl) dX7_deltas_4 rfl (fun r4 D4 P4 hp4 => ?_) 
  obtain ⟨hq, rfl⟩ := hp4
  exact pv_iret C (⟨hq, rfl⟩) (by decide) (by decide) dX7_deltas_7
set_option maxRecDepth 100000 in
set_option maxHeartbeats 4000000 in
theorem c_X7_tick (l : Launch) (X : XT) (D : DT) (P : PT)  : CG l X yX7_tick (.code yX7_tick cX7_tick 1 (some .int) :: AW) ({ frames := 1, cells := 0, slots := 0, locals := 36 } : Room) [.ref (X.2.2 6)] (qI X (fun r D' P' => rd (0) (D 7 179) D r D' ∧ P = P')) D P 0 0 := by
  refine cg_of (by decide +kernel) (Nat.le_of_ble_eq_true rfl) ?_
  intro K hKl hKR C
  refine PV_lv (lv' := [some (.ref (X.2.2 6))]) rfl ?_
  refine pv_aload_n (q := 1) C dX7_tick_0 rfl rfl rfl ?_ 
  refine pv_sipush (q := 4) (v := 179) C dX7_tick_1 rfl (by decide) ?_ 
  refine pv_callVi (q := 7) C hKl (c_X7_tell l X D P 179 (by decide)) tw_1292 k6 (by decide) rfl mm_X7_tell ⟨rfl, rfl⟩ (by rw [hKR]; exact ⟨Nat.le_of_ble_eq_true rfl, Nat.le_of_ble_eq_true rfl⟩) (by rw [hKR]; exact ⟨Nat.le_of_ble_eq_true rfl, Nat.le_of_ble_eq_true rfl⟩) rfl rfl rfl (Nat.le_of_ble_eq_true rfl) dX7_tick_4 rfl (fun r4 D4 P4 hp4 => ?_) 
  obtain ⟨hq, rfl⟩ := hp4
  exact pv_iret C (⟨hq, rfl⟩) (by decide) (by decide) dX7_tick_7
set_option maxRecDepth 100000 in
set_option maxHeartbeats 4000000 in
theorem c_X7_wakings (l : Launch) (X : XT) (D : DT) (P : PT)  : CG l X yX7_wakings (.code yX7_wakings cX7_wakings 1 (some .int) :: AW) ({ frames := 1, cells := 0, slots := 0, locals := 36 } : Room) [.ref (X.2.2 6)] (qI X (fun r D' P' => rd (0) (D 7 180) D r D' ∧ P = P')) D P 0 0 := by
  refine cg_of (by decide +kernel) (Nat.le_of_ble_eq_true rfl) ?_
  intro K hKl hKR C
  refine PV_lv (lv' := [some (.ref (X.2.2 6))]) rfl ?_
  refine pv_aload_n (q := 1) C dX7_wakings_0 rfl rfl rfl ?_ 
  refine pv_sipush (q := 4) (v := 180) C dX7_wakings_1 rfl (by decide) ?_ 
  refine pv_callVi (q := 7) C hKl (c_X7_tell l X D P 180 (by decide)) tw_1292 k6 (by decide) rfl mm_X7_tell ⟨rfl, rfl⟩ (by rw [hKR]; exact ⟨Nat.le_of_ble_eq_true rfl, Nat.le_of_ble_eq_true rfl⟩) (by rw [hKR]; exact ⟨Nat.le_of_ble_eq_true rfl, Nat.le_of_ble_eq_true rfl⟩) rfl rfl rfl (Nat.le_of_ble_eq_true rfl) dX7_wakings_4 rfl (fun r4 D4 P4 hp4 => ?_) 
  obtain ⟨hq, rfl⟩ := hp4
  exact pv_iret C (⟨hq, rfl⟩) (by decide) (by decide) dX7_wakings_7
set_option maxRecDepth 100000 in
set_option maxHeartbeats 4000000 in
theorem c_X7_wakingsByThemselves (l : Launch) (X : XT) (D : DT) (P : PT)  : CG l X yX7_wakingsByThemselves (.code yX7_wakingsByThemselves cX7_wakingsByThemselves 1 (some .int) :: AW) ({ frames := 1, cells := 0, slots := 0, locals := 36 } : Room) [.ref (X.2.2 6)] (qI X (fun r D' P' => rd (0) (D 7 181) D r D' ∧ P = P')) D P 0 0 := by
  refine cg_of (by decide +kernel) (Nat.le_of_ble_eq_true rfl) ?_
  intro K hKl hKR C
  refine PV_lv (lv' := [some (.ref (X.2.2 6))]) rfl ?_
  refine pv_aload_n (q := 1) C dX7_wakingsByThemselves_0 rfl rfl rfl ?_ 
  refine pv_sipush (q := 4) (v := 181) C dX7_wakingsByThemselves_1 rfl (by decide) ?_ 
  refine pv_callVi (q := 7) C hKl (c_X7_tell l X D P 181 (by decide)) tw_1292 k6 (by decide) rfl mm_X7_tell ⟨rfl, rfl⟩ (by rw [hKR]; exact ⟨Nat.le_of_ble_eq_true rfl, Nat.le_of_ble_eq_true rfl⟩) (by rw [hKR]; exact ⟨Nat.le_of_ble_eq_true rfl, Nat.le_of_ble_eq_true rfl⟩) rfl rfl rfl (Nat.le_of_ble_eq_true rfl) dX7_wakingsByThemselves_4 rfl (fun r4 D4 P4 hp4 => ?_) 
  obtain ⟨hq, rfl⟩ := hp4
  exact pv_iret C (⟨hq, rfl⟩) (by decide) (by decide) dX7_wakingsByThemselves_7
set_option maxRecDepth 100000 in
set_option maxHeartbeats 4000000 in
theorem c_X7_refreshes (l : Launch) (X : XT) (D : DT) (P : PT)  : CG l X yX7_refreshes (.code yX7_refreshes cX7_refreshes 1 (some .int) :: AW) ({ frames := 1, cells := 0, slots := 0, locals := 36 } : Room) [.ref (X.2.2 6)] (qI X (fun r D' P' => rd (0) (D 7 182) D r D' ∧ P = P')) D P 0 0 := by
  refine cg_of (by decide +kernel) (Nat.le_of_ble_eq_true rfl) ?_
  intro K hKl hKR C
  refine PV_lv (lv' := [some (.ref (X.2.2 6))]) rfl ?_
  refine pv_aload_n (q := 1) C dX7_refreshes_0 rfl rfl rfl ?_ 
  refine pv_sipush (q := 4) (v := 182) C dX7_refreshes_1 rfl (by decide) ?_ 
  refine pv_callVi (q := 7) C hKl (c_X7_tell l X D P 182 (by decide)) tw_1292 k6 (by decide) rfl mm_X7_tell ⟨rfl, rfl⟩ (by rw [hKR]; exact ⟨Nat.le_of_ble_eq_true rfl, Nat.le_of_ble_eq_true rfl⟩) (by rw [hKR]; exact ⟨Nat.le_of_ble_eq_true rfl, Nat.le_of_ble_eq_true rfl⟩) rfl rfl rfl (Nat.le_of_ble_eq_true rfl) dX7_refreshes_4 rfl (fun r4 D4 P4 hp4 => ?_) 
  obtain ⟨hq, rfl⟩ := hp4
  exact pv_iret C (⟨hq, rfl⟩) (by decide) (by decide) dX7_refreshes_7
set_option maxRecDepth 100000 in
set_option maxHeartbeats 4000000 in
theorem c_X7_savedStates (l : Launch) (X : XT) (D : DT) (P : PT)  : CG l X yX7_savedStates (.code yX7_savedStates cX7_savedStates 1 (some .int) :: AW) ({ frames := 0, cells := 0, slots := 0, locals := 0 } : Room) [.ref (X.2.2 6)] (qI X (fun r D' P' => rd (0) (D 6 3) D r D' ∧ P = P')) D P 0 0 := by
  refine cg_of (by decide +kernel) (Nat.le_of_ble_eq_true rfl) ?_
  intro K hKl hKR C
  refine PV_lv (lv' := [some (.ref (X.2.2 6))]) rfl ?_
  refine pv_aload_n (q := 1) C dX7_savedStates_0 rfl rfl rfl ?_ 
  refine pv_iconst (q := 2) (v := 0) C dX7_savedStates_1 rfl (by decide) ?_ 
  refine pp_7_0 (q := 5) C k6 tw_995 dX7_savedStates_2 rfl (fun D2 hD2 => ?_) 
  refine pv_aload_n (q := 6) C dX7_savedStates_5 rfl rfl rfl ?_ 
  refine pg_7_3 (q := 9) C k6 tw_998 dX7_savedStates_6 rfl ?_ 
  exact pv_iret C (⟨⟨by rw [hD2]; rfl, fun _ => by rw [hD2]; rfl, (by subst_vars; repeat (first | exact Sx_rf _ | refine Sx.ar ?_ (by decide) | refine Sx.up ?_ (by decide)))⟩, rfl⟩) (by decide) (by decide) dX7_savedStates_9
set_option maxRecDepth 100000 in
set_option maxHeartbeats 4000000 in
theorem c_X7_rows (l : Launch) (X : XT) (D : DT) (P : PT)  : CG l X yX7_rows (.code yX7_rows cX7_rows 1 (some .int) :: AW) ({ frames := 2, cells := 0, slots := 0, locals := 72 } : Room) [.ref (X.2.2 6)] (qI X (fun r D' P' => rd (0) (nI (tk (D 7))) D r D' ∧ P = P')) D P 0 0 := by
  refine cg_of (by decide +kernel) (Nat.le_of_ble_eq_true rfl) ?_
  intro K hKl hKR C
  refine PV_lv (lv' := [some (.ref (X.2.2 6))]) rfl ?_
  refine pv_aload_n (q := 1) C dX7_rows_0 rfl rfl rfl ?_ 
  refine pv_iconst (q := 2) (v := 0) C dX7_rows_1 rfl (by decide) ?_ 
  refine pp_7_0 (q := 5) C k6 tw_995 dX7_rows_2 rfl (fun D2 hD2 => ?_) 
  refine pv_aload_n (q := 6) C dX7_rows_5 rfl rfl rfl ?_ 
  refine pv_callVi (q := 9) C hKl (c_X7_taken l X D2 P ) tw_1108 k6 (by decide) rfl mm_X7_taken ⟨rfl, rfl⟩ (by rw [hKR]; exact ⟨Nat.le_of_ble_eq_true rfl, Nat.le_of_ble_eq_true rfl⟩) (by rw [hKR]; exact ⟨Nat.le_of_ble_eq_true rfl, Nat.le_of_ble_eq_true rfl⟩) rfl rfl rfl (Nat.le_of_ble_eq_true rfl) dX7_rows_6 rfl (fun r6 D6 P6 hp6 => ?_) 
  obtain ⟨rfl, rfl, rfl⟩ := hp6
  exact pv_iret C (⟨⟨by rw [hD2]; rfl, fun _ => by rw [hD2]; rfl, (by subst_vars; repeat (first | exact Sx_rf _ | refine Sx.ar ?_ (by decide) | refine Sx.up ?_ (by decide)))⟩, rfl⟩) (by decide) (by decide) dX7_rows_9
set_option maxRecDepth 100000 in
set_option maxHeartbeats 4000000 in
theorem c_X7_hasStopped (l : Launch) (X : XT) (D : DT) (P : PT)  : CG l X yX7_hasStopped (.code yX7_hasStopped cX7_hasStopped 1 (some .boolean) :: AW) ({ frames := 0, cells := 0, slots := 0, locals := 0 } : Room) [.ref (X.2.2 6)] (qI X (fun r D' P' => rd (0) (if D 7 183 = -1 then 0 else 1) D r D' ∧ P = P')) D P 0 0 := by
  refine cg_of (by decide +kernel) (Nat.le_of_ble_eq_true rfl) ?_
  intro K hKl hKR C
  refine PV_lv (lv' := [some (.ref (X.2.2 6))]) rfl ?_
  refine pv_aload_n (q := 1) C dX7_hasStopped_0 rfl rfl rfl ?_ 
  refine pv_iconst (q := 2) (v := 0) C dX7_hasStopped_1 rfl (by decide) ?_ 
  refine pp_7_0 (q := 5) C k6 tw_995 dX7_hasStopped_2 rfl (fun D2 hD2 => ?_) 
  refine pv_aload_n (q := 6) C dX7_hasStopped_5 rfl rfl rfl ?_ 
  refine pg_7_1 (q := 9) C k6 tw_996 dX7_hasStopped_6 rfl (fun k6 => ?_) 
  refine pv_sipush (q := 12) (v := 183) C dX7_hasStopped_9 rfl (by decide) ?_ 
  refine pv_iald (q := 13) (j := 183) C (iln_15 k6) rfl (by decide) dX7_hasStopped_12 rfl ?_ 
  refine pv_iconst (q := 14) (v := (-1)) C dX7_hasStopped_13 rfl (by decide) ?_ 
  refine pv_icmp_eq (q := 17) (tgt := 21) C dX7_hasStopped_14 (by decide) rfl (fun c_14 => ?_) (fun c_14 => ?_) 
  · refine pv_iconst (q := 22) (v := 0) C dX7_hasStopped_21 rfl (by decide) ?_
    exact pv_zret C (Or.inl rfl) (⟨⟨by rw [hD2]; rfl, fun _ => by rw [hD2] at c_14; exact (if_pos c_14).symm, (by subst_vars; repeat (first | exact Sx_rf _ | refine Sx.ar ?_ (by decide) | refine Sx.up ?_ (by decide)))⟩, rfl⟩) (by decide) (by decide) dX7_hasStopped_22
  · refine pv_iconst (q := 18) (v := 1) C dX7_hasStopped_17 rfl (by decide) ?_
    refine pv_goto (tgt := 22) C dX7_hasStopped_18 (by decide) ?_ 
    exact pv_zret C (Or.inr rfl) (⟨⟨by rw [hD2]; rfl, fun _ => by rw [hD2] at c_14; exact (if_neg c_14).symm, (by subst_vars; repeat (first | exact Sx_rf _ | refine Sx.ar ?_ (by decide) | refine Sx.up ?_ (by decide)))⟩, rfl⟩) (by decide) (by decide) dX7_hasStopped_22
set_option maxRecDepth 100000 in
set_option maxHeartbeats 4000000 in
theorem c_X7_clearBuffer (l : Launch) (X : XT) (D : DT) (P : PT)  : CG l X yX7_clearBuffer (.code yX7_clearBuffer cX7_clearBuffer 2 (some .int) :: AW) ({ frames := 0, cells := 0, slots := 0, locals := 0 } : Room) [.ref (X.2.2 6)] (qI X (fun r D' P' => mr 0 (D 6 9) D (up2 (clr D) 6 9 0) r D' ∧ P = P')) D P 0 0 := by
  refine cg_of (by decide +kernel) (Nat.le_of_ble_eq_true rfl) ?_
  intro K hKl hKR C
  refine PV_lv (lv' := [some (.ref (X.2.2 6)), none]) rfl ?_
  refine pv_aload_n (q := 1) C dX7_clearBuffer_0 rfl rfl rfl ?_ 
  refine pv_iconst (q := 2) (v := 0) C dX7_clearBuffer_1 rfl (by decide) ?_ 
  refine pp_7_0 (q := 5) C k6 tw_995 dX7_clearBuffer_2 rfl (fun D2 hD2 => ?_) 
  refine pv_aload_n (q := 6) C dX7_clearBuffer_5 rfl rfl rfl ?_ 
  refine pg_7_9 (q := 9) C k6 tw_1004 dX7_clearBuffer_6 rfl ?_ 
  refine pv_istore_n (q := 10) C dX7_clearBuffer_9 rfl rfl (Nat.le_of_ble_eq_true rfl) rfl ?_ 
  refine pv_aload_n (q := 11) C dX7_clearBuffer_10 rfl rfl rfl ?_ 
  refine pv_iconst (q := 12) (v := 0) C dX7_clearBuffer_11 rfl (by decide) ?_ 
  refine pp_7_9 (q := 15) C k6 tw_1004 dX7_clearBuffer_12 rfl (fun D12 hD12 => ?_) 
  refine pv_iload_n (q := 16) C dX7_clearBuffer_15 rfl rfl rfl ?_ 
  exact pv_iret C (⟨mr_ok rfl (by rw [hD2]; rfl) (by rw [hD12, hD2]; rfl), rfl⟩) (by decide) (by decide) dX7_clearBuffer_16
set_option maxRecDepth 100000 in
set_option maxHeartbeats 4000000 in
theorem c_X7_stoppedPart (l : Launch) (X : XT) (D : DT) (P : PT)  : CG l X yX7_stoppedPart (.code yX7_stoppedPart cX7_stoppedPart 1 (some .int) :: AW) ({ frames := 1, cells := 0, slots := 0, locals := 36 } : Room) [.ref (X.2.2 6)] (qI X (fun r D' P' => rd (if D 7 183 = -1 then 1 else 0) (D 7 183) D r D' ∧ P = P')) D P 0 0 := by
  refine cg_of (by decide +kernel) (Nat.le_of_ble_eq_true rfl) ?_
  intro K hKl hKR C
  refine PV_lv (lv' := [some (.ref (X.2.2 6))]) rfl ?_
  refine pv_aload_n (q := 1) C dX7_stoppedPart_0 rfl rfl rfl ?_ 
  refine pv_aload_n (q := 2) C dX7_stoppedPart_1 rfl rfl rfl ?_ 
  refine pg_7_1 (q := 5) C k6 tw_996 dX7_stoppedPart_2 rfl (fun k2 => ?_) 
  refine pv_sipush (q := 8) (v := 183) C dX7_stoppedPart_5 rfl (by decide) ?_ 
  refine pv_iald (q := 9) (j := 183) C (iln_15 k2) rfl (by decide) dX7_stoppedPart_8 rfl ?_ 
  refine pv_iconst (q := 10) (v := (-1)) C dX7_stoppedPart_9 rfl (by decide) ?_ 
  refine pv_icmp_ne (q := 13) (tgt := 17) C dX7_stoppedPart_10 (by decide) rfl (fun c_10 => ?_) (fun c_10 => ?_) 
  · refine pv_iconst (q := 18) (v := 0) C dX7_stoppedPart_17 rfl (by decide) ?_
    refine pv_callVi (q := 21) C hKl (c_X7_refused0 l X D P ) tw_1069 k6 (by decide) rfl mm_X7_refused ⟨rfl, rfl⟩ (by rw [hKR]; exact ⟨Nat.le_of_ble_eq_true rfl, Nat.le_of_ble_eq_true rfl⟩) (by rw [hKR]; exact ⟨Nat.le_of_ble_eq_true rfl, Nat.le_of_ble_eq_true rfl⟩) rfl rfl rfl (Nat.le_of_ble_eq_true rfl) dX7_stoppedPart_18 rfl (fun r18 D18 P18 hp18 => ?_) 
    obtain ⟨rfl, hR18, rfl⟩ := hp18
    refine pv_if_eq (q := 24) (tgt := 26) C dX7_stoppedPart_21 (by decide) rfl (fun _ => ?_) (fun h => absurd h (by decide)) 
    refine pv_aload_n (q := 27) C dX7_stoppedPart_26 rfl rfl rfl ?_ 
    refine pg_7_1 (q := 30) C k6 tw_996 dX7_stoppedPart_27 rfl (fun k27 => ?_) 
    refine pv_sipush (q := 33) (v := 183) C dX7_stoppedPart_30 rfl (by decide) ?_ 
    refine pv_iald (q := 34) (j := 183) C (iln_15 k27) rfl (by decide) dX7_stoppedPart_33 rfl ?_ 
    exact pv_iret C (⟨⟨by rw [if_neg c_10, hR18]; rfl, fun _ => by rw [hR18]; rfl, (by subst_vars; repeat (first | exact Sx_rf _ | refine Sx.ar ?_ (by decide) | refine Sx.up ?_ (by decide)))⟩, rfl⟩) (by decide) (by decide) dX7_stoppedPart_34
  · refine pv_iconst (q := 14) (v := 1) C dX7_stoppedPart_13 rfl (by decide) ?_
    refine pv_goto (tgt := 18) C dX7_stoppedPart_14 (by decide) ?_ 
    refine pv_callVi (q := 21) C hKl (c_X7_refused l X D P _ (by decide)) tw_1069 k6 (by decide) rfl mm_X7_refused ⟨rfl, rfl⟩ (by rw [hKR]; exact ⟨Nat.le_of_ble_eq_true rfl, Nat.le_of_ble_eq_true rfl⟩) (by rw [hKR]; exact ⟨Nat.le_of_ble_eq_true rfl, Nat.le_of_ble_eq_true rfl⟩) rfl rfl rfl (Nat.le_of_ble_eq_true rfl) dX7_stoppedPart_18 rfl (fun r18 D18 P18 hp18 => ?_) 
    obtain ⟨rfl, hR18, rfl⟩ := hp18
    refine pv_if_eq (q := 24) (tgt := 26) C dX7_stoppedPart_21 (by decide) rfl (fun h => absurd h (by decide)) (fun _ => ?_) 
    refine pv_iconst (q := 25) (v := 0) C dX7_stoppedPart_24 rfl (by decide) ?_ 
    exact pv_iret C (⟨⟨by rw [if_pos c_10, hR18]; rfl, fun z => absurd z (by rw [if_pos c_10]; decide), (by subst_vars; repeat (first | exact Sx_rf _ | refine Sx.ar ?_ (by decide) | refine Sx.up ?_ (by decide)))⟩, rfl⟩) (by decide) (by decide) dX7_stoppedPart_25
set_option maxRecDepth 100000 in
set_option maxHeartbeats 4000000 in
theorem c_X7_isFree (l : Launch) (X : XT) (D : DT) (P : PT) (place : Int32) : CG l X yX7_isFree (.code yX7_isFree cX7_isFree 2 (some .boolean) :: AW) ({ frames := 2, cells := 0, slots := 0, locals := 72 } : Room) [.ref (X.2.2 6), .int place] (qI X (fun r D' P' => rd (kRg place 0 15) (if D 7 (ix place) = 0 then 1 else 0) D r D' ∧ P = P')) D P 0 0 := by
  refine cg_of (by decide +kernel) (Nat.le_of_ble_eq_true rfl) ?_
  intro K hKl hKR C
  refine PV_lv (lv' := [some (.ref (X.2.2 6)), some (.int place)]) rfl ?_
  refine pv_aload_n (q := 1) C dX7_isFree_0 rfl rfl rfl ?_ 
  refine pv_iload_n (q := 2) C dX7_isFree_1 rfl rfl rfl ?_ 
  refine pv_callSi (q := 5) C hKl (c_X7_isPlace l X D P _) tw_1049 mm_X7_isPlace ⟨rfl, rfl⟩ (by rw [hKR]; exact ⟨Nat.le_of_ble_eq_true rfl, Nat.le_of_ble_eq_true rfl⟩) (by rw [hKR]; exact ⟨Nat.le_of_ble_eq_true rfl, Nat.le_of_ble_eq_true rfl⟩) rfl rfl rfl (Nat.le_of_ble_eq_true rfl) dX7_isFree_2 rfl (fun r2 D2 P2 hp2 => ?_) 
  rcases hp2 with ⟨⟨hy2, rfl⟩ | ⟨hn2, rfl⟩, rfl, rfl⟩
  · obtain ⟨p, hp, rfl⟩ := rg16 hy2
    refine pv_if_eq (q := 8) (tgt := 12) C dX7_isFree_5 (by decide) rfl (fun h => absurd h (by decide)) (fun _ => ?_) 
    refine pv_iconst (q := 9) (v := 0) C dX7_isFree_8 rfl (by decide) ?_ 
    refine pv_goto (tgt := 13) C dX7_isFree_9 (by decide) ?_ 
    refine pv_callVi (q := 16) C hKl (c_X7_refused0 l X D P ) tw_1069 k6 (by decide) rfl mm_X7_refused ⟨rfl, rfl⟩ (by rw [hKR]; exact ⟨Nat.le_of_ble_eq_true rfl, Nat.le_of_ble_eq_true rfl⟩) (by rw [hKR]; exact ⟨Nat.le_of_ble_eq_true rfl, Nat.le_of_ble_eq_true rfl⟩) rfl rfl rfl (Nat.le_of_ble_eq_true rfl) dX7_isFree_13 rfl (fun r13 D13 P13 hp13 => ?_) 
    obtain ⟨rfl, hR13, rfl⟩ := hp13
    refine pv_if_ne (q := 19) (tgt := 31) C dX7_isFree_16 (by decide) rfl (fun h => absurd h (by decide)) (fun _ => ?_) 
    refine pv_aload_n (q := 20) C dX7_isFree_19 rfl rfl rfl ?_ 
    refine pv_iload_n (q := 21) C dX7_isFree_20 rfl rfl rfl ?_ 
    refine pv_callVi (q := 24) C hKl (c_X7_vacant l X D13 P _ (by omega)) tw_1065 k6 (by decide) rfl mm_X7_vacant ⟨rfl, rfl⟩ (by rw [hKR]; exact ⟨Nat.le_of_ble_eq_true rfl, Nat.le_of_ble_eq_true rfl⟩) (by rw [hKR]; exact ⟨Nat.le_of_ble_eq_true rfl, Nat.le_of_ble_eq_true rfl⟩) rfl rfl rfl (Nat.le_of_ble_eq_true rfl) dX7_isFree_21 rfl (fun r21 D21 P21 hp21 => ?_) 
    rcases hp21 with ⟨⟨hy21, rfl⟩ | ⟨hn21, rfl⟩, rfl, rfl⟩
    · refine pv_if_eq (q := 27) (tgt := 31) C dX7_isFree_24 (by decide) rfl (fun h => absurd h (by decide)) (fun _ => ?_)
      refine pv_iconst (q := 28) (v := 1) C dX7_isFree_27 rfl (by decide) ?_ 
      refine pv_goto (tgt := 32) C dX7_isFree_28 (by decide) ?_ 
      exact pv_zret C (Or.inr rfl) (⟨⟨by rw [hR13]; unfold kRg; rw [if_pos hy2]; rfl, fun _ => by rw [ix_n (by omega), if_pos (by rw [hR13] at hy21; exact hy21)], (by subst_vars; repeat (first | exact Sx_rf _ | refine Sx.ar ?_ (by decide) | refine Sx.up ?_ (by decide)))⟩, rfl⟩) (by decide) (by decide) dX7_isFree_32
    · refine pv_if_eq (q := 27) (tgt := 31) C dX7_isFree_24 (by decide) rfl (fun _ => ?_) (fun h => absurd h (by decide))
      refine pv_iconst (q := 32) (v := 0) C dX7_isFree_31 rfl (by decide) ?_ 
      exact pv_zret C (Or.inl rfl) (⟨⟨by rw [hR13]; unfold kRg; rw [if_pos hy2]; rfl, fun _ => by rw [ix_n (by omega), if_neg (by rw [hR13] at hn21; exact hn21)], (by subst_vars; repeat (first | exact Sx_rf _ | refine Sx.ar ?_ (by decide) | refine Sx.up ?_ (by decide)))⟩, rfl⟩) (by decide) (by decide) dX7_isFree_32
  · refine pv_if_eq (q := 8) (tgt := 12) C dX7_isFree_5 (by decide) rfl (fun _ => ?_) (fun h => absurd h (by decide))
    refine pv_iconst (q := 13) (v := 1) C dX7_isFree_12 rfl (by decide) ?_ 
    refine pv_callVi (q := 16) C hKl (c_X7_refused l X D P _ (by decide)) tw_1069 k6 (by decide) rfl mm_X7_refused ⟨rfl, rfl⟩ (by rw [hKR]; exact ⟨Nat.le_of_ble_eq_true rfl, Nat.le_of_ble_eq_true rfl⟩) (by rw [hKR]; exact ⟨Nat.le_of_ble_eq_true rfl, Nat.le_of_ble_eq_true rfl⟩) rfl rfl rfl (Nat.le_of_ble_eq_true rfl) dX7_isFree_13 rfl (fun r13 D13 P13 hp13 => ?_) 
    obtain ⟨rfl, hR13, rfl⟩ := hp13
    refine pv_if_ne (q := 19) (tgt := 31) C dX7_isFree_16 (by decide) rfl (fun _ => ?_) (fun h => absurd h (by decide)) 
    refine pv_iconst (q := 32) (v := 0) C dX7_isFree_31 rfl (by decide) ?_ 
    exact pv_zret C (Or.inl rfl) (⟨⟨by rw [hR13]; unfold kRg; rw [if_neg hn2]; rfl, fun z => absurd z (by unfold kRg; rw [if_neg hn2]; decide), (by subst_vars; repeat (first | exact Sx_rf _ | refine Sx.ar ?_ (by decide) | refine Sx.up ?_ (by decide)))⟩, rfl⟩) (by decide) (by decide) dX7_isFree_32
set_option maxRecDepth 100000 in
set_option maxHeartbeats 4000000 in
theorem c_X7_groupAt (l : Launch) (X : XT) (D : DT) (P : PT) (place : Int32) : CG l X yX7_groupAt (.code yX7_groupAt cX7_groupAt 2 (some .int) :: AW) ({ frames := 3, cells := 0, slots := 0, locals := 108 } : Room) [.ref (X.2.2 6), .int place] (qI X (fun r D' P' => rd (kRow (D 7) place) (D 7 (ix place) - 1) D r D' ∧ P = P')) D P 0 0 := by
  refine cg_of (by decide +kernel) (Nat.le_of_ble_eq_true rfl) ?_
  intro K hKl hKR C
  refine PV_lv (lv' := [some (.ref (X.2.2 6)), some (.int place)]) rfl ?_
  refine pv_aload_n (q := 1) C dX7_groupAt_0 rfl rfl rfl ?_ 
  refine pv_iload_n (q := 2) C dX7_groupAt_1 rfl rfl rfl ?_ 
  refine pv_callVi (q := 5) C hKl (c_X7_noRow l X D P _) tw_1132 k6 (by decide) rfl mm_X7_noRow ⟨rfl, rfl⟩ (by rw [hKR]; exact ⟨Nat.le_of_ble_eq_true rfl, Nat.le_of_ble_eq_true rfl⟩) (by rw [hKR]; exact ⟨Nat.le_of_ble_eq_true rfl, Nat.le_of_ble_eq_true rfl⟩) rfl rfl rfl (Nat.le_of_ble_eq_true rfl) dX7_groupAt_2 rfl (fun r2 D2 P2 hp2 => ?_) 
  rcases hp2 with ⟨⟨hk2, rfl, hR2⟩ | ⟨hk2, rfl, hR2⟩, rfl⟩
  · obtain ⟨p, hp, rfl, hrow⟩ := rg_kr hk2
    refine pv_if_eq (q := 8) (tgt := 12) C dX7_groupAt_5 (by decide) rfl (fun _ => ?_) (fun h => absurd h (by decide)) 
    refine pv_aload_n (q := 13) C dX7_groupAt_12 rfl rfl rfl ?_ 
    refine pg_7_1 (q := 16) C k6 tw_996 dX7_groupAt_13 rfl (fun k13 => ?_) 
    refine pv_iload_n (q := 17) C dX7_groupAt_16 rfl rfl rfl ?_ 
    refine pv_iald (q := 18) (j := p) C (iln_15 k13) rfl (by omega) dX7_groupAt_17 rfl ?_ 
    refine pv_iconst (q := 19) (v := 1) C dX7_groupAt_18 rfl (by decide) ?_ 
    refine pv_isub (q := 20) C dX7_groupAt_19 rfl ?_ 
    exact pv_iret C (⟨⟨by rw [hk2]; subst_vars; rfl, fun _ => by rw [ix_n (by omega)]; subst_vars; rfl, (by subst_vars; repeat (first | exact Sx_rf _ | refine Sx.ar ?_ (by decide) | refine Sx.up ?_ (by decide)))⟩, rfl⟩) (by decide) (by decide) dX7_groupAt_20
  · refine pv_if_eq (q := 8) (tgt := 12) C dX7_groupAt_5 (by decide) rfl (fun h => absurd h (by decide)) (fun _ => ?_)
    refine pv_iconst (q := 9) (v := 0) C dX7_groupAt_8 rfl (by decide) ?_ 
    refine pv_goto (tgt := 20) C dX7_groupAt_9 (by decide) ?_ 
    exact pv_iret C (⟨⟨by rw [hR2]; rfl, fun z => absurd z hk2, (by subst_vars; repeat (first | exact Sx_rf _ | refine Sx.ar ?_ (by decide) | refine Sx.up ?_ (by decide)))⟩, rfl⟩) (by decide) (by decide) dX7_groupAt_20
set_option maxRecDepth 100000 in
set_option maxHeartbeats 4000000 in
theorem c_X7_amountAt (l : Launch) (X : XT) (D : DT) (P : PT) (place : Int32) : CG l X yX7_amountAt (.code yX7_amountAt cX7_amountAt 2 (some .int) :: AW) ({ frames := 3, cells := 0, slots := 0, locals := 108 } : Room) [.ref (X.2.2 6), .int place] (qI X (fun r D' P' => rd (kRow (D 7) place) (D 7 (16 + ix place)) D r D' ∧ P = P')) D P 0 0 := by
  refine cg_of (by decide +kernel) (Nat.le_of_ble_eq_true rfl) ?_
  intro K hKl hKR C
  refine PV_lv (lv' := [some (.ref (X.2.2 6)), some (.int place)]) rfl ?_
  refine pv_aload_n (q := 1) C dX7_amountAt_0 rfl rfl rfl ?_ 
  refine pv_iload_n (q := 2) C dX7_amountAt_1 rfl rfl rfl ?_ 
  refine pv_callVi (q := 5) C hKl (c_X7_noRow l X D P _) tw_1132 k6 (by decide) rfl mm_X7_noRow ⟨rfl, rfl⟩ (by rw [hKR]; exact ⟨Nat.le_of_ble_eq_true rfl, Nat.le_of_ble_eq_true rfl⟩) (by rw [hKR]; exact ⟨Nat.le_of_ble_eq_true rfl, Nat.le_of_ble_eq_true rfl⟩) rfl rfl rfl (Nat.le_of_ble_eq_true rfl) dX7_amountAt_2 rfl (fun r2 D2 P2 hp2 => ?_) 
  rcases hp2 with ⟨⟨hk2, rfl, hR2⟩ | ⟨hk2, rfl, hR2⟩, rfl⟩
  · obtain ⟨p, hp, rfl, hrow⟩ := rg_kr hk2
    refine pv_if_eq (q := 8) (tgt := 12) C dX7_amountAt_5 (by decide) rfl (fun _ => ?_) (fun h => absurd h (by decide)) 
    refine pv_aload_n (q := 13) C dX7_amountAt_12 rfl rfl rfl ?_ 
    refine pg_7_1 (q := 16) C k6 tw_996 dX7_amountAt_13 rfl (fun k13 => ?_) 
    refine pv_bipush (q := 18) (v := 16) C dX7_amountAt_16 rfl (by decide) ?_ 
    refine pv_iload_n (q := 19) C dX7_amountAt_18 rfl rfl rfl ?_ 
    refine pv_iadd (q := 20) C dX7_amountAt_19 rfl ?_ 
    refine pv_iald (q := 21) (j := (16 + p)) C (iln_15 k13) (nI_add 16 p) (by omega) dX7_amountAt_20 rfl ?_ 
    exact pv_iret C (⟨⟨by rw [hk2]; subst_vars; rfl, fun _ => by rw [ix_n (by omega)]; subst_vars; rfl, (by subst_vars; repeat (first | exact Sx_rf _ | refine Sx.ar ?_ (by decide) | refine Sx.up ?_ (by decide)))⟩, rfl⟩) (by decide) (by decide) dX7_amountAt_21
  · refine pv_if_eq (q := 8) (tgt := 12) C dX7_amountAt_5 (by decide) rfl (fun h => absurd h (by decide)) (fun _ => ?_)
    refine pv_iconst (q := 9) (v := 0) C dX7_amountAt_8 rfl (by decide) ?_ 
    refine pv_goto (tgt := 21) C dX7_amountAt_9 (by decide) ?_ 
    exact pv_iret C (⟨⟨by rw [hR2]; rfl, fun z => absurd z hk2, (by subst_vars; repeat (first | exact Sx_rf _ | refine Sx.ar ?_ (by decide) | refine Sx.up ?_ (by decide)))⟩, rfl⟩) (by decide) (by decide) dX7_amountAt_21
set_option maxRecDepth 100000 in
set_option maxHeartbeats 4000000 in
theorem c_X7_ask (l : Launch) (X : XT) (D : DT) (P : PT) (view : Int32) (w : Nat) (hw : w < 38) : CG l X yX7_ask (.code yX7_ask cX7_ask 3 (some .int) :: AW) ({ frames := 3, cells := 0, slots := 0, locals := 108 } : Room) [.ref (X.2.2 6), .int view, .int (nI w)] (qI X (fun r D' P' => rd (kView view) (D 7 (32 + 38 * ix view + w)) D r D' ∧ P = P')) D P 0 0 := by
  refine cg_of (by decide +kernel) (Nat.le_of_ble_eq_true rfl) ?_
  intro K hKl hKR C
  refine PV_lv (lv' := [some (.ref (X.2.2 6)), some (.int view), some (.int (nI w))]) rfl ?_
  refine pv_aload_n (q := 1) C dX7_ask_0 rfl rfl rfl ?_ 
  refine pv_iload_n (q := 2) C dX7_ask_1 rfl rfl rfl ?_ 
  refine pv_callVi (q := 5) C hKl (c_X7_noView l X D P _) tw_1160 k6 (by decide) rfl mm_X7_noView ⟨rfl, rfl⟩ (by rw [hKR]; exact ⟨Nat.le_of_ble_eq_true rfl, Nat.le_of_ble_eq_true rfl⟩) (by rw [hKR]; exact ⟨Nat.le_of_ble_eq_true rfl, Nat.le_of_ble_eq_true rfl⟩) rfl rfl rfl (Nat.le_of_ble_eq_true rfl) dX7_ask_2 rfl (fun r2 D2 P2 hp2 => ?_) 
  rcases hp2 with ⟨⟨hk2, rfl, hR2⟩ | ⟨hk2, rfl, hR2⟩, rfl⟩
  · obtain ⟨v, hv, rfl⟩ := rg_kv hk2
    refine pv_if_eq (q := 8) (tgt := 12) C dX7_ask_5 (by decide) rfl (fun _ => ?_) (fun h => absurd h (by decide)) 
    refine pv_aload_n (q := 13) C dX7_ask_12 rfl rfl rfl ?_ 
    refine pg_7_1 (q := 16) C k6 tw_996 dX7_ask_13 rfl (fun k13 => ?_) 
    refine pv_iload_n (q := 17) C dX7_ask_16 rfl rfl rfl ?_ 
    refine pv_callSi (q := 20) C hKl (c_X7_base l X D2 P v) tw_1093 mm_X7_base ⟨rfl, rfl⟩ (by rw [hKR]; exact ⟨Nat.le_of_ble_eq_true rfl, Nat.le_of_ble_eq_true rfl⟩) (by rw [hKR]; exact ⟨Nat.le_of_ble_eq_true rfl, Nat.le_of_ble_eq_true rfl⟩) rfl rfl rfl (Nat.le_of_ble_eq_true rfl) dX7_ask_17 rfl (fun r17 D17 P17 hp17 => ?_) 
    obtain ⟨rfl, rfl, rfl⟩ := hp17
    refine pv_iload_n (q := 21) C dX7_ask_20 rfl rfl rfl ?_ 
    refine pv_iaddN (q := 22) (a := (32 + 38 * v)) (b := w) C rfl rfl dX7_ask_21 rfl ?_ 
    refine pv_iald (q := 23) (j := ((32 + 38 * v) + w)) C (iln_15 k13) rfl (by omega) dX7_ask_22 rfl ?_ 
    exact pv_iret C (⟨⟨by rw [hk2]; subst_vars; rfl, fun _ => by rw [ix_n (by omega)]; subst_vars; rfl, (by subst_vars; repeat (first | exact Sx_rf _ | refine Sx.ar ?_ (by decide) | refine Sx.up ?_ (by decide)))⟩, rfl⟩) (by decide) (by decide) dX7_ask_23
  · refine pv_if_eq (q := 8) (tgt := 12) C dX7_ask_5 (by decide) rfl (fun h => absurd h (by decide)) (fun _ => ?_)
    refine pv_iconst (q := 9) (v := 0) C dX7_ask_8 rfl (by decide) ?_ 
    refine pv_goto (tgt := 23) C dX7_ask_9 (by decide) ?_ 
    exact pv_iret C (⟨⟨by rw [hR2]; rfl, fun z => absurd z hk2, (by subst_vars; repeat (first | exact Sx_rf _ | refine Sx.ar ?_ (by decide) | refine Sx.up ?_ (by decide)))⟩, rfl⟩) (by decide) (by decide) dX7_ask_23
set_option maxRecDepth 100000 in
set_option maxHeartbeats 4000000 in
theorem c_X7_napOf (l : Launch) (X : XT) (D : DT) (P : PT) (view : Int32) : CG l X yX7_napOf (.code yX7_napOf cX7_napOf 2 (some .int) :: AW) ({ frames := 4, cells := 0, slots := 0, locals := 144 } : Room) [.ref (X.2.2 6), .int view] (qI X (fun r D' P' => rd (kView view) (D 7 (32 + 38 * ix view + 33)) D r D' ∧ P = P')) D P 0 0 := by
  refine cg_of (by decide +kernel) (Nat.le_of_ble_eq_true rfl) ?_
  intro K hKl hKR C
  refine PV_lv (lv' := [some (.ref (X.2.2 6)), some (.int view)]) rfl ?_
  refine pv_aload_n (q := 1) C dX7_napOf_0 rfl rfl rfl ?_ 
  refine pv_iload_n (q := 2) C dX7_napOf_1 rfl rfl rfl ?_ 
  refine pv_bipush (q := 4) (v := 33) C dX7_napOf_2 rfl (by decide) ?_ 
  refine pv_callVi (q := 7) C hKl (c_X7_ask l X D P _ 33 (by decide)) tw_1304 k6 (by decide) rfl mm_X7_ask ⟨rfl, rfl⟩ (by rw [hKR]; exact ⟨Nat.le_of_ble_eq_true rfl, Nat.le_of_ble_eq_true rfl⟩) (by rw [hKR]; exact ⟨Nat.le_of_ble_eq_true rfl, Nat.le_of_ble_eq_true rfl⟩) rfl rfl rfl (Nat.le_of_ble_eq_true rfl) dX7_napOf_4 rfl (fun r4 D4 P4 hp4 => ?_) 
  obtain ⟨hq, rfl⟩ := hp4
  exact pv_iret C (⟨hq, rfl⟩) (by decide) (by decide) dX7_napOf_7
set_option maxRecDepth 100000 in
set_option maxHeartbeats 4000000 in
theorem c_X7_filterOf (l : Launch) (X : XT) (D : DT) (P : PT) (view : Int32) : CG l X yX7_filterOf (.code yX7_filterOf cX7_filterOf 2 (some .int) :: AW) ({ frames := 4, cells := 0, slots := 0, locals := 144 } : Room) [.ref (X.2.2 6), .int view] (qI X (fun r D' P' => rd (kView view) (D 7 (32 + 38 * ix view + 34)) D r D' ∧ P = P')) D P 0 0 := by
  refine cg_of (by decide +kernel) (Nat.le_of_ble_eq_true rfl) ?_
  intro K hKl hKR C
  refine PV_lv (lv' := [some (.ref (X.2.2 6)), some (.int view)]) rfl ?_
  refine pv_aload_n (q := 1) C dX7_filterOf_0 rfl rfl rfl ?_ 
  refine pv_iload_n (q := 2) C dX7_filterOf_1 rfl rfl rfl ?_ 
  refine pv_bipush (q := 4) (v := 34) C dX7_filterOf_2 rfl (by decide) ?_ 
  refine pv_callVi (q := 7) C hKl (c_X7_ask l X D P _ 34 (by decide)) tw_1304 k6 (by decide) rfl mm_X7_ask ⟨rfl, rfl⟩ (by rw [hKR]; exact ⟨Nat.le_of_ble_eq_true rfl, Nat.le_of_ble_eq_true rfl⟩) (by rw [hKR]; exact ⟨Nat.le_of_ble_eq_true rfl, Nat.le_of_ble_eq_true rfl⟩) rfl rfl rfl (Nat.le_of_ble_eq_true rfl) dX7_filterOf_4 rfl (fun r4 D4 P4 hp4 => ?_) 
  obtain ⟨hq, rfl⟩ := hp4
  exact pv_iret C (⟨hq, rfl⟩) (by decide) (by decide) dX7_filterOf_7
set_option maxRecDepth 100000 in
set_option maxHeartbeats 4000000 in
theorem c_X7_isNapping (l : Launch) (X : XT) (D : DT) (P : PT) (view : Int32) : CG l X yX7_isNapping (.code yX7_isNapping cX7_isNapping 2 (some .boolean) :: AW) ({ frames := 4, cells := 0, slots := 0, locals := 144 } : Room) [.ref (X.2.2 6), .int view] (qI X (fun r D' P' => rd (kView view) (if D 7 (32 + 38 * ix view + 32) = 1 then 1 else 0) D r D' ∧ P = P')) D P 0 0 := by
  refine cg_of (by decide +kernel) (Nat.le_of_ble_eq_true rfl) ?_
  intro K hKl hKR C
  refine PV_lv (lv' := [some (.ref (X.2.2 6)), some (.int view)]) rfl ?_
  refine pv_aload_n (q := 1) C dX7_isNapping_0 rfl rfl rfl ?_ 
  refine pv_iload_n (q := 2) C dX7_isNapping_1 rfl rfl rfl ?_ 
  refine pv_bipush (q := 4) (v := 32) C dX7_isNapping_2 rfl (by decide) ?_ 
  refine pv_callVi (q := 7) C hKl (c_X7_ask l X D P _ 32 (by decide)) tw_1304 k6 (by decide) rfl mm_X7_ask ⟨rfl, rfl⟩ (by rw [hKR]; exact ⟨Nat.le_of_ble_eq_true rfl, Nat.le_of_ble_eq_true rfl⟩) (by rw [hKR]; exact ⟨Nat.le_of_ble_eq_true rfl, Nat.le_of_ble_eq_true rfl⟩) rfl rfl rfl (Nat.le_of_ble_eq_true rfl) dX7_isNapping_4 rfl (fun r4 D4 P4 hp4 => ?_) 
  obtain ⟨hq, rfl⟩ := hp4
  refine pv_iconst (q := 8) (v := 1) C dX7_isNapping_7 rfl (by decide) ?_ 
  refine pv_icmp_ne (q := 11) (tgt := 15) C dX7_isNapping_8 (by decide) rfl (fun c_8 => ?_) (fun c_8 => ?_) 
  · refine pv_iconst (q := 16) (v := 0) C dX7_isNapping_15 rfl (by decide) ?_
    exact pv_zret C (Or.inl rfl) (⟨⟨hq.1, fun z => by rw [hq.2.1 z] at c_8; exact (if_neg c_8).symm, hq.2.2⟩, rfl⟩) (by decide) (by decide) dX7_isNapping_16
  · refine pv_iconst (q := 12) (v := 1) C dX7_isNapping_11 rfl (by decide) ?_
    refine pv_goto (tgt := 16) C dX7_isNapping_12 (by decide) ?_ 
    exact pv_zret C (Or.inr rfl) (⟨⟨hq.1, fun z => by rw [hq.2.1 z] at c_8; exact (if_pos c_8).symm, hq.2.2⟩, rfl⟩) (by decide) (by decide) dX7_isNapping_16
set_option maxRecDepth 100000 in
set_option maxHeartbeats 4000000 in
theorem c_X7_waiting (l : Launch) (X : XT) (D : DT) (P : PT) (view : Int32) : CG l X yX7_waiting (.code yX7_waiting cX7_waiting 2 (some .int) :: AW) ({ frames := 3, cells := 0, slots := 0, locals := 108 } : Room) [.ref (X.2.2 6), .int view] (qI X (fun r D' P' => rd (kView view) (wt (D 7) (ix view)) D r D' ∧ P = P')) D P 0 0 := by
  refine cg_of (by decide +kernel) (Nat.le_of_ble_eq_true rfl) ?_
  intro K hKl hKR C
  refine PV_lv (lv' := [some (.ref (X.2.2 6)), some (.int view)]) rfl ?_
  refine pv_aload_n (q := 1) C dX7_waiting_0 rfl rfl rfl ?_ 
  refine pv_iload_n (q := 2) C dX7_waiting_1 rfl rfl rfl ?_ 
  refine pv_callVi (q := 5) C hKl (c_X7_noView l X D P _) tw_1160 k6 (by decide) rfl mm_X7_noView ⟨rfl, rfl⟩ (by rw [hKR]; exact ⟨Nat.le_of_ble_eq_true rfl, Nat.le_of_ble_eq_true rfl⟩) (by rw [hKR]; exact ⟨Nat.le_of_ble_eq_true rfl, Nat.le_of_ble_eq_true rfl⟩) rfl rfl rfl (Nat.le_of_ble_eq_true rfl) dX7_waiting_2 rfl (fun r2 D2 P2 hp2 => ?_) 
  rcases hp2 with ⟨⟨hk2, rfl, hR2⟩ | ⟨hk2, rfl, hR2⟩, rfl⟩
  · obtain ⟨v, hv, rfl⟩ := rg_kv hk2
    refine pv_if_eq (q := 8) (tgt := 12) C dX7_waiting_5 (by decide) rfl (fun _ => ?_) (fun h => absurd h (by decide)) 
    refine pv_aload_n (q := 13) C dX7_waiting_12 rfl rfl rfl ?_ 
    refine pv_iload_n (q := 14) C dX7_waiting_13 rfl rfl rfl ?_ 
    refine pv_callVi (q := 17) C hKl (c_X7_waits l X D2 P _ (by omega)) tw_1100 k6 (by decide) rfl mm_X7_waits ⟨rfl, rfl⟩ (by rw [hKR]; exact ⟨Nat.le_of_ble_eq_true rfl, Nat.le_of_ble_eq_true rfl⟩) (by rw [hKR]; exact ⟨Nat.le_of_ble_eq_true rfl, Nat.le_of_ble_eq_true rfl⟩) rfl rfl rfl (Nat.le_of_ble_eq_true rfl) dX7_waiting_14 rfl (fun r14 D14 P14 hp14 => ?_) 
    obtain ⟨rfl, rfl, rfl⟩ := hp14
    exact pv_iret C (⟨⟨by rw [hk2]; subst_vars; rfl, fun _ => by rw [ix_n (by omega)]; subst_vars; rfl, (by subst_vars; repeat (first | exact Sx_rf _ | refine Sx.ar ?_ (by decide) | refine Sx.up ?_ (by decide)))⟩, rfl⟩) (by decide) (by decide) dX7_waiting_17
  · refine pv_if_eq (q := 8) (tgt := 12) C dX7_waiting_5 (by decide) rfl (fun h => absurd h (by decide)) (fun _ => ?_)
    refine pv_iconst (q := 9) (v := 0) C dX7_waiting_8 rfl (by decide) ?_ 
    refine pv_goto (tgt := 17) C dX7_waiting_9 (by decide) ?_ 
    exact pv_iret C (⟨⟨by rw [hR2]; rfl, fun z => absurd z hk2, (by subst_vars; repeat (first | exact Sx_rf _ | refine Sx.ar ?_ (by decide) | refine Sx.up ?_ (by decide)))⟩, rfl⟩) (by decide) (by decide) dX7_waiting_17
set_option maxRecDepth 100000 in
set_option maxHeartbeats 4000000 in
theorem c_X7_waitingByNumbers (l : Launch) (X : XT) (D : DT) (P : PT) (view : Int32) : CG l X yX7_waitingByNumbers (.code yX7_waitingByNumbers cX7_waitingByNumbers 2 (some .int) :: AW) ({ frames := 3, cells := 0, slots := 0, locals := 108 } : Room) [.ref (X.2.2 6), .int view] (qI X (fun r D' P' => rd (kView view) (wt (D 7) (ix view)) D r D' ∧ P = P')) D P 0 0 := by
  refine cg_of (by decide +kernel) (Nat.le_of_ble_eq_true rfl) ?_
  intro K hKl hKR C
  refine PV_lv (lv' := [some (.ref (X.2.2 6)), some (.int view)]) rfl ?_
  refine pv_aload_n (q := 1) C dX7_waitingByNumbers_0 rfl rfl rfl ?_ 
  refine pv_iload_n (q := 2) C dX7_waitingByNumbers_1 rfl rfl rfl ?_ 
  refine pv_callVi (q := 5) C hKl (c_X7_noView l X D P _) tw_1160 k6 (by decide) rfl mm_X7_noView ⟨rfl, rfl⟩ (by rw [hKR]; exact ⟨Nat.le_of_ble_eq_true rfl, Nat.le_of_ble_eq_true rfl⟩) (by rw [hKR]; exact ⟨Nat.le_of_ble_eq_true rfl, Nat.le_of_ble_eq_true rfl⟩) rfl rfl rfl (Nat.le_of_ble_eq_true rfl) dX7_waitingByNumbers_2 rfl (fun r2 D2 P2 hp2 => ?_) 
  rcases hp2 with ⟨⟨hk2, rfl, hR2⟩ | ⟨hk2, rfl, hR2⟩, rfl⟩
  · obtain ⟨v, hv, rfl⟩ := rg_kv hk2
    refine pv_if_eq (q := 8) (tgt := 12) C dX7_waitingByNumbers_5 (by decide) rfl (fun _ => ?_) (fun h => absurd h (by decide)) 
    refine pv_aload_n (q := 13) C dX7_waitingByNumbers_12 rfl rfl rfl ?_ 
    refine pv_iload_n (q := 14) C dX7_waitingByNumbers_13 rfl rfl rfl ?_ 
    refine pv_callVi (q := 17) C hKl (c_X7_waits l X D2 P _ (by omega)) tw_1100 k6 (by decide) rfl mm_X7_waits ⟨rfl, rfl⟩ (by rw [hKR]; exact ⟨Nat.le_of_ble_eq_true rfl, Nat.le_of_ble_eq_true rfl⟩) (by rw [hKR]; exact ⟨Nat.le_of_ble_eq_true rfl, Nat.le_of_ble_eq_true rfl⟩) rfl rfl rfl (Nat.le_of_ble_eq_true rfl) dX7_waitingByNumbers_14 rfl (fun r14 D14 P14 hp14 => ?_) 
    obtain ⟨rfl, rfl, rfl⟩ := hp14
    exact pv_iret C (⟨⟨by rw [hk2]; subst_vars; rfl, fun _ => by rw [ix_n (by omega)]; subst_vars; rfl, (by subst_vars; repeat (first | exact Sx_rf _ | refine Sx.ar ?_ (by decide) | refine Sx.up ?_ (by decide)))⟩, rfl⟩) (by decide) (by decide) dX7_waitingByNumbers_17
  · refine pv_if_eq (q := 8) (tgt := 12) C dX7_waitingByNumbers_5 (by decide) rfl (fun h => absurd h (by decide)) (fun _ => ?_)
    refine pv_iconst (q := 9) (v := 0) C dX7_waitingByNumbers_8 rfl (by decide) ?_ 
    refine pv_goto (tgt := 17) C dX7_waitingByNumbers_9 (by decide) ?_ 
    exact pv_iret C (⟨⟨by rw [hR2]; rfl, fun z => absurd z hk2, (by subst_vars; repeat (first | exact Sx_rf _ | refine Sx.ar ?_ (by decide) | refine Sx.up ?_ (by decide)))⟩, rfl⟩) (by decide) (by decide) dX7_waitingByNumbers_17
set_option maxRecDepth 100000 in
set_option maxHeartbeats 4000000 in
theorem c_X7_weighty (l : Launch) (X : XT) (D : DT) (P : PT) (v : Nat) (hv : v < 3) (row : Nat → Int32) (h7 : D 7 = row) (hs : seen row v) : CG l X yX7_weighty (.code yX7_weighty cX7_weighty 4 (some .int) :: AW) ({ frames := 1, cells := 0, slots := 0, locals := 36 } : Room) [.ref (X.2.2 6), .int (nI v)] (qI X (fun r D' P' => r = nI (wgt row v) ∧ D = D' ∧ P = P')) D P 0 0 := by
  refine cg_of (by decide +kernel) (Nat.le_of_ble_eq_true rfl) ?_
  intro K hKl hKR C
  refine PV_lv (lv' := [some (.ref (X.2.2 6)), some (.int (nI v)), none, none]) rfl ?_
  obtain ⟨a, wr, h37, h178, haw, hwr⟩ := hs
  rw [← h7] at h37 h178
  refine pv_iconst (q := 1) (v := 0) C dX7_weighty_0 rfl (by decide) ?_ 
  refine pv_istore_n (q := 2) C dX7_weighty_1 rfl rfl (Nat.le_of_ble_eq_true rfl) rfl ?_ 
  refine pv_aload_n (q := 3) C dX7_weighty_2 rfl rfl rfl ?_ 
  refine pg_7_1 (q := 6) C k6 tw_996 dX7_weighty_3 rfl (fun k3 => ?_) 
  refine pv_iload_n (q := 7) C dX7_weighty_6 rfl rfl rfl ?_ 
  refine pv_callSi (q := 10) C hKl (c_X7_base l X D P v) tw_1093 mm_X7_base ⟨rfl, rfl⟩ (by rw [hKR]; exact ⟨Nat.le_of_ble_eq_true rfl, Nat.le_of_ble_eq_true rfl⟩) (by rw [hKR]; exact ⟨Nat.le_of_ble_eq_true rfl, Nat.le_of_ble_eq_true rfl⟩) rfl rfl rfl (Nat.le_of_ble_eq_true rfl) dX7_weighty_7 rfl (fun r7 D7 P7 hp7 => ?_) 
  obtain ⟨rfl, rfl, rfl⟩ := hp7
  refine pv_bipush (q := 12) (v := 37) C dX7_weighty_10 rfl (by decide) ?_ 
  refine pv_iaddN (q := 13) (a := (32 + 38 * v)) (b := 37) C rfl rfl dX7_weighty_12 rfl ?_ 
  refine pv_iald (q := 14) (j := ((32 + 38 * v) + 37)) C (iln_15 k3) rfl (by omega) dX7_weighty_13 rfl ?_ 
  rw [h37]
  refine pv_istore_n (q := 15) C dX7_weighty_14 rfl rfl (Nat.le_of_ble_eq_true rfl) rfl ?_ 
  have loop_15 : ∀ (nn : Nat) (i c : Nat), (wr - a + 1 ≤ i + nn) → i ≤ wr - a → c = ct (fun j => decide (D 7 (32 + 38 * v + 34) ≤ D 7 (146 + (a + j) % 32))) i → PV K X (MK K X (qI X (fun r D' P' => r = nI (wgt row v) ∧ D = D' ∧ P = P')) 0 0) (0) (0) 15 [some (.ref (X.2.2 6)), some (.int (nI v)), some (.int (nI c)), some (.int (nI (a + i)))] [] D P := by
    intro nn
    induction nn with
    | zero =>
      intro i c hfuel hi hc
      exact absurd hfuel (by omega)
    | succ nn ih =>
      intro i c hfuel hi hc
      refine pv_iload_n (q := 16) C dX7_weighty_15 rfl rfl rfl ?_ 
      refine pv_aload_n (q := 17) C dX7_weighty_16 rfl rfl rfl ?_ 
      refine pg_7_1 (q := 20) C k6 tw_996 dX7_weighty_17 rfl (fun k17 => ?_) 
      refine pv_sipush (q := 23) (v := 178) C dX7_weighty_20 rfl (by decide) ?_ 
      refine pv_iald (q := 24) (j := 178) C (iln_15 k17) rfl (by decide) dX7_weighty_23 rfl ?_ 
      rw [h178]
      refine pv_icmp_geN (q := 27) (tgt := 69) (a := (a + i)) (b := wr) C rfl rfl (by omega) (by omega) dX7_weighty_24 (by decide) rfl (fun c_24 => ?_) (fun c_24 => ?_) 
      · refine pv_iload_n (q := 70) C dX7_weighty_69 rfl rfl rfl ?_
        exact pv_iret C (⟨by rw [← h7]; unfold wgt; rw [h37, h178, ix_n (by omega), ix_n (by omega), hc, show i = wr - a by omega], rfl, rfl⟩) (by decide) (by decide) dX7_weighty_70
      · refine pv_iload_n (q := 28) C dX7_weighty_27 rfl rfl rfl ?_
        refine pv_aload_n (q := 29) C dX7_weighty_28 rfl rfl rfl ?_ 
        refine pg_7_1 (q := 32) C k6 tw_996 dX7_weighty_29 rfl (fun k29 => ?_) 
        refine pv_sipush (q := 35) (v := 146) C dX7_weighty_32 rfl (by decide) ?_ 
        refine pv_iload_n (q := 36) C dX7_weighty_35 rfl rfl rfl ?_ 
        refine pv_bipush (q := 38) (v := 32) C dX7_weighty_36 rfl (by decide) ?_ 
        refine pv_iremN (q := 39) (a := (a + i)) (b := 32) C rfl rfl (by omega) (by decide) (by decide) dX7_weighty_38 rfl ?_ 
        refine pv_iaddN (q := 40) (a := 146) (b := ((a + i) % 32)) C rfl rfl dX7_weighty_39 rfl ?_ 
        refine pv_iald (q := 41) (j := (146 + ((a + i) % 32))) C (iln_15 k29) rfl (by omega) dX7_weighty_40 rfl ?_ 
        refine pv_aload_n (q := 42) C dX7_weighty_41 rfl rfl rfl ?_ 
        refine pg_7_1 (q := 45) C k6 tw_996 dX7_weighty_42 rfl (fun k42 => ?_) 
        refine pv_iload_n (q := 46) C dX7_weighty_45 rfl rfl rfl ?_ 
        refine pv_callSi (q := 49) C hKl (c_X7_base l X D P v) tw_1093 mm_X7_base ⟨rfl, rfl⟩ (by rw [hKR]; exact ⟨Nat.le_of_ble_eq_true rfl, Nat.le_of_ble_eq_true rfl⟩) (by rw [hKR]; exact ⟨Nat.le_of_ble_eq_true rfl, Nat.le_of_ble_eq_true rfl⟩) rfl rfl rfl (Nat.le_of_ble_eq_true rfl) dX7_weighty_46 rfl (fun r46 D46 P46 hp46 => ?_) 
        obtain ⟨rfl, rfl, rfl⟩ := hp46
        refine pv_bipush (q := 51) (v := 34) C dX7_weighty_49 rfl (by decide) ?_ 
        refine pv_iaddN (q := 52) (a := (32 + 38 * v)) (b := 34) C rfl rfl dX7_weighty_51 rfl ?_ 
        refine pv_iald (q := 53) (j := ((32 + 38 * v) + 34)) C (iln_15 k42) rfl (by omega) dX7_weighty_52 rfl ?_ 
        refine pv_icmp_lt (q := 56) (tgt := 60) C dX7_weighty_53 (by decide) rfl (fun c_53 => ?_) (fun c_53 => ?_) 
        · refine pv_iconst (q := 61) (v := 0) C dX7_weighty_60 rfl (by decide) ?_
          refine pv_iaddN (q := 62) (a := c) (b := 0) C rfl rfl dX7_weighty_61 rfl ?_ 
          refine pv_istore_n (q := 63) C dX7_weighty_62 rfl rfl (Nat.le_of_ble_eq_true rfl) rfl ?_ 
          refine pv_iinc (q := 66) (v := nI ((a + i) + 1)) C dX7_weighty_63 rfl rfl (nI_add _ _) rfl ?_ 
          refine pv_goto (tgt := 15) C dX7_weighty_66 (by decide) ?_ 
          exact ih (i + 1) (c + 0) (by omega) (by omega) (by rw [ct_s, if_neg (by simpa using c_53), hc])
        · refine pv_iconst (q := 57) (v := 1) C dX7_weighty_56 rfl (by decide) ?_
          refine pv_goto (tgt := 61) C dX7_weighty_57 (by decide) ?_ 
          refine pv_iaddN (q := 62) (a := c) (b := 1) C rfl rfl dX7_weighty_61 rfl ?_ 
          refine pv_istore_n (q := 63) C dX7_weighty_62 rfl rfl (Nat.le_of_ble_eq_true rfl) rfl ?_ 
          refine pv_iinc (q := 66) (v := nI ((a + i) + 1)) C dX7_weighty_63 rfl rfl (nI_add _ _) rfl ?_ 
          refine pv_goto (tgt := 15) C dX7_weighty_66 (by decide) ?_ 
          exact ih (i + 1) (c + 1) (by omega) (by omega) (by rw [ct_s, if_pos (by simpa using c_53), hc])
  exact loop_15 (wr - a + 1) 0 0 (by omega) (by omega) rfl
set_option maxRecDepth 100000 in
set_option maxHeartbeats 4000000 in
theorem c_X7_matters (l : Launch) (X : XT) (D : DT) (P : PT) (view : Int32) (hse : ∀ v, v < 3 → seen (D 7) v) : CG l X yX7_matters (.code yX7_matters cX7_matters 2 (some .int) :: AW) ({ frames := 3, cells := 0, slots := 0, locals := 108 } : Room) [.ref (X.2.2 6), .int view] (qI X (fun r D' P' => rd (kView view) (nI (wgt (D 7) (ix view))) D r D' ∧ P = P')) D P 0 0 := by
  refine cg_of (by decide +kernel) (Nat.le_of_ble_eq_true rfl) ?_
  intro K hKl hKR C
  refine PV_lv (lv' := [some (.ref (X.2.2 6)), some (.int view)]) rfl ?_
  refine pv_aload_n (q := 1) C dX7_matters_0 rfl rfl rfl ?_ 
  refine pv_iload_n (q := 2) C dX7_matters_1 rfl rfl rfl ?_ 
  refine pv_callVi (q := 5) C hKl (c_X7_noView l X D P _) tw_1160 k6 (by decide) rfl mm_X7_noView ⟨rfl, rfl⟩ (by rw [hKR]; exact ⟨Nat.le_of_ble_eq_true rfl, Nat.le_of_ble_eq_true rfl⟩) (by rw [hKR]; exact ⟨Nat.le_of_ble_eq_true rfl, Nat.le_of_ble_eq_true rfl⟩) rfl rfl rfl (Nat.le_of_ble_eq_true rfl) dX7_matters_2 rfl (fun r2 D2 P2 hp2 => ?_) 
  rcases hp2 with ⟨⟨hk2, rfl, hR2⟩ | ⟨hk2, rfl, hR2⟩, rfl⟩
  · obtain ⟨v, hv, rfl⟩ := rg_kv hk2
    refine pv_if_eq (q := 8) (tgt := 12) C dX7_matters_5 (by decide) rfl (fun _ => ?_) (fun h => absurd h (by decide)) 
    refine pv_aload_n (q := 13) C dX7_matters_12 rfl rfl rfl ?_ 
    refine pv_iload_n (q := 14) C dX7_matters_13 rfl rfl rfl ?_ 
    refine pv_callVi (q := 17) C hKl (c_X7_weighty l X D2 P _ (by omega) (D 7) (by subst_vars; rfl) (hse _ (by omega))) tw_1328 k6 (by decide) rfl mm_X7_weighty ⟨rfl, rfl⟩ (by rw [hKR]; exact ⟨Nat.le_of_ble_eq_true rfl, Nat.le_of_ble_eq_true rfl⟩) (by rw [hKR]; exact ⟨Nat.le_of_ble_eq_true rfl, Nat.le_of_ble_eq_true rfl⟩) rfl rfl rfl (Nat.le_of_ble_eq_true rfl) dX7_matters_14 rfl (fun r14 D14 P14 hp14 => ?_) 
    obtain ⟨rfl, rfl, rfl⟩ := hp14
    exact pv_iret C (⟨⟨by rw [hk2]; subst_vars; rfl, fun _ => by rw [ix_n (by omega)], (by subst_vars; repeat (first | exact Sx_rf _ | refine Sx.ar ?_ (by decide) | refine Sx.up ?_ (by decide)))⟩, rfl⟩) (by decide) (by decide) dX7_matters_17
  · refine pv_if_eq (q := 8) (tgt := 12) C dX7_matters_5 (by decide) rfl (fun h => absurd h (by decide)) (fun _ => ?_)
    refine pv_iconst (q := 9) (v := 0) C dX7_matters_8 rfl (by decide) ?_ 
    refine pv_goto (tgt := 17) C dX7_matters_9 (by decide) ?_ 
    exact pv_iret C (⟨⟨by rw [hR2]; rfl, fun z => absurd z hk2, (by subst_vars; repeat (first | exact Sx_rf _ | refine Sx.ar ?_ (by decide) | refine Sx.up ?_ (by decide)))⟩, rfl⟩) (by decide) (by decide) dX7_matters_17
set_option maxRecDepth 100000 in
set_option maxHeartbeats 4000000 in
theorem c_X7_logged (l : Launch) (X : XT) (D : DT) (P : PT)  : CG l X yX7_logged (.code yX7_logged cX7_logged 3 (some .int) :: AW) ({ frames := 2, cells := 0, slots := 0, locals := 72 } : Room) [.ref (X.2.2 6)] (qI X (fun r D' P' => r = lgd (D 7) 3 ∧ D = D' ∧ P = P')) D P 0 0 := by
  refine cg_of (by decide +kernel) (Nat.le_of_ble_eq_true rfl) ?_
  intro K hKl hKR C
  refine PV_lv (lv' := [some (.ref (X.2.2 6)), none, none]) rfl ?_
  refine pv_iconst (q := 1) (v := 0) C dX7_logged_0 rfl (by decide) ?_ 
  refine pv_istore_n (q := 2) C dX7_logged_1 rfl rfl (Nat.le_of_ble_eq_true rfl) rfl ?_ 
  refine pv_iconst (q := 3) (v := 0) C dX7_logged_2 rfl (by decide) ?_ 
  refine pv_istore_n (q := 4) C dX7_logged_3 rfl rfl (Nat.le_of_ble_eq_true rfl) rfl ?_ 
  have loop_4 : ∀ (nn : Nat) (v : Nat) (x : Int32), (4 ≤ v + nn) → v ≤ 3 → x = lgd (D 7) v → PV K X (MK K X (qI X (fun r D' P' => r = lgd (D 7) 3 ∧ D = D' ∧ P = P')) 0 0) (0) (0) 4 [some (.ref (X.2.2 6)), some (.int x), some (.int (nI v))] [] D P := by
    intro nn
    induction nn with
    | zero =>
      intro v x hfuel hv3 hx
      exact absurd hfuel (by omega)
    | succ nn ih =>
      intro v x hfuel hv3 hx
      refine pv_iload_n (q := 5) C dX7_logged_4 rfl rfl rfl ?_ 
      refine pv_iconst (q := 6) (v := 3) C dX7_logged_5 rfl (by decide) ?_ 
      refine pv_icmp_geN (q := 9) (tgt := 34) (a := v) (b := 3) C rfl rfl (by omega) (by omega) dX7_logged_6 (by decide) rfl (fun c_6 => ?_) (fun c_6 => ?_) 
      · refine pv_iload_n (q := 35) C dX7_logged_34 rfl rfl rfl ?_
        exact pv_iret C (⟨by rw [hx, show v = 3 by omega], rfl, rfl⟩) (by decide) (by decide) dX7_logged_35
      · refine pv_aload_n (q := 10) C dX7_logged_9 rfl rfl rfl ?_
        refine pv_iload_n (q := 11) C dX7_logged_10 rfl rfl rfl ?_ 
        refine pv_callVi (q := 14) C hKl (c_X7_waits l X D P _ (by omega)) tw_1100 k6 (by decide) rfl mm_X7_waits ⟨rfl, rfl⟩ (by rw [hKR]; exact ⟨Nat.le_of_ble_eq_true rfl, Nat.le_of_ble_eq_true rfl⟩) (by rw [hKR]; exact ⟨Nat.le_of_ble_eq_true rfl, Nat.le_of_ble_eq_true rfl⟩) rfl rfl rfl (Nat.le_of_ble_eq_true rfl) dX7_logged_11 rfl (fun r11 D11 P11 hp11 => ?_) 
        obtain ⟨rfl, rfl, rfl⟩ := hp11
        refine pv_iload_n (q := 15) C dX7_logged_14 rfl rfl rfl ?_ 
        refine pv_icmp_le (q := 18) (tgt := 26) C dX7_logged_15 (by decide) rfl (fun c_15 => ?_) (fun c_15 => ?_) 
        · refine pv_iload_n (q := 27) C dX7_logged_26 rfl rfl rfl ?_
          refine pv_istore_n (q := 28) C dX7_logged_27 rfl rfl (Nat.le_of_ble_eq_true rfl) rfl ?_ 
          refine pv_iinc (q := 31) (v := nI (v + 1)) C dX7_logged_28 rfl rfl (nI_add _ _) rfl ?_ 
          refine pv_goto (tgt := 4) C dX7_logged_31 (by decide) ?_ 
          exact ih (v + 1) x (by omega) (by omega) (by show x = imx (lgd (D 7) v) (wt (D 7) v); unfold imx; rw [← hx, if_neg (Int32.not_lt.mpr c_15)])
        · refine pv_aload_n (q := 19) C dX7_logged_18 rfl rfl rfl ?_
          refine pv_iload_n (q := 20) C dX7_logged_19 rfl rfl rfl ?_ 
          refine pv_callVi (q := 23) C hKl (c_X7_waits l X D P _ (by omega)) tw_1100 k6 (by decide) rfl mm_X7_waits ⟨rfl, rfl⟩ (by rw [hKR]; exact ⟨Nat.le_of_ble_eq_true rfl, Nat.le_of_ble_eq_true rfl⟩) (by rw [hKR]; exact ⟨Nat.le_of_ble_eq_true rfl, Nat.le_of_ble_eq_true rfl⟩) rfl rfl rfl (Nat.le_of_ble_eq_true rfl) dX7_logged_20 rfl (fun r20 D20 P20 hp20 => ?_) 
          obtain ⟨rfl, rfl, rfl⟩ := hp20
          refine pv_goto (tgt := 27) C dX7_logged_23 (by decide) ?_ 
          refine pv_istore_n (q := 28) C dX7_logged_27 rfl rfl (Nat.le_of_ble_eq_true rfl) rfl ?_ 
          refine pv_iinc (q := 31) (v := nI (v + 1)) C dX7_logged_28 rfl rfl (nI_add _ _) rfl ?_ 
          refine pv_goto (tgt := 4) C dX7_logged_31 (by decide) ?_ 
          exact ih (v + 1) (wt (D 7) v) (by omega) (by omega) (by show _ = imx (lgd (D 7) v) (wt (D 7) v); unfold imx; rw [← hx, if_pos (Int32.not_le.mp c_15)])
  exact loop_4 4 0 0 (by omega) (by omega) rfl
set_option maxRecDepth 100000 in
set_option maxHeartbeats 4000000 in
theorem c_X7_logLength (l : Launch) (X : XT) (D : DT) (P : PT)  : CG l X yX7_logLength (.code yX7_logLength cX7_logLength 1 (some .int) :: AW) ({ frames := 3, cells := 0, slots := 0, locals := 108 } : Room) [.ref (X.2.2 6)] (qI X (fun r D' P' => rd (0) (lgd (D 7) 3) D r D' ∧ P = P')) D P 0 0 := by
  refine cg_of (by decide +kernel) (Nat.le_of_ble_eq_true rfl) ?_
  intro K hKl hKR C
  refine PV_lv (lv' := [some (.ref (X.2.2 6))]) rfl ?_
  refine pv_aload_n (q := 1) C dX7_logLength_0 rfl rfl rfl ?_ 
  refine pv_iconst (q := 2) (v := 0) C dX7_logLength_1 rfl (by decide) ?_ 
  refine pp_7_0 (q := 5) C k6 tw_995 dX7_logLength_2 rfl (fun D2 hD2 => ?_) 
  refine pv_aload_n (q := 6) C dX7_logLength_5 rfl rfl rfl ?_ 
  refine pv_callVi (q := 9) C hKl (c_X7_logged l X D2 P ) tw_1348 k6 (by decide) rfl mm_X7_logged ⟨rfl, rfl⟩ (by rw [hKR]; exact ⟨Nat.le_of_ble_eq_true rfl, Nat.le_of_ble_eq_true rfl⟩) (by rw [hKR]; exact ⟨Nat.le_of_ble_eq_true rfl, Nat.le_of_ble_eq_true rfl⟩) rfl rfl rfl (Nat.le_of_ble_eq_true rfl) dX7_logLength_6 rfl (fun r6 D6 P6 hp6 => ?_) 
  obtain ⟨rfl, rfl, rfl⟩ := hp6
  exact pv_iret C (⟨⟨by rw [hD2]; rfl, fun _ => by rw [hD2]; rfl, (by subst_vars; repeat (first | exact Sx_rf _ | refine Sx.ar ?_ (by decide) | refine Sx.up ?_ (by decide)))⟩, rfl⟩) (by decide) (by decide) dX7_logLength_9
set_option maxRecDepth 100000 in
set_option maxHeartbeats 4000000 in
theorem c_X7_noGroup (l : Launch) (X : XT) (D : DT) (P : PT) (view group : Int32) : CG l X yX7_noGroup (.code yX7_noGroup cX7_noGroup 3 (some .boolean) :: AW) ({ frames := 2, cells := 0, slots := 0, locals := 72 } : Room) [.ref (X.2.2 6), .int view, .int group] (qI X (fun r D' P' => ((kGr view group = 0 ∧ r = 0 ∧ D' = up2 D 6 0 0) ∨ (¬ kGr view group = 0 ∧ r = 1 ∧ D' = up2 D 6 0 (kGr view group))) ∧ P = P')) D P 0 0 := by
  refine cg_of (by decide +kernel) (Nat.le_of_ble_eq_true rfl) ?_
  intro K hKl hKR C
  refine PV_lv (lv' := [some (.ref (X.2.2 6)), some (.int view), some (.int group)]) rfl ?_
  refine pv_aload_n (q := 1) C dX7_noGroup_0 rfl rfl rfl ?_ 
  refine pv_iload_n (q := 2) C dX7_noGroup_1 rfl rfl rfl ?_ 
  refine pv_callSi (q := 5) C hKl (c_X7_isView l X D P _) tw_1144 mm_X7_isView ⟨rfl, rfl⟩ (by rw [hKR]; exact ⟨Nat.le_of_ble_eq_true rfl, Nat.le_of_ble_eq_true rfl⟩) (by rw [hKR]; exact ⟨Nat.le_of_ble_eq_true rfl, Nat.le_of_ble_eq_true rfl⟩) rfl rfl rfl (Nat.le_of_ble_eq_true rfl) dX7_noGroup_2 rfl (fun r2 D2 P2 hp2 => ?_) 
  rcases hp2 with ⟨⟨hy2, rfl⟩ | ⟨hn2, rfl⟩, rfl, rfl⟩
  · refine pv_if_eq (q := 8) (tgt := 19) C dX7_noGroup_5 (by decide) rfl (fun h => absurd h (by decide)) (fun _ => ?_)
    refine pv_iload_n (q := 9) C dX7_noGroup_8 rfl rfl rfl ?_ 
    refine pv_callSi (q := 12) C hKl (c_X7_isGroup l X D P _) tw_1056 mm_X7_isGroup ⟨rfl, rfl⟩ (by rw [hKR]; exact ⟨Nat.le_of_ble_eq_true rfl, Nat.le_of_ble_eq_true rfl⟩) (by rw [hKR]; exact ⟨Nat.le_of_ble_eq_true rfl, Nat.le_of_ble_eq_true rfl⟩) rfl rfl rfl (Nat.le_of_ble_eq_true rfl) dX7_noGroup_9 rfl (fun r9 D9 P9 hp9 => ?_) 
    rcases hp9 with ⟨⟨hy9, rfl⟩ | ⟨hn9, rfl⟩, rfl, rfl⟩
    · refine pv_if_eq (q := 15) (tgt := 19) C dX7_noGroup_12 (by decide) rfl (fun h => absurd h (by decide)) (fun _ => ?_)
      refine pv_iconst (q := 16) (v := 0) C dX7_noGroup_15 rfl (by decide) ?_ 
      refine pv_goto (tgt := 20) C dX7_noGroup_16 (by decide) ?_ 
      refine pv_callVi (q := 23) C hKl (c_X7_refused0 l X D P ) tw_1069 k6 (by decide) rfl mm_X7_refused ⟨rfl, rfl⟩ (by rw [hKR]; exact ⟨Nat.le_of_ble_eq_true rfl, Nat.le_of_ble_eq_true rfl⟩) (by rw [hKR]; exact ⟨Nat.le_of_ble_eq_true rfl, Nat.le_of_ble_eq_true rfl⟩) rfl rfl rfl (Nat.le_of_ble_eq_true rfl) dX7_noGroup_20 rfl (fun r20 D20 P20 hp20 => ?_) 
      obtain ⟨rfl, hR20, rfl⟩ := hp20
      exact pv_zret C (Or.inl rfl) (⟨Or.inl ⟨(by unfold kGr; rw [if_pos ⟨hy2, hy9⟩]), rfl, hR20⟩, rfl⟩) (by decide) (by decide) dX7_noGroup_23
    · refine pv_if_eq (q := 15) (tgt := 19) C dX7_noGroup_12 (by decide) rfl (fun _ => ?_) (fun h => absurd h (by decide))
      refine pv_iconst (q := 20) (v := 1) C dX7_noGroup_19 rfl (by decide) ?_ 
      refine pv_callVi (q := 23) C hKl (c_X7_refused l X D P _ (by decide)) tw_1069 k6 (by decide) rfl mm_X7_refused ⟨rfl, rfl⟩ (by rw [hKR]; exact ⟨Nat.le_of_ble_eq_true rfl, Nat.le_of_ble_eq_true rfl⟩) (by rw [hKR]; exact ⟨Nat.le_of_ble_eq_true rfl, Nat.le_of_ble_eq_true rfl⟩) rfl rfl rfl (Nat.le_of_ble_eq_true rfl) dX7_noGroup_20 rfl (fun r20 D20 P20 hp20 => ?_) 
      obtain ⟨rfl, hR20, rfl⟩ := hp20
      exact pv_zret C (Or.inr rfl) (⟨Or.inr ⟨(by unfold kGr; rw [if_neg (fun z => hn9 z.2)]; decide), rfl, (by unfold kGr; rw [if_neg (fun z => hn9 z.2)]; exact hR20)⟩, rfl⟩) (by decide) (by decide) dX7_noGroup_23
  · refine pv_if_eq (q := 8) (tgt := 19) C dX7_noGroup_5 (by decide) rfl (fun _ => ?_) (fun h => absurd h (by decide))
    refine pv_iconst (q := 20) (v := 1) C dX7_noGroup_19 rfl (by decide) ?_ 
    refine pv_callVi (q := 23) C hKl (c_X7_refused l X D P _ (by decide)) tw_1069 k6 (by decide) rfl mm_X7_refused ⟨rfl, rfl⟩ (by rw [hKR]; exact ⟨Nat.le_of_ble_eq_true rfl, Nat.le_of_ble_eq_true rfl⟩) (by rw [hKR]; exact ⟨Nat.le_of_ble_eq_true rfl, Nat.le_of_ble_eq_true rfl⟩) rfl rfl rfl (Nat.le_of_ble_eq_true rfl) dX7_noGroup_20 rfl (fun r20 D20 P20 hp20 => ?_) 
    obtain ⟨rfl, hR20, rfl⟩ := hp20
    exact pv_zret C (Or.inr rfl) (⟨Or.inr ⟨(by unfold kGr; rw [if_neg (fun z => hn2 z.1)]; decide), rfl, (by unfold kGr; rw [if_neg (fun z => hn2 z.1)]; exact hR20)⟩, rfl⟩) (by decide) (by decide) dX7_noGroup_23
set_option maxRecDepth 100000 in
set_option maxHeartbeats 4000000 in
theorem c_X7_countOf (l : Launch) (X : XT) (D : DT) (P : PT) (view group : Int32) : CG l X yX7_countOf (.code yX7_countOf cX7_countOf 3 (some .int) :: AW) ({ frames := 3, cells := 0, slots := 0, locals := 108 } : Room) [.ref (X.2.2 6), .int view, .int group] (qI X (fun r D' P' => rd (kGr view group) (nI (VN (D 7) (ix view) (ix group))) D r D' ∧ P = P')) D P 0 0 := by
  refine cg_of (by decide +kernel) (Nat.le_of_ble_eq_true rfl) ?_
  intro K hKl hKR C
  refine PV_lv (lv' := [some (.ref (X.2.2 6)), some (.int view), some (.int group)]) rfl ?_
  refine pv_aload_n (q := 1) C dX7_countOf_0 rfl rfl rfl ?_ 
  refine pv_iload_n (q := 2) C dX7_countOf_1 rfl rfl rfl ?_ 
  refine pv_iload_n (q := 3) C dX7_countOf_2 rfl rfl rfl ?_ 
  refine pv_callVi (q := 6) C hKl (c_X7_noGroup l X D P _ _) tw_1356 k6 (by decide) rfl mm_X7_noGroup ⟨rfl, rfl⟩ (by rw [hKR]; exact ⟨Nat.le_of_ble_eq_true rfl, Nat.le_of_ble_eq_true rfl⟩) (by rw [hKR]; exact ⟨Nat.le_of_ble_eq_true rfl, Nat.le_of_ble_eq_true rfl⟩) rfl rfl rfl (Nat.le_of_ble_eq_true rfl) dX7_countOf_3 rfl (fun r3 D3 P3 hp3 => ?_) 
  rcases hp3 with ⟨⟨hk3, rfl, hR3⟩ | ⟨hk3, rfl, hR3⟩, rfl⟩
  · obtain ⟨v, g, hv, hg, rfl, rfl⟩ := rg_gr hk3
    refine pv_if_eq (q := 9) (tgt := 13) C dX7_countOf_6 (by decide) rfl (fun _ => ?_) (fun h => absurd h (by decide)) 
    refine pv_aload_n (q := 14) C dX7_countOf_13 rfl rfl rfl ?_ 
    refine pv_iload_n (q := 15) C dX7_countOf_14 rfl rfl rfl ?_ 
    refine pv_iload_n (q := 16) C dX7_countOf_15 rfl rfl rfl ?_ 
    refine pv_callVi (q := 19) C hKl (c_X7_layView l X D3 P _ _ (by omega) (by omega) (D 7) (by subst_vars; rfl)) tw_1360 k6 (by decide) rfl mm_X7_layView ⟨rfl, rfl⟩ (by rw [hKR]; exact ⟨Nat.le_of_ble_eq_true rfl, Nat.le_of_ble_eq_true rfl⟩) (by rw [hKR]; exact ⟨Nat.le_of_ble_eq_true rfl, Nat.le_of_ble_eq_true rfl⟩) rfl rfl rfl (Nat.le_of_ble_eq_true rfl) dX7_countOf_16 rfl (fun r16 D16 P16 hp16 => ?_) 
    obtain ⟨rfl, ⟨f16, hR16, hf16⟩, rfl⟩ := hp16
    have hle := VN_le (D 7) v g
    exact pv_iret C (⟨⟨by rw [hk3]; subst_vars; rfl, fun _ => by rw [ix_n (by omega), ix_n (by omega)], (by subst_vars; repeat (first | exact Sx_rf _ | refine Sx.ar ?_ (by decide) | refine Sx.up ?_ (by decide)))⟩, rfl⟩) (by decide) (by decide) dX7_countOf_19
  · refine pv_if_eq (q := 9) (tgt := 13) C dX7_countOf_6 (by decide) rfl (fun h => absurd h (by decide)) (fun _ => ?_)
    refine pv_iconst (q := 10) (v := 0) C dX7_countOf_9 rfl (by decide) ?_ 
    refine pv_goto (tgt := 19) C dX7_countOf_10 (by decide) ?_ 
    exact pv_iret C (⟨⟨by rw [hR3]; rfl, fun z => absurd z hk3, (by subst_vars; repeat (first | exact Sx_rf _ | refine Sx.ar ?_ (by decide) | refine Sx.up ?_ (by decide)))⟩, rfl⟩) (by decide) (by decide) dX7_countOf_19
set_option maxRecDepth 100000 in
set_option maxHeartbeats 4000000 in
theorem c_X7_sumOf (l : Launch) (X : XT) (D : DT) (P : PT) (view group : Int32) : CG l X yX7_sumOf (.code yX7_sumOf cX7_sumOf 3 (some .int) :: AW) ({ frames := 3, cells := 0, slots := 0, locals := 108 } : Room) [.ref (X.2.2 6), .int view, .int group] (qI X (fun r D' P' => rd (kGr view group) (sm (VF (D 7) (ix view) (ix group)) (VN (D 7) (ix view) (ix group))) D r D' ∧ P = P')) D P 0 0 := by
  refine cg_of (by decide +kernel) (Nat.le_of_ble_eq_true rfl) ?_
  intro K hKl hKR C
  refine PV_lv (lv' := [some (.ref (X.2.2 6)), some (.int view), some (.int group)]) rfl ?_
  refine pv_aload_n (q := 1) C dX7_sumOf_0 rfl rfl rfl ?_ 
  refine pv_iload_n (q := 2) C dX7_sumOf_1 rfl rfl rfl ?_ 
  refine pv_iload_n (q := 3) C dX7_sumOf_2 rfl rfl rfl ?_ 
  refine pv_callVi (q := 6) C hKl (c_X7_noGroup l X D P _ _) tw_1356 k6 (by decide) rfl mm_X7_noGroup ⟨rfl, rfl⟩ (by rw [hKR]; exact ⟨Nat.le_of_ble_eq_true rfl, Nat.le_of_ble_eq_true rfl⟩) (by rw [hKR]; exact ⟨Nat.le_of_ble_eq_true rfl, Nat.le_of_ble_eq_true rfl⟩) rfl rfl rfl (Nat.le_of_ble_eq_true rfl) dX7_sumOf_3 rfl (fun r3 D3 P3 hp3 => ?_) 
  rcases hp3 with ⟨⟨hk3, rfl, hR3⟩ | ⟨hk3, rfl, hR3⟩, rfl⟩
  · obtain ⟨v, g, hv, hg, rfl, rfl⟩ := rg_gr hk3
    refine pv_if_eq (q := 9) (tgt := 13) C dX7_sumOf_6 (by decide) rfl (fun _ => ?_) (fun h => absurd h (by decide)) 
    refine pv_aload_n (q := 14) C dX7_sumOf_13 rfl rfl rfl ?_ 
    refine pg_7_6 (q := 17) C k6 tw_1001 dX7_sumOf_14 rfl (fun k14 => ?_) 
    refine pv_aload_n (q := 18) C dX7_sumOf_17 rfl rfl rfl ?_ 
    refine pv_iload_n (q := 19) C dX7_sumOf_18 rfl rfl rfl ?_ 
    refine pv_iload_n (q := 20) C dX7_sumOf_19 rfl rfl rfl ?_ 
    refine pv_callVi (q := 23) C hKl (c_X7_layView l X D3 P _ _ (by omega) (by omega) (D 7) (by subst_vars; rfl)) tw_1360 k6 (by decide) rfl mm_X7_layView ⟨rfl, rfl⟩ (by rw [hKR]; exact ⟨Nat.le_of_ble_eq_true rfl, Nat.le_of_ble_eq_true rfl⟩) (by rw [hKR]; exact ⟨Nat.le_of_ble_eq_true rfl, Nat.le_of_ble_eq_true rfl⟩) rfl rfl rfl (Nat.le_of_ble_eq_true rfl) dX7_sumOf_20 rfl (fun r20 D20 P20 hp20 => ?_) 
    obtain ⟨rfl, ⟨f20, hR20, hf20⟩, rfl⟩ := hp20
    have hle := VN_le (D 7) v g
    refine pv_callSi (q := 26) C hKl (c_X7_total l X D20 P _ _ k14 (by first | omega | exact vN_le _ _ _ _)) tw_1372 mm_X7_total ⟨rfl, rfl⟩ (by rw [hKR]; exact ⟨Nat.le_of_ble_eq_true rfl, Nat.le_of_ble_eq_true rfl⟩) (by rw [hKR]; exact ⟨Nat.le_of_ble_eq_true rfl, Nat.le_of_ble_eq_true rfl⟩) rfl rfl rfl (Nat.le_of_ble_eq_true rfl) dX7_sumOf_23 rfl (fun r23 D23 P23 hp23 => ?_) 
    obtain ⟨rfl, rfl, rfl⟩ := hp23
    exact pv_iret C (⟨⟨by rw [hk3]; subst_vars; rfl, fun _ => by rw [ix_n (by omega), ix_n (by omega)]; rw [hR20, va_up_self]; exact sm_cong hf20, (by subst_vars; repeat (first | exact Sx_rf _ | refine Sx.ar ?_ (by decide) | refine Sx.up ?_ (by decide)))⟩, rfl⟩) (by decide) (by decide) dX7_sumOf_26
  · refine pv_if_eq (q := 9) (tgt := 13) C dX7_sumOf_6 (by decide) rfl (fun h => absurd h (by decide)) (fun _ => ?_)
    refine pv_iconst (q := 10) (v := 0) C dX7_sumOf_9 rfl (by decide) ?_ 
    refine pv_goto (tgt := 26) C dX7_sumOf_10 (by decide) ?_ 
    exact pv_iret C (⟨⟨by rw [hR3]; rfl, fun z => absurd z hk3, (by subst_vars; repeat (first | exact Sx_rf _ | refine Sx.ar ?_ (by decide) | refine Sx.up ?_ (by decide)))⟩, rfl⟩) (by decide) (by decide) dX7_sumOf_26
set_option maxRecDepth 100000 in
set_option maxHeartbeats 4000000 in
theorem c_X7_unlikeOf (l : Launch) (X : XT) (D : DT) (P : PT) (view group : Int32) : CG l X yX7_unlikeOf (.code yX7_unlikeOf cX7_unlikeOf 3 (some .int) :: AW) ({ frames := 3, cells := 0, slots := 0, locals := 108 } : Room) [.ref (X.2.2 6), .int view, .int group] (qI X (fun r D' P' => rd (kGr view group) (nI (kn (VF (D 7) (ix view) (ix group)) (VN (D 7) (ix view) (ix group)))) D r D' ∧ P = P')) D P 0 0 := by
  refine cg_of (by decide +kernel) (Nat.le_of_ble_eq_true rfl) ?_
  intro K hKl hKR C
  refine PV_lv (lv' := [some (.ref (X.2.2 6)), some (.int view), some (.int group)]) rfl ?_
  refine pv_aload_n (q := 1) C dX7_unlikeOf_0 rfl rfl rfl ?_ 
  refine pv_iload_n (q := 2) C dX7_unlikeOf_1 rfl rfl rfl ?_ 
  refine pv_iload_n (q := 3) C dX7_unlikeOf_2 rfl rfl rfl ?_ 
  refine pv_callVi (q := 6) C hKl (c_X7_noGroup l X D P _ _) tw_1356 k6 (by decide) rfl mm_X7_noGroup ⟨rfl, rfl⟩ (by rw [hKR]; exact ⟨Nat.le_of_ble_eq_true rfl, Nat.le_of_ble_eq_true rfl⟩) (by rw [hKR]; exact ⟨Nat.le_of_ble_eq_true rfl, Nat.le_of_ble_eq_true rfl⟩) rfl rfl rfl (Nat.le_of_ble_eq_true rfl) dX7_unlikeOf_3 rfl (fun r3 D3 P3 hp3 => ?_) 
  rcases hp3 with ⟨⟨hk3, rfl, hR3⟩ | ⟨hk3, rfl, hR3⟩, rfl⟩
  · obtain ⟨v, g, hv, hg, rfl, rfl⟩ := rg_gr hk3
    refine pv_if_eq (q := 9) (tgt := 13) C dX7_unlikeOf_6 (by decide) rfl (fun _ => ?_) (fun h => absurd h (by decide)) 
    refine pv_aload_n (q := 14) C dX7_unlikeOf_13 rfl rfl rfl ?_ 
    refine pg_7_6 (q := 17) C k6 tw_1001 dX7_unlikeOf_14 rfl (fun k14 => ?_) 
    refine pv_aload_n (q := 18) C dX7_unlikeOf_17 rfl rfl rfl ?_ 
    refine pv_iload_n (q := 19) C dX7_unlikeOf_18 rfl rfl rfl ?_ 
    refine pv_iload_n (q := 20) C dX7_unlikeOf_19 rfl rfl rfl ?_ 
    refine pv_callVi (q := 23) C hKl (c_X7_layView l X D3 P _ _ (by omega) (by omega) (D 7) (by subst_vars; rfl)) tw_1360 k6 (by decide) rfl mm_X7_layView ⟨rfl, rfl⟩ (by rw [hKR]; exact ⟨Nat.le_of_ble_eq_true rfl, Nat.le_of_ble_eq_true rfl⟩) (by rw [hKR]; exact ⟨Nat.le_of_ble_eq_true rfl, Nat.le_of_ble_eq_true rfl⟩) rfl rfl rfl (Nat.le_of_ble_eq_true rfl) dX7_unlikeOf_20 rfl (fun r20 D20 P20 hp20 => ?_) 
    obtain ⟨rfl, ⟨f20, hR20, hf20⟩, rfl⟩ := hp20
    have hle := VN_le (D 7) v g
    refine pv_callSi (q := 26) C hKl (c_X7_kinds l X D20 P _ _ k14 (by first | omega | exact vN_le _ _ _ _)) tw_1402 mm_X7_kinds ⟨rfl, rfl⟩ (by rw [hKR]; exact ⟨Nat.le_of_ble_eq_true rfl, Nat.le_of_ble_eq_true rfl⟩) (by rw [hKR]; exact ⟨Nat.le_of_ble_eq_true rfl, Nat.le_of_ble_eq_true rfl⟩) rfl rfl rfl (Nat.le_of_ble_eq_true rfl) dX7_unlikeOf_23 rfl (fun r23 D23 P23 hp23 => ?_) 
    obtain ⟨rfl, rfl, rfl⟩ := hp23
    exact pv_iret C (⟨⟨by rw [hk3]; subst_vars; rfl, fun _ => by rw [ix_n (by omega), ix_n (by omega)]; rw [hR20, va_up_self]; exact congrArg nI (kn_cong hf20), (by subst_vars; repeat (first | exact Sx_rf _ | refine Sx.ar ?_ (by decide) | refine Sx.up ?_ (by decide)))⟩, rfl⟩) (by decide) (by decide) dX7_unlikeOf_26
  · refine pv_if_eq (q := 9) (tgt := 13) C dX7_unlikeOf_6 (by decide) rfl (fun h => absurd h (by decide)) (fun _ => ?_)
    refine pv_iconst (q := 10) (v := 0) C dX7_unlikeOf_9 rfl (by decide) ?_ 
    refine pv_goto (tgt := 26) C dX7_unlikeOf_10 (by decide) ?_ 
    exact pv_iret C (⟨⟨by rw [hR3]; rfl, fun z => absurd z hk3, (by subst_vars; repeat (first | exact Sx_rf _ | refine Sx.ar ?_ (by decide) | refine Sx.up ?_ (by decide)))⟩, rfl⟩) (by decide) (by decide) dX7_unlikeOf_26
set_option maxRecDepth 100000 in
set_option maxHeartbeats 4000000 in
theorem c_X7_countInTable (l : Launch) (X : XT) (D : DT) (P : PT) (view group : Int32) : CG l X yX7_countInTable (.code yX7_countInTable cX7_countInTable 3 (some .int) :: AW) ({ frames := 3, cells := 0, slots := 0, locals := 108 } : Room) [.ref (X.2.2 6), .int view, .int group] (qI X (fun r D' P' => rd (kGr view group) (nI (TN (D 7) (ix view) (ix group))) D r D' ∧ P = P')) D P 0 0 := by
  refine cg_of (by decide +kernel) (Nat.le_of_ble_eq_true rfl) ?_
  intro K hKl hKR C
  refine PV_lv (lv' := [some (.ref (X.2.2 6)), some (.int view), some (.int group)]) rfl ?_
  refine pv_aload_n (q := 1) C dX7_countInTable_0 rfl rfl rfl ?_ 
  refine pv_iload_n (q := 2) C dX7_countInTable_1 rfl rfl rfl ?_ 
  refine pv_iload_n (q := 3) C dX7_countInTable_2 rfl rfl rfl ?_ 
  refine pv_callVi (q := 6) C hKl (c_X7_noGroup l X D P _ _) tw_1356 k6 (by decide) rfl mm_X7_noGroup ⟨rfl, rfl⟩ (by rw [hKR]; exact ⟨Nat.le_of_ble_eq_true rfl, Nat.le_of_ble_eq_true rfl⟩) (by rw [hKR]; exact ⟨Nat.le_of_ble_eq_true rfl, Nat.le_of_ble_eq_true rfl⟩) rfl rfl rfl (Nat.le_of_ble_eq_true rfl) dX7_countInTable_3 rfl (fun r3 D3 P3 hp3 => ?_) 
  rcases hp3 with ⟨⟨hk3, rfl, hR3⟩ | ⟨hk3, rfl, hR3⟩, rfl⟩
  · obtain ⟨v, g, hv, hg, rfl, rfl⟩ := rg_gr hk3
    refine pv_if_eq (q := 9) (tgt := 13) C dX7_countInTable_6 (by decide) rfl (fun _ => ?_) (fun h => absurd h (by decide)) 
    refine pv_aload_n (q := 14) C dX7_countInTable_13 rfl rfl rfl ?_ 
    refine pv_iload_n (q := 15) C dX7_countInTable_14 rfl rfl rfl ?_ 
    refine pv_iload_n (q := 16) C dX7_countInTable_15 rfl rfl rfl ?_ 
    refine pv_callVi (q := 19) C hKl (c_X7_layTable l X D3 P _ _ (by omega) (by omega) (D 7) (by subst_vars; rfl)) tw_1409 k6 (by decide) rfl mm_X7_layTable ⟨rfl, rfl⟩ (by rw [hKR]; exact ⟨Nat.le_of_ble_eq_true rfl, Nat.le_of_ble_eq_true rfl⟩) (by rw [hKR]; exact ⟨Nat.le_of_ble_eq_true rfl, Nat.le_of_ble_eq_true rfl⟩) rfl rfl rfl (Nat.le_of_ble_eq_true rfl) dX7_countInTable_16 rfl (fun r16 D16 P16 hp16 => ?_) 
    obtain ⟨rfl, ⟨f16, hR16, hf16⟩, rfl⟩ := hp16
    have hle := TN_le (D 7) v g
    exact pv_iret C (⟨⟨by rw [hk3]; subst_vars; rfl, fun _ => by rw [ix_n (by omega), ix_n (by omega)], (by subst_vars; repeat (first | exact Sx_rf _ | refine Sx.ar ?_ (by decide) | refine Sx.up ?_ (by decide)))⟩, rfl⟩) (by decide) (by decide) dX7_countInTable_19
  · refine pv_if_eq (q := 9) (tgt := 13) C dX7_countInTable_6 (by decide) rfl (fun h => absurd h (by decide)) (fun _ => ?_)
    refine pv_iconst (q := 10) (v := 0) C dX7_countInTable_9 rfl (by decide) ?_ 
    refine pv_goto (tgt := 19) C dX7_countInTable_10 (by decide) ?_ 
    exact pv_iret C (⟨⟨by rw [hR3]; rfl, fun z => absurd z hk3, (by subst_vars; repeat (first | exact Sx_rf _ | refine Sx.ar ?_ (by decide) | refine Sx.up ?_ (by decide)))⟩, rfl⟩) (by decide) (by decide) dX7_countInTable_19
set_option maxRecDepth 100000 in
set_option maxHeartbeats 4000000 in
theorem c_X7_sumInTable (l : Launch) (X : XT) (D : DT) (P : PT) (view group : Int32) : CG l X yX7_sumInTable (.code yX7_sumInTable cX7_sumInTable 3 (some .int) :: AW) ({ frames := 3, cells := 0, slots := 0, locals := 108 } : Room) [.ref (X.2.2 6), .int view, .int group] (qI X (fun r D' P' => rd (kGr view group) (sm (TF (D 7) (ix view) (ix group)) (TN (D 7) (ix view) (ix group))) D r D' ∧ P = P')) D P 0 0 := by
  refine cg_of (by decide +kernel) (Nat.le_of_ble_eq_true rfl) ?_
  intro K hKl hKR C
  refine PV_lv (lv' := [some (.ref (X.2.2 6)), some (.int view), some (.int group)]) rfl ?_
  refine pv_aload_n (q := 1) C dX7_sumInTable_0 rfl rfl rfl ?_ 
  refine pv_iload_n (q := 2) C dX7_sumInTable_1 rfl rfl rfl ?_ 
  refine pv_iload_n (q := 3) C dX7_sumInTable_2 rfl rfl rfl ?_ 
  refine pv_callVi (q := 6) C hKl (c_X7_noGroup l X D P _ _) tw_1356 k6 (by decide) rfl mm_X7_noGroup ⟨rfl, rfl⟩ (by rw [hKR]; exact ⟨Nat.le_of_ble_eq_true rfl, Nat.le_of_ble_eq_true rfl⟩) (by rw [hKR]; exact ⟨Nat.le_of_ble_eq_true rfl, Nat.le_of_ble_eq_true rfl⟩) rfl rfl rfl (Nat.le_of_ble_eq_true rfl) dX7_sumInTable_3 rfl (fun r3 D3 P3 hp3 => ?_) 
  rcases hp3 with ⟨⟨hk3, rfl, hR3⟩ | ⟨hk3, rfl, hR3⟩, rfl⟩
  · obtain ⟨v, g, hv, hg, rfl, rfl⟩ := rg_gr hk3
    refine pv_if_eq (q := 9) (tgt := 13) C dX7_sumInTable_6 (by decide) rfl (fun _ => ?_) (fun h => absurd h (by decide)) 
    refine pv_aload_n (q := 14) C dX7_sumInTable_13 rfl rfl rfl ?_ 
    refine pg_7_7 (q := 17) C k6 tw_1002 dX7_sumInTable_14 rfl (fun k14 => ?_) 
    refine pv_aload_n (q := 18) C dX7_sumInTable_17 rfl rfl rfl ?_ 
    refine pv_iload_n (q := 19) C dX7_sumInTable_18 rfl rfl rfl ?_ 
    refine pv_iload_n (q := 20) C dX7_sumInTable_19 rfl rfl rfl ?_ 
    refine pv_callVi (q := 23) C hKl (c_X7_layTable l X D3 P _ _ (by omega) (by omega) (D 7) (by subst_vars; rfl)) tw_1409 k6 (by decide) rfl mm_X7_layTable ⟨rfl, rfl⟩ (by rw [hKR]; exact ⟨Nat.le_of_ble_eq_true rfl, Nat.le_of_ble_eq_true rfl⟩) (by rw [hKR]; exact ⟨Nat.le_of_ble_eq_true rfl, Nat.le_of_ble_eq_true rfl⟩) rfl rfl rfl (Nat.le_of_ble_eq_true rfl) dX7_sumInTable_20 rfl (fun r20 D20 P20 hp20 => ?_) 
    obtain ⟨rfl, ⟨f20, hR20, hf20⟩, rfl⟩ := hp20
    have hle := TN_le (D 7) v g
    refine pv_callSi (q := 26) C hKl (c_X7_total l X D20 P _ _ k14 (by first | omega | exact vN_le _ _ _ _)) tw_1372 mm_X7_total ⟨rfl, rfl⟩ (by rw [hKR]; exact ⟨Nat.le_of_ble_eq_true rfl, Nat.le_of_ble_eq_true rfl⟩) (by rw [hKR]; exact ⟨Nat.le_of_ble_eq_true rfl, Nat.le_of_ble_eq_true rfl⟩) rfl rfl rfl (Nat.le_of_ble_eq_true rfl) dX7_sumInTable_23 rfl (fun r23 D23 P23 hp23 => ?_) 
    obtain ⟨rfl, rfl, rfl⟩ := hp23
    exact pv_iret C (⟨⟨by rw [hk3]; subst_vars; rfl, fun _ => by rw [ix_n (by omega), ix_n (by omega)]; rw [hR20, va_up_self]; exact sm_cong hf20, (by subst_vars; repeat (first | exact Sx_rf _ | refine Sx.ar ?_ (by decide) | refine Sx.up ?_ (by decide)))⟩, rfl⟩) (by decide) (by decide) dX7_sumInTable_26
  · refine pv_if_eq (q := 9) (tgt := 13) C dX7_sumInTable_6 (by decide) rfl (fun h => absurd h (by decide)) (fun _ => ?_)
    refine pv_iconst (q := 10) (v := 0) C dX7_sumInTable_9 rfl (by decide) ?_ 
    refine pv_goto (tgt := 26) C dX7_sumInTable_10 (by decide) ?_ 
    exact pv_iret C (⟨⟨by rw [hR3]; rfl, fun z => absurd z hk3, (by subst_vars; repeat (first | exact Sx_rf _ | refine Sx.ar ?_ (by decide) | refine Sx.up ?_ (by decide)))⟩, rfl⟩) (by decide) (by decide) dX7_sumInTable_26
set_option maxRecDepth 100000 in
set_option maxHeartbeats 4000000 in
theorem c_X7_noAmounts (l : Launch) (X : XT) (D : DT) (P : PT) (view group : Int32) : CG l X yX7_noAmounts (.code yX7_noAmounts cX7_noAmounts 4 (some .boolean) :: AW) ({ frames := 2, cells := 0, slots := 0, locals := 72 } : Room) [.ref (X.2.2 6), .int view, .int group] (qI X (fun r D' P' => ((kAm (D 7) view group = 0 ∧ r = 0 ∧ D' 6 0 = 0 ∧ (∃ v g, v < 3 ∧ g < 4 ∧ view = nI v ∧ group = nI g ∧ 0 < VN (D 7) v g ∧ ∀ j, j < VN (D 7) v g → D' 10 j = VF (D 7) v g j) ∧ Sx D D') ∨ (¬ kAm (D 7) view group = 0 ∧ r = 1 ∧ D' 6 0 = kAm (D 7) view group ∧ Sx D D')) ∧ P = P')) D P 0 0 := by
  refine cg_of (by decide +kernel) (Nat.le_of_ble_eq_true rfl) ?_
  intro K hKl hKR C
  refine PV_lv (lv' := [some (.ref (X.2.2 6)), some (.int view), some (.int group), none]) rfl ?_
  refine pv_iload_n (q := 1) C dX7_noAmounts_0 rfl rfl rfl ?_ 
  refine pv_callSi (q := 4) C hKl (c_X7_isView l X D P _) tw_1144 mm_X7_isView ⟨rfl, rfl⟩ (by rw [hKR]; exact ⟨Nat.le_of_ble_eq_true rfl, Nat.le_of_ble_eq_true rfl⟩) (by rw [hKR]; exact ⟨Nat.le_of_ble_eq_true rfl, Nat.le_of_ble_eq_true rfl⟩) rfl rfl rfl (Nat.le_of_ble_eq_true rfl) dX7_noAmounts_1 rfl (fun r1 D1 P1 hp1 => ?_) 
  rcases hp1 with ⟨⟨hy1, rfl⟩ | ⟨hn1, rfl⟩, rfl, rfl⟩
  · obtain ⟨v, hv, rfl⟩ := rg3 hy1
    refine pv_if_eq (q := 7) (tgt := 18) C dX7_noAmounts_4 (by decide) rfl (fun h => absurd h (by decide)) (fun _ => ?_) 
    refine pv_iload_n (q := 8) C dX7_noAmounts_7 rfl rfl rfl ?_ 
    refine pv_callSi (q := 11) C hKl (c_X7_isGroup l X D P _) tw_1056 mm_X7_isGroup ⟨rfl, rfl⟩ (by rw [hKR]; exact ⟨Nat.le_of_ble_eq_true rfl, Nat.le_of_ble_eq_true rfl⟩) (by rw [hKR]; exact ⟨Nat.le_of_ble_eq_true rfl, Nat.le_of_ble_eq_true rfl⟩) rfl rfl rfl (Nat.le_of_ble_eq_true rfl) dX7_noAmounts_8 rfl (fun r8 D8 P8 hp8 => ?_) 
    rcases hp8 with ⟨⟨hy8, rfl⟩ | ⟨hn8, rfl⟩, rfl, rfl⟩
    · obtain ⟨g, hg, rfl⟩ := rg4 hy8
      refine pv_if_eq (q := 14) (tgt := 18) C dX7_noAmounts_11 (by decide) rfl (fun h => absurd h (by decide)) (fun _ => ?_) 
      refine pv_iconst (q := 15) (v := 1) C dX7_noAmounts_14 rfl (by decide) ?_ 
      refine pv_goto (tgt := 19) C dX7_noAmounts_15 (by decide) ?_ 
      refine pv_istore_n (q := 20) C dX7_noAmounts_19 rfl rfl (Nat.le_of_ble_eq_true rfl) rfl ?_ 
      refine pv_aload_n (q := 21) C dX7_noAmounts_20 rfl rfl rfl ?_ 
      refine pv_iload_n (q := 22) C dX7_noAmounts_21 rfl rfl rfl ?_ 
      refine pv_if_ne (q := 25) (tgt := 29) C dX7_noAmounts_22 (by decide) rfl (fun _ => ?_) (fun h => absurd h (by decide)) 
      refine pv_aload_n (q := 30) C dX7_noAmounts_29 rfl rfl rfl ?_ 
      refine pv_iload_n (q := 31) C dX7_noAmounts_30 rfl rfl rfl ?_ 
      refine pv_iload_n (q := 32) C dX7_noAmounts_31 rfl rfl rfl ?_ 
      refine pv_callVi (q := 35) C hKl (c_X7_layView l X D P _ _ (by omega) (by omega) (D 7) (by subst_vars; rfl)) tw_1360 k6 (by decide) rfl mm_X7_layView ⟨rfl, rfl⟩ (by rw [hKR]; exact ⟨Nat.le_of_ble_eq_true rfl, Nat.le_of_ble_eq_true rfl⟩) (by rw [hKR]; exact ⟨Nat.le_of_ble_eq_true rfl, Nat.le_of_ble_eq_true rfl⟩) rfl rfl rfl (Nat.le_of_ble_eq_true rfl) dX7_noAmounts_32 rfl (fun r32 D32 P32 hp32 => ?_) 
      obtain ⟨rfl, ⟨f32, hR32, hf32⟩, rfl⟩ := hp32
      have hle := VN_le (D 7) v g
      refine pv_if_neN (q := 38) (tgt := 42) (a := (VN (D 7) v g)) (b := 0) C rfl rfl (by omega) (by omega) dX7_noAmounts_35 (by decide) rfl (fun c_35 => ?_) (fun c_35 => ?_) 
      · refine pv_iconst (q := 43) (v := 0) C dX7_noAmounts_42 rfl (by decide) ?_
        refine pv_callVi (q := 46) C hKl (c_X7_refused0 l X D32 P ) tw_1069 k6 (by decide) rfl mm_X7_refused ⟨rfl, rfl⟩ (by rw [hKR]; exact ⟨Nat.le_of_ble_eq_true rfl, Nat.le_of_ble_eq_true rfl⟩) (by rw [hKR]; exact ⟨Nat.le_of_ble_eq_true rfl, Nat.le_of_ble_eq_true rfl⟩) rfl rfl rfl (Nat.le_of_ble_eq_true rfl) dX7_noAmounts_43 rfl (fun r43 D43 P43 hp43 => ?_) 
        obtain ⟨rfl, hR43, rfl⟩ := hp43
        exact pv_zret C (Or.inl rfl) (⟨Or.inl ⟨(by unfold kAm; rw [if_pos ⟨hy1, hy8⟩, ix_n (by omega), ix_n (by omega), if_neg c_35]), rfl, (by rw [hR43]; rfl), ⟨v, g, hv, hg, rfl, rfl, by omega, fun j hj => by rw [hR43, hR32]; exact hf32 j hj⟩, (by subst_vars; repeat (first | exact Sx_rf _ | refine Sx.ar ?_ (by decide) | refine Sx.up ?_ (by decide)))⟩, rfl⟩) (by decide) (by decide) dX7_noAmounts_46
      · refine pv_iconst (q := 39) (v := 2) C dX7_noAmounts_38 rfl (by decide) ?_
        refine pv_goto (tgt := 43) C dX7_noAmounts_39 (by decide) ?_ 
        refine pv_callVi (q := 46) C hKl (c_X7_refused l X D32 P _ (by decide)) tw_1069 k6 (by decide) rfl mm_X7_refused ⟨rfl, rfl⟩ (by rw [hKR]; exact ⟨Nat.le_of_ble_eq_true rfl, Nat.le_of_ble_eq_true rfl⟩) (by rw [hKR]; exact ⟨Nat.le_of_ble_eq_true rfl, Nat.le_of_ble_eq_true rfl⟩) rfl rfl rfl (Nat.le_of_ble_eq_true rfl) dX7_noAmounts_43 rfl (fun r43 D43 P43 hp43 => ?_) 
        obtain ⟨rfl, hR43, rfl⟩ := hp43
        exact pv_zret C (Or.inr rfl) (⟨Or.inr ⟨(by unfold kAm; rw [if_pos ⟨hy1, hy8⟩, ix_n (by omega), ix_n (by omega), if_pos c_35]; decide), rfl, (by unfold kAm; rw [if_pos ⟨hy1, hy8⟩, ix_n (by omega), ix_n (by omega), if_pos c_35, hR43]; rfl), (by subst_vars; repeat (first | exact Sx_rf _ | refine Sx.ar ?_ (by decide) | refine Sx.up ?_ (by decide)))⟩, rfl⟩) (by decide) (by decide) dX7_noAmounts_46
    · refine pv_if_eq (q := 14) (tgt := 18) C dX7_noAmounts_11 (by decide) rfl (fun _ => ?_) (fun h => absurd h (by decide))
      refine pv_iconst (q := 19) (v := 0) C dX7_noAmounts_18 rfl (by decide) ?_ 
      refine pv_istore_n (q := 20) C dX7_noAmounts_19 rfl rfl (Nat.le_of_ble_eq_true rfl) rfl ?_ 
      refine pv_aload_n (q := 21) C dX7_noAmounts_20 rfl rfl rfl ?_ 
      refine pv_iload_n (q := 22) C dX7_noAmounts_21 rfl rfl rfl ?_ 
      refine pv_if_ne (q := 25) (tgt := 29) C dX7_noAmounts_22 (by decide) rfl (fun h => absurd h (by decide)) (fun _ => ?_) 
      refine pv_iconst (q := 26) (v := 1) C dX7_noAmounts_25 rfl (by decide) ?_ 
      refine pv_goto (tgt := 43) C dX7_noAmounts_26 (by decide) ?_ 
      refine pv_callVi (q := 46) C hKl (c_X7_refused l X D P _ (by decide)) tw_1069 k6 (by decide) rfl mm_X7_refused ⟨rfl, rfl⟩ (by rw [hKR]; exact ⟨Nat.le_of_ble_eq_true rfl, Nat.le_of_ble_eq_true rfl⟩) (by rw [hKR]; exact ⟨Nat.le_of_ble_eq_true rfl, Nat.le_of_ble_eq_true rfl⟩) rfl rfl rfl (Nat.le_of_ble_eq_true rfl) dX7_noAmounts_43 rfl (fun r43 D43 P43 hp43 => ?_) 
      obtain ⟨rfl, hR43, rfl⟩ := hp43
      exact pv_zret C (Or.inr rfl) (⟨Or.inr ⟨(by unfold kAm; rw [if_neg (fun z => hn8 z.2)]; decide), rfl, (by unfold kAm; rw [if_neg (fun z => hn8 z.2), hR43]; rfl), (by subst_vars; repeat (first | exact Sx_rf _ | refine Sx.ar ?_ (by decide) | refine Sx.up ?_ (by decide)))⟩, rfl⟩) (by decide) (by decide) dX7_noAmounts_46
  · refine pv_if_eq (q := 7) (tgt := 18) C dX7_noAmounts_4 (by decide) rfl (fun _ => ?_) (fun h => absurd h (by decide))
    refine pv_iconst (q := 19) (v := 0) C dX7_noAmounts_18 rfl (by decide) ?_ 
    refine pv_istore_n (q := 20) C dX7_noAmounts_19 rfl rfl (Nat.le_of_ble_eq_true rfl) rfl ?_ 
    refine pv_aload_n (q := 21) C dX7_noAmounts_20 rfl rfl rfl ?_ 
    refine pv_iload_n (q := 22) C dX7_noAmounts_21 rfl rfl rfl ?_ 
    refine pv_if_ne (q := 25) (tgt := 29) C dX7_noAmounts_22 (by decide) rfl (fun h => absurd h (by decide)) (fun _ => ?_) 
    refine pv_iconst (q := 26) (v := 1) C dX7_noAmounts_25 rfl (by decide) ?_ 
    refine pv_goto (tgt := 43) C dX7_noAmounts_26 (by decide) ?_ 
    refine pv_callVi (q := 46) C hKl (c_X7_refused l X D P _ (by decide)) tw_1069 k6 (by decide) rfl mm_X7_refused ⟨rfl, rfl⟩ (by rw [hKR]; exact ⟨Nat.le_of_ble_eq_true rfl, Nat.le_of_ble_eq_true rfl⟩) (by rw [hKR]; exact ⟨Nat.le_of_ble_eq_true rfl, Nat.le_of_ble_eq_true rfl⟩) rfl rfl rfl (Nat.le_of_ble_eq_true rfl) dX7_noAmounts_43 rfl (fun r43 D43 P43 hp43 => ?_) 
    obtain ⟨rfl, hR43, rfl⟩ := hp43
    exact pv_zret C (Or.inr rfl) (⟨Or.inr ⟨(by unfold kAm; rw [if_neg (fun z => hn1 z.1)]; decide), rfl, (by unfold kAm; rw [if_neg (fun z => hn1 z.1), hR43]; rfl), (by subst_vars; repeat (first | exact Sx_rf _ | refine Sx.ar ?_ (by decide) | refine Sx.up ?_ (by decide)))⟩, rfl⟩) (by decide) (by decide) dX7_noAmounts_46
set_option maxRecDepth 100000 in
set_option maxHeartbeats 4000000 in
theorem c_X7_leastOf (l : Launch) (X : XT) (D : DT) (P : PT) (view group : Int32) : CG l X yX7_leastOf (.code yX7_leastOf cX7_leastOf 3 (some .int) :: AW) ({ frames := 3, cells := 0, slots := 0, locals := 108 } : Room) [.ref (X.2.2 6), .int view, .int group] (qI X (fun r D' P' => rd (kAm (D 7) view group) (at0 (VF (D 7) (ix view) (ix group)) (VN (D 7) (ix view) (ix group)) (0)) D r D' ∧ P = P')) D P 0 0 := by
  refine cg_of (by decide +kernel) (Nat.le_of_ble_eq_true rfl) ?_
  intro K hKl hKR C
  refine PV_lv (lv' := [some (.ref (X.2.2 6)), some (.int view), some (.int group)]) rfl ?_
  refine pv_aload_n (q := 1) C dX7_leastOf_0 rfl rfl rfl ?_ 
  refine pv_iload_n (q := 2) C dX7_leastOf_1 rfl rfl rfl ?_ 
  refine pv_iload_n (q := 3) C dX7_leastOf_2 rfl rfl rfl ?_ 
  refine pv_callVi (q := 6) C hKl (c_X7_noAmounts l X D P _ _) tw_1379 k6 (by decide) rfl mm_X7_noAmounts ⟨rfl, rfl⟩ (by rw [hKR]; exact ⟨Nat.le_of_ble_eq_true rfl, Nat.le_of_ble_eq_true rfl⟩) (by rw [hKR]; exact ⟨Nat.le_of_ble_eq_true rfl, Nat.le_of_ble_eq_true rfl⟩) rfl rfl rfl (Nat.le_of_ble_eq_true rfl) dX7_leastOf_3 rfl (fun r3 D3 P3 hp3 => ?_) 
  rcases hp3 with ⟨⟨hk3, rfl, h63, ⟨v, g, hv, hg, rfl, rfl, hpos, hf⟩, hS3⟩ | ⟨hk3, rfl, h63, hS3⟩, rfl⟩
  · refine pv_if_eq (q := 9) (tgt := 13) C dX7_leastOf_6 (by decide) rfl (fun _ => ?_) (fun h => absurd h (by decide))
    refine pv_aload_n (q := 14) C dX7_leastOf_13 rfl rfl rfl ?_ 
    refine pg_7_6 (q := 17) C k6 tw_1001 dX7_leastOf_14 rfl (fun k14 => ?_) 
    refine pv_iconst (q := 18) (v := 0) C dX7_leastOf_17 rfl (by decide) ?_ 
    refine pv_iald (q := 19) (j := 0) C (iln_9 k14) rfl (by decide) dX7_leastOf_18 rfl ?_ 
    exact pv_iret C (⟨⟨h63.trans hk3.symm, fun _ => by unfold at0; rw [ix_n (by omega), ix_n (by omega), if_neg (by omega)]; exact hf 0 hpos, hS3⟩, rfl⟩) (by decide) (by decide) dX7_leastOf_19
  · refine pv_if_eq (q := 9) (tgt := 13) C dX7_leastOf_6 (by decide) rfl (fun h => absurd h (by decide)) (fun _ => ?_)
    refine pv_iconst (q := 10) (v := 0) C dX7_leastOf_9 rfl (by decide) ?_ 
    refine pv_goto (tgt := 19) C dX7_leastOf_10 (by decide) ?_ 
    exact pv_iret C (⟨⟨h63, fun z => absurd z hk3, hS3⟩, rfl⟩) (by decide) (by decide) dX7_leastOf_19
set_option maxRecDepth 100000 in
set_option maxHeartbeats 4000000 in
theorem c_X7_greatestOf (l : Launch) (X : XT) (D : DT) (P : PT) (view group : Int32) : CG l X yX7_greatestOf (.code yX7_greatestOf cX7_greatestOf 3 (some .int) :: AW) ({ frames := 3, cells := 0, slots := 0, locals := 108 } : Room) [.ref (X.2.2 6), .int view, .int group] (qI X (fun r D' P' => rd (kAm (D 7) view group) (at0 (VF (D 7) (ix view) (ix group)) (VN (D 7) (ix view) (ix group)) (VN (D 7) (ix view) (ix group) - 1)) D r D' ∧ P = P')) D P 0 0 := by
  refine cg_of (by decide +kernel) (Nat.le_of_ble_eq_true rfl) ?_
  intro K hKl hKR C
  refine PV_lv (lv' := [some (.ref (X.2.2 6)), some (.int view), some (.int group)]) rfl ?_
  refine pv_aload_n (q := 1) C dX7_greatestOf_0 rfl rfl rfl ?_ 
  refine pv_iload_n (q := 2) C dX7_greatestOf_1 rfl rfl rfl ?_ 
  refine pv_iload_n (q := 3) C dX7_greatestOf_2 rfl rfl rfl ?_ 
  refine pv_callVi (q := 6) C hKl (c_X7_noAmounts l X D P _ _) tw_1379 k6 (by decide) rfl mm_X7_noAmounts ⟨rfl, rfl⟩ (by rw [hKR]; exact ⟨Nat.le_of_ble_eq_true rfl, Nat.le_of_ble_eq_true rfl⟩) (by rw [hKR]; exact ⟨Nat.le_of_ble_eq_true rfl, Nat.le_of_ble_eq_true rfl⟩) rfl rfl rfl (Nat.le_of_ble_eq_true rfl) dX7_greatestOf_3 rfl (fun r3 D3 P3 hp3 => ?_) 
  rcases hp3 with ⟨⟨hk3, rfl, h63, ⟨v, g, hv, hg, rfl, rfl, hpos, hf⟩, hS3⟩ | ⟨hk3, rfl, h63, hS3⟩, rfl⟩
  · refine pv_if_eq (q := 9) (tgt := 13) C dX7_greatestOf_6 (by decide) rfl (fun _ => ?_) (fun h => absurd h (by decide))
    refine pv_aload_n (q := 14) C dX7_greatestOf_13 rfl rfl rfl ?_ 
    refine pg_7_6 (q := 17) C k6 tw_1001 dX7_greatestOf_14 rfl (fun k14 => ?_) 
    refine pv_aload_n (q := 18) C dX7_greatestOf_17 rfl rfl rfl ?_ 
    refine pv_iload_n (q := 19) C dX7_greatestOf_18 rfl rfl rfl ?_ 
    refine pv_iload_n (q := 20) C dX7_greatestOf_19 rfl rfl rfl ?_ 
    refine pv_callVi (q := 23) C hKl (c_X7_layView l X D3 P _ _ (by omega) (by omega) (D 7) (hS3.row)) tw_1360 k6 (by decide) rfl mm_X7_layView ⟨rfl, rfl⟩ (by rw [hKR]; exact ⟨Nat.le_of_ble_eq_true rfl, Nat.le_of_ble_eq_true rfl⟩) (by rw [hKR]; exact ⟨Nat.le_of_ble_eq_true rfl, Nat.le_of_ble_eq_true rfl⟩) rfl rfl rfl (Nat.le_of_ble_eq_true rfl) dX7_greatestOf_20 rfl (fun r20 D20 P20 hp20 => ?_) 
    obtain ⟨rfl, ⟨f20, hR20, hf20⟩, rfl⟩ := hp20
    have hle := VN_le (D 7) v g
    refine pv_iconst (q := 24) (v := 1) C dX7_greatestOf_23 rfl (by decide) ?_ 
    refine pv_isubN (q := 25) (a := (VN (D 7) v g)) (b := 1) C rfl rfl (by omega) dX7_greatestOf_24 rfl ?_ 
    refine pv_iald (q := 26) (j := ((VN (D 7) v g) - 1)) C (iln_9 k14) rfl (by omega) dX7_greatestOf_25 rfl ?_ 
    exact pv_iret C (⟨⟨by rw [hR20]; exact h63.trans hk3.symm, fun _ => by unfold at0; rw [ix_n (by omega), ix_n (by omega), if_neg (by omega)]; rw [hR20, va_up_self]; exact hf20 _ (by omega), by rw [hR20]; exact hS3.ar (by decide)⟩, rfl⟩) (by decide) (by decide) dX7_greatestOf_26
  · refine pv_if_eq (q := 9) (tgt := 13) C dX7_greatestOf_6 (by decide) rfl (fun h => absurd h (by decide)) (fun _ => ?_)
    refine pv_iconst (q := 10) (v := 0) C dX7_greatestOf_9 rfl (by decide) ?_ 
    refine pv_goto (tgt := 26) C dX7_greatestOf_10 (by decide) ?_ 
    exact pv_iret C (⟨⟨h63, fun z => absurd z hk3, hS3⟩, rfl⟩) (by decide) (by decide) dX7_greatestOf_26
set_option maxRecDepth 100000 in
set_option maxHeartbeats 4000000 in
theorem c_X7_medianOf (l : Launch) (X : XT) (D : DT) (P : PT) (view group : Int32) : CG l X yX7_medianOf (.code yX7_medianOf cX7_medianOf 3 (some .int) :: AW) ({ frames := 3, cells := 0, slots := 0, locals := 108 } : Room) [.ref (X.2.2 6), .int view, .int group] (qI X (fun r D' P' => rd (kAm (D 7) view group) (at0 (VF (D 7) (ix view) (ix group)) (VN (D 7) (ix view) (ix group)) ((VN (D 7) (ix view) (ix group) - 1) / 2)) D r D' ∧ P = P')) D P 0 0 := by
  refine cg_of (by decide +kernel) (Nat.le_of_ble_eq_true rfl) ?_
  intro K hKl hKR C
  refine PV_lv (lv' := [some (.ref (X.2.2 6)), some (.int view), some (.int group)]) rfl ?_
  refine pv_aload_n (q := 1) C dX7_medianOf_0 rfl rfl rfl ?_ 
  refine pv_iload_n (q := 2) C dX7_medianOf_1 rfl rfl rfl ?_ 
  refine pv_iload_n (q := 3) C dX7_medianOf_2 rfl rfl rfl ?_ 
  refine pv_callVi (q := 6) C hKl (c_X7_noAmounts l X D P _ _) tw_1379 k6 (by decide) rfl mm_X7_noAmounts ⟨rfl, rfl⟩ (by rw [hKR]; exact ⟨Nat.le_of_ble_eq_true rfl, Nat.le_of_ble_eq_true rfl⟩) (by rw [hKR]; exact ⟨Nat.le_of_ble_eq_true rfl, Nat.le_of_ble_eq_true rfl⟩) rfl rfl rfl (Nat.le_of_ble_eq_true rfl) dX7_medianOf_3 rfl (fun r3 D3 P3 hp3 => ?_) 
  rcases hp3 with ⟨⟨hk3, rfl, h63, ⟨v, g, hv, hg, rfl, rfl, hpos, hf⟩, hS3⟩ | ⟨hk3, rfl, h63, hS3⟩, rfl⟩
  · refine pv_if_eq (q := 9) (tgt := 13) C dX7_medianOf_6 (by decide) rfl (fun _ => ?_) (fun h => absurd h (by decide))
    refine pv_aload_n (q := 14) C dX7_medianOf_13 rfl rfl rfl ?_ 
    refine pg_7_6 (q := 17) C k6 tw_1001 dX7_medianOf_14 rfl (fun k14 => ?_) 
    refine pv_aload_n (q := 18) C dX7_medianOf_17 rfl rfl rfl ?_ 
    refine pv_iload_n (q := 19) C dX7_medianOf_18 rfl rfl rfl ?_ 
    refine pv_iload_n (q := 20) C dX7_medianOf_19 rfl rfl rfl ?_ 
    refine pv_callVi (q := 23) C hKl (c_X7_layView l X D3 P _ _ (by omega) (by omega) (D 7) (hS3.row)) tw_1360 k6 (by decide) rfl mm_X7_layView ⟨rfl, rfl⟩ (by rw [hKR]; exact ⟨Nat.le_of_ble_eq_true rfl, Nat.le_of_ble_eq_true rfl⟩) (by rw [hKR]; exact ⟨Nat.le_of_ble_eq_true rfl, Nat.le_of_ble_eq_true rfl⟩) rfl rfl rfl (Nat.le_of_ble_eq_true rfl) dX7_medianOf_20 rfl (fun r20 D20 P20 hp20 => ?_) 
    obtain ⟨rfl, ⟨f20, hR20, hf20⟩, rfl⟩ := hp20
    have hle := VN_le (D 7) v g
    refine pv_iconst (q := 24) (v := 1) C dX7_medianOf_23 rfl (by decide) ?_ 
    refine pv_isubN (q := 25) (a := (VN (D 7) v g)) (b := 1) C rfl rfl (by omega) dX7_medianOf_24 rfl ?_ 
    refine pv_iconst (q := 26) (v := 2) C dX7_medianOf_25 rfl (by decide) ?_ 
    refine pv_idivN (q := 27) (a := ((VN (D 7) v g) - 1)) (b := 2) C rfl rfl (by omega) (by decide) (by decide) dX7_medianOf_26 rfl ?_ 
    refine pv_iald (q := 28) (j := (((VN (D 7) v g) - 1) / 2)) C (iln_9 k14) rfl (by omega) dX7_medianOf_27 rfl ?_ 
    exact pv_iret C (⟨⟨by rw [hR20]; exact h63.trans hk3.symm, fun _ => by unfold at0; rw [ix_n (by omega), ix_n (by omega), if_neg (by omega)]; rw [hR20, va_up_self]; exact hf20 _ (by omega), by rw [hR20]; exact hS3.ar (by decide)⟩, rfl⟩) (by decide) (by decide) dX7_medianOf_28
  · refine pv_if_eq (q := 9) (tgt := 13) C dX7_medianOf_6 (by decide) rfl (fun h => absurd h (by decide)) (fun _ => ?_)
    refine pv_iconst (q := 10) (v := 0) C dX7_medianOf_9 rfl (by decide) ?_ 
    refine pv_goto (tgt := 28) C dX7_medianOf_10 (by decide) ?_ 
    exact pv_iret C (⟨⟨h63, fun z => absurd z hk3, hS3⟩, rfl⟩) (by decide) (by decide) dX7_medianOf_28
set_option maxRecDepth 100000 in
set_option maxHeartbeats 4000000 in
theorem c_X7_rankOf (l : Launch) (X : XT) (D : DT) (P : PT) (view group amount : Int32) : CG l X yX7_rankOf (.code yX7_rankOf cX7_rankOf 5 (some .int) :: AW) ({ frames := 2, cells := 0, slots := 0, locals := 72 } : Room) [.ref (X.2.2 6), .int view, .int group, .int amount] (qI X (fun r D' P' => rd (kRk view group amount) (nI (bl (VF (D 7) (ix view) (ix group)) (VN (D 7) (ix view) (ix group)) amount)) D r D' ∧ P = P')) D P 0 0 := by
  refine cg_of (by decide +kernel) (Nat.le_of_ble_eq_true rfl) ?_
  intro K hKl hKR C
  refine PV_lv (lv' := [some (.ref (X.2.2 6)), some (.int view), some (.int group), some (.int amount), none]) rfl ?_
  refine pv_iload_n (q := 1) C dX7_rankOf_0 rfl rfl rfl ?_ 
  refine pv_callSi (q := 4) C hKl (c_X7_isView l X D P _) tw_1144 mm_X7_isView ⟨rfl, rfl⟩ (by rw [hKR]; exact ⟨Nat.le_of_ble_eq_true rfl, Nat.le_of_ble_eq_true rfl⟩) (by rw [hKR]; exact ⟨Nat.le_of_ble_eq_true rfl, Nat.le_of_ble_eq_true rfl⟩) rfl rfl rfl (Nat.le_of_ble_eq_true rfl) dX7_rankOf_1 rfl (fun r1 D1 P1 hp1 => ?_) 
  rcases hp1 with ⟨⟨hy1, rfl⟩ | ⟨hn1, rfl⟩, rfl, rfl⟩
  · obtain ⟨v, hv, rfl⟩ := rg3 hy1
    refine pv_if_eq (q := 7) (tgt := 18) C dX7_rankOf_4 (by decide) rfl (fun h => absurd h (by decide)) (fun _ => ?_) 
    refine pv_iload_n (q := 8) C dX7_rankOf_7 rfl rfl rfl ?_ 
    refine pv_callSi (q := 11) C hKl (c_X7_isGroup l X D P _) tw_1056 mm_X7_isGroup ⟨rfl, rfl⟩ (by rw [hKR]; exact ⟨Nat.le_of_ble_eq_true rfl, Nat.le_of_ble_eq_true rfl⟩) (by rw [hKR]; exact ⟨Nat.le_of_ble_eq_true rfl, Nat.le_of_ble_eq_true rfl⟩) rfl rfl rfl (Nat.le_of_ble_eq_true rfl) dX7_rankOf_8 rfl (fun r8 D8 P8 hp8 => ?_) 
    rcases hp8 with ⟨⟨hy8, rfl⟩ | ⟨hn8, rfl⟩, rfl, rfl⟩
    · obtain ⟨g, hg, rfl⟩ := rg4 hy8
      refine pv_if_eq (q := 14) (tgt := 18) C dX7_rankOf_11 (by decide) rfl (fun h => absurd h (by decide)) (fun _ => ?_) 
      refine pv_iconst (q := 15) (v := 1) C dX7_rankOf_14 rfl (by decide) ?_ 
      refine pv_goto (tgt := 19) C dX7_rankOf_15 (by decide) ?_ 
      refine pv_istore (q := 21) C dX7_rankOf_19 rfl (Nat.le_of_ble_eq_true rfl) rfl ?_ 
      refine pv_aload_n (q := 22) C dX7_rankOf_21 rfl rfl rfl ?_ 
      refine pv_iload (q := 24) C dX7_rankOf_22 rfl rfl ?_ 
      refine pv_if_ne (q := 27) (tgt := 31) C dX7_rankOf_24 (by decide) rfl (fun _ => ?_) (fun h => absurd h (by decide)) 
      refine pv_iload_n (q := 32) C dX7_rankOf_31 rfl rfl rfl ?_ 
      refine pv_callSi (q := 35) C hKl (c_X7_isAmount l X D P _) tw_1060 mm_X7_isAmount ⟨rfl, rfl⟩ (by rw [hKR]; exact ⟨Nat.le_of_ble_eq_true rfl, Nat.le_of_ble_eq_true rfl⟩) (by rw [hKR]; exact ⟨Nat.le_of_ble_eq_true rfl, Nat.le_of_ble_eq_true rfl⟩) rfl rfl rfl (Nat.le_of_ble_eq_true rfl) dX7_rankOf_32 rfl (fun r32 D32 P32 hp32 => ?_) 
      rcases hp32 with ⟨⟨hy32, rfl⟩ | ⟨hn32, rfl⟩, rfl, rfl⟩
      · refine pv_if_ne (q := 38) (tgt := 42) C dX7_rankOf_35 (by decide) rfl (fun _ => ?_) (fun h => absurd h (by decide))
        refine pv_iconst (q := 43) (v := 0) C dX7_rankOf_42 rfl (by decide) ?_ 
        refine pv_callVi (q := 46) C hKl (c_X7_refused0 l X D P ) tw_1069 k6 (by decide) rfl mm_X7_refused ⟨rfl, rfl⟩ (by rw [hKR]; exact ⟨Nat.le_of_ble_eq_true rfl, Nat.le_of_ble_eq_true rfl⟩) (by rw [hKR]; exact ⟨Nat.le_of_ble_eq_true rfl, Nat.le_of_ble_eq_true rfl⟩) rfl rfl rfl (Nat.le_of_ble_eq_true rfl) dX7_rankOf_43 rfl (fun r43 D43 P43 hp43 => ?_) 
        obtain ⟨rfl, hR43, rfl⟩ := hp43
        refine pv_if_eq (q := 49) (tgt := 51) C dX7_rankOf_46 (by decide) rfl (fun _ => ?_) (fun h => absurd h (by decide)) 
        refine pv_aload_n (q := 52) C dX7_rankOf_51 rfl rfl rfl ?_ 
        refine pg_7_6 (q := 55) C k6 tw_1001 dX7_rankOf_52 rfl (fun k52 => ?_) 
        refine pv_aload_n (q := 56) C dX7_rankOf_55 rfl rfl rfl ?_ 
        refine pv_iload_n (q := 57) C dX7_rankOf_56 rfl rfl rfl ?_ 
        refine pv_iload_n (q := 58) C dX7_rankOf_57 rfl rfl rfl ?_ 
        refine pv_callVi (q := 61) C hKl (c_X7_layView l X D43 P _ _ (by omega) (by omega) (D 7) (by subst_vars; rfl)) tw_1360 k6 (by decide) rfl mm_X7_layView ⟨rfl, rfl⟩ (by rw [hKR]; exact ⟨Nat.le_of_ble_eq_true rfl, Nat.le_of_ble_eq_true rfl⟩) (by rw [hKR]; exact ⟨Nat.le_of_ble_eq_true rfl, Nat.le_of_ble_eq_true rfl⟩) rfl rfl rfl (Nat.le_of_ble_eq_true rfl) dX7_rankOf_58 rfl (fun r58 D58 P58 hp58 => ?_) 
        obtain ⟨rfl, ⟨f58, hR58, hf58⟩, rfl⟩ := hp58
        have hle := VN_le (D 7) v g
        refine pv_iload_n (q := 62) C dX7_rankOf_61 rfl rfl rfl ?_ 
        refine pv_callSi (q := 65) C hKl (c_X7_below l X D58 P _ _ k52 (by first | omega | exact vN_le _ _ _ _) _) tw_1395 mm_X7_below ⟨rfl, rfl⟩ (by rw [hKR]; exact ⟨Nat.le_of_ble_eq_true rfl, Nat.le_of_ble_eq_true rfl⟩) (by rw [hKR]; exact ⟨Nat.le_of_ble_eq_true rfl, Nat.le_of_ble_eq_true rfl⟩) rfl rfl rfl (Nat.le_of_ble_eq_true rfl) dX7_rankOf_62 rfl (fun r62 D62 P62 hp62 => ?_) 
        obtain ⟨rfl, rfl, rfl⟩ := hp62
        exact pv_iret C (⟨⟨by unfold kRk; rw [if_pos ⟨hy1, hy8⟩, if_pos hy32, hR58, hR43]; rfl, fun _ => by rw [ix_n (by omega), ix_n (by omega), hR58, va_up_self]; exact congrArg nI (bl_cong hf58), (by subst_vars; repeat (first | exact Sx_rf _ | refine Sx.ar ?_ (by decide) | refine Sx.up ?_ (by decide)))⟩, rfl⟩) (by decide) (by decide) dX7_rankOf_65
      · refine pv_if_ne (q := 38) (tgt := 42) C dX7_rankOf_35 (by decide) rfl (fun h => absurd h (by decide)) (fun _ => ?_)
        refine pv_iconst (q := 39) (v := 2) C dX7_rankOf_38 rfl (by decide) ?_ 
        refine pv_goto (tgt := 43) C dX7_rankOf_39 (by decide) ?_ 
        refine pv_callVi (q := 46) C hKl (c_X7_refused l X D P _ (by decide)) tw_1069 k6 (by decide) rfl mm_X7_refused ⟨rfl, rfl⟩ (by rw [hKR]; exact ⟨Nat.le_of_ble_eq_true rfl, Nat.le_of_ble_eq_true rfl⟩) (by rw [hKR]; exact ⟨Nat.le_of_ble_eq_true rfl, Nat.le_of_ble_eq_true rfl⟩) rfl rfl rfl (Nat.le_of_ble_eq_true rfl) dX7_rankOf_43 rfl (fun r43 D43 P43 hp43 => ?_) 
        obtain ⟨rfl, hR43, rfl⟩ := hp43
        refine pv_if_eq (q := 49) (tgt := 51) C dX7_rankOf_46 (by decide) rfl (fun h => absurd h (by decide)) (fun _ => ?_) 
        refine pv_iconst (q := 50) (v := 0) C dX7_rankOf_49 rfl (by decide) ?_ 
        exact pv_iret C (⟨⟨by unfold kRk; rw [if_pos ⟨hy1, hy8⟩, if_neg hn32, hR43]; rfl, fun z => absurd z (by unfold kRk; rw [if_pos ⟨hy1, hy8⟩, if_neg hn32]; decide), (by subst_vars; repeat (first | exact Sx_rf _ | refine Sx.ar ?_ (by decide) | refine Sx.up ?_ (by decide)))⟩, rfl⟩) (by decide) (by decide) dX7_rankOf_50
    · refine pv_if_eq (q := 14) (tgt := 18) C dX7_rankOf_11 (by decide) rfl (fun _ => ?_) (fun h => absurd h (by decide))
      refine pv_iconst (q := 19) (v := 0) C dX7_rankOf_18 rfl (by decide) ?_ 
      refine pv_istore (q := 21) C dX7_rankOf_19 rfl (Nat.le_of_ble_eq_true rfl) rfl ?_ 
      refine pv_aload_n (q := 22) C dX7_rankOf_21 rfl rfl rfl ?_ 
      refine pv_iload (q := 24) C dX7_rankOf_22 rfl rfl ?_ 
      refine pv_if_ne (q := 27) (tgt := 31) C dX7_rankOf_24 (by decide) rfl (fun h => absurd h (by decide)) (fun _ => ?_) 
      refine pv_iconst (q := 28) (v := 1) C dX7_rankOf_27 rfl (by decide) ?_ 
      refine pv_goto (tgt := 43) C dX7_rankOf_28 (by decide) ?_ 
      refine pv_callVi (q := 46) C hKl (c_X7_refused l X D P _ (by decide)) tw_1069 k6 (by decide) rfl mm_X7_refused ⟨rfl, rfl⟩ (by rw [hKR]; exact ⟨Nat.le_of_ble_eq_true rfl, Nat.le_of_ble_eq_true rfl⟩) (by rw [hKR]; exact ⟨Nat.le_of_ble_eq_true rfl, Nat.le_of_ble_eq_true rfl⟩) rfl rfl rfl (Nat.le_of_ble_eq_true rfl) dX7_rankOf_43 rfl (fun r43 D43 P43 hp43 => ?_) 
      obtain ⟨rfl, hR43, rfl⟩ := hp43
      refine pv_if_eq (q := 49) (tgt := 51) C dX7_rankOf_46 (by decide) rfl (fun h => absurd h (by decide)) (fun _ => ?_) 
      refine pv_iconst (q := 50) (v := 0) C dX7_rankOf_49 rfl (by decide) ?_ 
      exact pv_iret C (⟨⟨by unfold kRk; rw [if_neg (fun z => hn8 z.2), hR43]; rfl, fun z => absurd z (by unfold kRk; rw [if_neg (fun z => hn8 z.2)]; decide), (by subst_vars; repeat (first | exact Sx_rf _ | refine Sx.ar ?_ (by decide) | refine Sx.up ?_ (by decide)))⟩, rfl⟩) (by decide) (by decide) dX7_rankOf_50
  · refine pv_if_eq (q := 7) (tgt := 18) C dX7_rankOf_4 (by decide) rfl (fun _ => ?_) (fun h => absurd h (by decide))
    refine pv_iconst (q := 19) (v := 0) C dX7_rankOf_18 rfl (by decide) ?_ 
    refine pv_istore (q := 21) C dX7_rankOf_19 rfl (Nat.le_of_ble_eq_true rfl) rfl ?_ 
    refine pv_aload_n (q := 22) C dX7_rankOf_21 rfl rfl rfl ?_ 
    refine pv_iload (q := 24) C dX7_rankOf_22 rfl rfl ?_ 
    refine pv_if_ne (q := 27) (tgt := 31) C dX7_rankOf_24 (by decide) rfl (fun h => absurd h (by decide)) (fun _ => ?_) 
    refine pv_iconst (q := 28) (v := 1) C dX7_rankOf_27 rfl (by decide) ?_ 
    refine pv_goto (tgt := 43) C dX7_rankOf_28 (by decide) ?_ 
    refine pv_callVi (q := 46) C hKl (c_X7_refused l X D P _ (by decide)) tw_1069 k6 (by decide) rfl mm_X7_refused ⟨rfl, rfl⟩ (by rw [hKR]; exact ⟨Nat.le_of_ble_eq_true rfl, Nat.le_of_ble_eq_true rfl⟩) (by rw [hKR]; exact ⟨Nat.le_of_ble_eq_true rfl, Nat.le_of_ble_eq_true rfl⟩) rfl rfl rfl (Nat.le_of_ble_eq_true rfl) dX7_rankOf_43 rfl (fun r43 D43 P43 hp43 => ?_) 
    obtain ⟨rfl, hR43, rfl⟩ := hp43
    refine pv_if_eq (q := 49) (tgt := 51) C dX7_rankOf_46 (by decide) rfl (fun h => absurd h (by decide)) (fun _ => ?_) 
    refine pv_iconst (q := 50) (v := 0) C dX7_rankOf_49 rfl (by decide) ?_ 
    exact pv_iret C (⟨⟨by unfold kRk; rw [if_neg (fun z => hn1 z.1), hR43]; rfl, fun z => absurd z (by unfold kRk; rw [if_neg (fun z => hn1 z.1)]; decide), (by subst_vars; repeat (first | exact Sx_rf _ | refine Sx.ar ?_ (by decide) | refine Sx.up ?_ (by decide)))⟩, rfl⟩) (by decide) (by decide) dX7_rankOf_50
set_option maxRecDepth 100000 in
set_option maxHeartbeats 4000000 in
theorem c_X7_rankInTable (l : Launch) (X : XT) (D : DT) (P : PT) (view group amount : Int32) : CG l X yX7_rankInTable (.code yX7_rankInTable cX7_rankInTable 5 (some .int) :: AW) ({ frames := 2, cells := 0, slots := 0, locals := 72 } : Room) [.ref (X.2.2 6), .int view, .int group, .int amount] (qI X (fun r D' P' => rd (kRk view group amount) (nI (bl (TF (D 7) (ix view) (ix group)) (TN (D 7) (ix view) (ix group)) amount)) D r D' ∧ P = P')) D P 0 0 := by
  refine cg_of (by decide +kernel) (Nat.le_of_ble_eq_true rfl) ?_
  intro K hKl hKR C
  refine PV_lv (lv' := [some (.ref (X.2.2 6)), some (.int view), some (.int group), some (.int amount), none]) rfl ?_
  refine pv_iload_n (q := 1) C dX7_rankInTable_0 rfl rfl rfl ?_ 
  refine pv_callSi (q := 4) C hKl (c_X7_isView l X D P _) tw_1144 mm_X7_isView ⟨rfl, rfl⟩ (by rw [hKR]; exact ⟨Nat.le_of_ble_eq_true rfl, Nat.le_of_ble_eq_true rfl⟩) (by rw [hKR]; exact ⟨Nat.le_of_ble_eq_true rfl, Nat.le_of_ble_eq_true rfl⟩) rfl rfl rfl (Nat.le_of_ble_eq_true rfl) dX7_rankInTable_1 rfl (fun r1 D1 P1 hp1 => ?_) 
  rcases hp1 with ⟨⟨hy1, rfl⟩ | ⟨hn1, rfl⟩, rfl, rfl⟩
  · obtain ⟨v, hv, rfl⟩ := rg3 hy1
    refine pv_if_eq (q := 7) (tgt := 18) C dX7_rankInTable_4 (by decide) rfl (fun h => absurd h (by decide)) (fun _ => ?_) 
    refine pv_iload_n (q := 8) C dX7_rankInTable_7 rfl rfl rfl ?_ 
    refine pv_callSi (q := 11) C hKl (c_X7_isGroup l X D P _) tw_1056 mm_X7_isGroup ⟨rfl, rfl⟩ (by rw [hKR]; exact ⟨Nat.le_of_ble_eq_true rfl, Nat.le_of_ble_eq_true rfl⟩) (by rw [hKR]; exact ⟨Nat.le_of_ble_eq_true rfl, Nat.le_of_ble_eq_true rfl⟩) rfl rfl rfl (Nat.le_of_ble_eq_true rfl) dX7_rankInTable_8 rfl (fun r8 D8 P8 hp8 => ?_) 
    rcases hp8 with ⟨⟨hy8, rfl⟩ | ⟨hn8, rfl⟩, rfl, rfl⟩
    · obtain ⟨g, hg, rfl⟩ := rg4 hy8
      refine pv_if_eq (q := 14) (tgt := 18) C dX7_rankInTable_11 (by decide) rfl (fun h => absurd h (by decide)) (fun _ => ?_) 
      refine pv_iconst (q := 15) (v := 1) C dX7_rankInTable_14 rfl (by decide) ?_ 
      refine pv_goto (tgt := 19) C dX7_rankInTable_15 (by decide) ?_ 
      refine pv_istore (q := 21) C dX7_rankInTable_19 rfl (Nat.le_of_ble_eq_true rfl) rfl ?_ 
      refine pv_aload_n (q := 22) C dX7_rankInTable_21 rfl rfl rfl ?_ 
      refine pv_iload (q := 24) C dX7_rankInTable_22 rfl rfl ?_ 
      refine pv_if_ne (q := 27) (tgt := 31) C dX7_rankInTable_24 (by decide) rfl (fun _ => ?_) (fun h => absurd h (by decide)) 
      refine pv_iload_n (q := 32) C dX7_rankInTable_31 rfl rfl rfl ?_ 
      refine pv_callSi (q := 35) C hKl (c_X7_isAmount l X D P _) tw_1060 mm_X7_isAmount ⟨rfl, rfl⟩ (by rw [hKR]; exact ⟨Nat.le_of_ble_eq_true rfl, Nat.le_of_ble_eq_true rfl⟩) (by rw [hKR]; exact ⟨Nat.le_of_ble_eq_true rfl, Nat.le_of_ble_eq_true rfl⟩) rfl rfl rfl (Nat.le_of_ble_eq_true rfl) dX7_rankInTable_32 rfl (fun r32 D32 P32 hp32 => ?_) 
      rcases hp32 with ⟨⟨hy32, rfl⟩ | ⟨hn32, rfl⟩, rfl, rfl⟩
      · refine pv_if_ne (q := 38) (tgt := 42) C dX7_rankInTable_35 (by decide) rfl (fun _ => ?_) (fun h => absurd h (by decide))
        refine pv_iconst (q := 43) (v := 0) C dX7_rankInTable_42 rfl (by decide) ?_ 
        refine pv_callVi (q := 46) C hKl (c_X7_refused0 l X D P ) tw_1069 k6 (by decide) rfl mm_X7_refused ⟨rfl, rfl⟩ (by rw [hKR]; exact ⟨Nat.le_of_ble_eq_true rfl, Nat.le_of_ble_eq_true rfl⟩) (by rw [hKR]; exact ⟨Nat.le_of_ble_eq_true rfl, Nat.le_of_ble_eq_true rfl⟩) rfl rfl rfl (Nat.le_of_ble_eq_true rfl) dX7_rankInTable_43 rfl (fun r43 D43 P43 hp43 => ?_) 
        obtain ⟨rfl, hR43, rfl⟩ := hp43
        refine pv_if_eq (q := 49) (tgt := 51) C dX7_rankInTable_46 (by decide) rfl (fun _ => ?_) (fun h => absurd h (by decide)) 
        refine pv_aload_n (q := 52) C dX7_rankInTable_51 rfl rfl rfl ?_ 
        refine pg_7_7 (q := 55) C k6 tw_1002 dX7_rankInTable_52 rfl (fun k52 => ?_) 
        refine pv_aload_n (q := 56) C dX7_rankInTable_55 rfl rfl rfl ?_ 
        refine pv_iload_n (q := 57) C dX7_rankInTable_56 rfl rfl rfl ?_ 
        refine pv_iload_n (q := 58) C dX7_rankInTable_57 rfl rfl rfl ?_ 
        refine pv_callVi (q := 61) C hKl (c_X7_layTable l X D43 P _ _ (by omega) (by omega) (D 7) (by subst_vars; rfl)) tw_1409 k6 (by decide) rfl mm_X7_layTable ⟨rfl, rfl⟩ (by rw [hKR]; exact ⟨Nat.le_of_ble_eq_true rfl, Nat.le_of_ble_eq_true rfl⟩) (by rw [hKR]; exact ⟨Nat.le_of_ble_eq_true rfl, Nat.le_of_ble_eq_true rfl⟩) rfl rfl rfl (Nat.le_of_ble_eq_true rfl) dX7_rankInTable_58 rfl (fun r58 D58 P58 hp58 => ?_) 
        obtain ⟨rfl, ⟨f58, hR58, hf58⟩, rfl⟩ := hp58
        have hle := TN_le (D 7) v g
        refine pv_iload_n (q := 62) C dX7_rankInTable_61 rfl rfl rfl ?_ 
        refine pv_callSi (q := 65) C hKl (c_X7_below l X D58 P _ _ k52 (by first | omega | exact vN_le _ _ _ _) _) tw_1395 mm_X7_below ⟨rfl, rfl⟩ (by rw [hKR]; exact ⟨Nat.le_of_ble_eq_true rfl, Nat.le_of_ble_eq_true rfl⟩) (by rw [hKR]; exact ⟨Nat.le_of_ble_eq_true rfl, Nat.le_of_ble_eq_true rfl⟩) rfl rfl rfl (Nat.le_of_ble_eq_true rfl) dX7_rankInTable_62 rfl (fun r62 D62 P62 hp62 => ?_) 
        obtain ⟨rfl, rfl, rfl⟩ := hp62
        exact pv_iret C (⟨⟨by unfold kRk; rw [if_pos ⟨hy1, hy8⟩, if_pos hy32, hR58, hR43]; rfl, fun _ => by rw [ix_n (by omega), ix_n (by omega), hR58, va_up_self]; exact congrArg nI (bl_cong hf58), (by subst_vars; repeat (first | exact Sx_rf _ | refine Sx.ar ?_ (by decide) | refine Sx.up ?_ (by decide)))⟩, rfl⟩) (by decide) (by decide) dX7_rankInTable_65
      · refine pv_if_ne (q := 38) (tgt := 42) C dX7_rankInTable_35 (by decide) rfl (fun h => absurd h (by decide)) (fun _ => ?_)
        refine pv_iconst (q := 39) (v := 2) C dX7_rankInTable_38 rfl (by decide) ?_ 
        refine pv_goto (tgt := 43) C dX7_rankInTable_39 (by decide) ?_ 
        refine pv_callVi (q := 46) C hKl (c_X7_refused l X D P _ (by decide)) tw_1069 k6 (by decide) rfl mm_X7_refused ⟨rfl, rfl⟩ (by rw [hKR]; exact ⟨Nat.le_of_ble_eq_true rfl, Nat.le_of_ble_eq_true rfl⟩) (by rw [hKR]; exact ⟨Nat.le_of_ble_eq_true rfl, Nat.le_of_ble_eq_true rfl⟩) rfl rfl rfl (Nat.le_of_ble_eq_true rfl) dX7_rankInTable_43 rfl (fun r43 D43 P43 hp43 => ?_) 
        obtain ⟨rfl, hR43, rfl⟩ := hp43
        refine pv_if_eq (q := 49) (tgt := 51) C dX7_rankInTable_46 (by decide) rfl (fun h => absurd h (by decide)) (fun _ => ?_) 
        refine pv_iconst (q := 50) (v := 0) C dX7_rankInTable_49 rfl (by decide) ?_ 
        exact pv_iret C (⟨⟨by unfold kRk; rw [if_pos ⟨hy1, hy8⟩, if_neg hn32, hR43]; rfl, fun z => absurd z (by unfold kRk; rw [if_pos ⟨hy1, hy8⟩, if_neg hn32]; decide), (by subst_vars; repeat (first | exact Sx_rf _ | refine Sx.ar ?_ (by decide) | refine Sx.up ?_ (by decide)))⟩, rfl⟩) (by decide) (by decide) dX7_rankInTable_50
    · refine pv_if_eq (q := 14) (tgt := 18) C dX7_rankInTable_11 (by decide) rfl (fun _ => ?_) (fun h => absurd h (by decide))
      refine pv_iconst (q := 19) (v := 0) C dX7_rankInTable_18 rfl (by decide) ?_ 
      refine pv_istore (q := 21) C dX7_rankInTable_19 rfl (Nat.le_of_ble_eq_true rfl) rfl ?_ 
      refine pv_aload_n (q := 22) C dX7_rankInTable_21 rfl rfl rfl ?_ 
      refine pv_iload (q := 24) C dX7_rankInTable_22 rfl rfl ?_ 
      refine pv_if_ne (q := 27) (tgt := 31) C dX7_rankInTable_24 (by decide) rfl (fun h => absurd h (by decide)) (fun _ => ?_) 
      refine pv_iconst (q := 28) (v := 1) C dX7_rankInTable_27 rfl (by decide) ?_ 
      refine pv_goto (tgt := 43) C dX7_rankInTable_28 (by decide) ?_ 
      refine pv_callVi (q := 46) C hKl (c_X7_refused l X D P _ (by decide)) tw_1069 k6 (by decide) rfl mm_X7_refused ⟨rfl, rfl⟩ (by rw [hKR]; exact ⟨Nat.le_of_ble_eq_true rfl, Nat.le_of_ble_eq_true rfl⟩) (by rw [hKR]; exact ⟨Nat.le_of_ble_eq_true rfl, Nat.le_of_ble_eq_true rfl⟩) rfl rfl rfl (Nat.le_of_ble_eq_true rfl) dX7_rankInTable_43 rfl (fun r43 D43 P43 hp43 => ?_) 
      obtain ⟨rfl, hR43, rfl⟩ := hp43
      refine pv_if_eq (q := 49) (tgt := 51) C dX7_rankInTable_46 (by decide) rfl (fun h => absurd h (by decide)) (fun _ => ?_) 
      refine pv_iconst (q := 50) (v := 0) C dX7_rankInTable_49 rfl (by decide) ?_ 
      exact pv_iret C (⟨⟨by unfold kRk; rw [if_neg (fun z => hn8 z.2), hR43]; rfl, fun z => absurd z (by unfold kRk; rw [if_neg (fun z => hn8 z.2)]; decide), (by subst_vars; repeat (first | exact Sx_rf _ | refine Sx.ar ?_ (by decide) | refine Sx.up ?_ (by decide)))⟩, rfl⟩) (by decide) (by decide) dX7_rankInTable_50
  · refine pv_if_eq (q := 7) (tgt := 18) C dX7_rankInTable_4 (by decide) rfl (fun _ => ?_) (fun h => absurd h (by decide))
    refine pv_iconst (q := 19) (v := 0) C dX7_rankInTable_18 rfl (by decide) ?_ 
    refine pv_istore (q := 21) C dX7_rankInTable_19 rfl (Nat.le_of_ble_eq_true rfl) rfl ?_ 
    refine pv_aload_n (q := 22) C dX7_rankInTable_21 rfl rfl rfl ?_ 
    refine pv_iload (q := 24) C dX7_rankInTable_22 rfl rfl ?_ 
    refine pv_if_ne (q := 27) (tgt := 31) C dX7_rankInTable_24 (by decide) rfl (fun h => absurd h (by decide)) (fun _ => ?_) 
    refine pv_iconst (q := 28) (v := 1) C dX7_rankInTable_27 rfl (by decide) ?_ 
    refine pv_goto (tgt := 43) C dX7_rankInTable_28 (by decide) ?_ 
    refine pv_callVi (q := 46) C hKl (c_X7_refused l X D P _ (by decide)) tw_1069 k6 (by decide) rfl mm_X7_refused ⟨rfl, rfl⟩ (by rw [hKR]; exact ⟨Nat.le_of_ble_eq_true rfl, Nat.le_of_ble_eq_true rfl⟩) (by rw [hKR]; exact ⟨Nat.le_of_ble_eq_true rfl, Nat.le_of_ble_eq_true rfl⟩) rfl rfl rfl (Nat.le_of_ble_eq_true rfl) dX7_rankInTable_43 rfl (fun r43 D43 P43 hp43 => ?_) 
    obtain ⟨rfl, hR43, rfl⟩ := hp43
    refine pv_if_eq (q := 49) (tgt := 51) C dX7_rankInTable_46 (by decide) rfl (fun h => absurd h (by decide)) (fun _ => ?_) 
    refine pv_iconst (q := 50) (v := 0) C dX7_rankInTable_49 rfl (by decide) ?_ 
    exact pv_iret C (⟨⟨by unfold kRk; rw [if_neg (fun z => hn1 z.1), hR43]; rfl, fun z => absurd z (by unfold kRk; rw [if_neg (fun z => hn1 z.1)]; decide), (by subst_vars; repeat (first | exact Sx_rf _ | refine Sx.ar ?_ (by decide) | refine Sx.up ?_ (by decide)))⟩, rfl⟩) (by decide) (by decide) dX7_rankInTable_50
set_option maxRecDepth 100000 in
set_option maxHeartbeats 4000000 in
theorem c_X7_medianInTable (l : Launch) (X : XT) (D : DT) (P : PT) (view group : Int32) : CG l X yX7_medianInTable (.code yX7_medianInTable cX7_medianInTable 4 (some .int) :: AW) ({ frames := 2, cells := 0, slots := 0, locals := 72 } : Room) [.ref (X.2.2 6), .int view, .int group] (qI X (fun r D' P' => rd (kAt (D 7) view group) (at0 (TF (D 7) (ix view) (ix group)) (TN (D 7) (ix view) (ix group)) ((TN (D 7) (ix view) (ix group) - 1) / 2)) D r D' ∧ P = P')) D P 0 0 := by
  refine cg_of (by decide +kernel) (Nat.le_of_ble_eq_true rfl) ?_
  intro K hKl hKR C
  refine PV_lv (lv' := [some (.ref (X.2.2 6)), some (.int view), some (.int group), none]) rfl ?_
  refine pv_iload_n (q := 1) C dX7_medianInTable_0 rfl rfl rfl ?_ 
  refine pv_callSi (q := 4) C hKl (c_X7_isView l X D P _) tw_1144 mm_X7_isView ⟨rfl, rfl⟩ (by rw [hKR]; exact ⟨Nat.le_of_ble_eq_true rfl, Nat.le_of_ble_eq_true rfl⟩) (by rw [hKR]; exact ⟨Nat.le_of_ble_eq_true rfl, Nat.le_of_ble_eq_true rfl⟩) rfl rfl rfl (Nat.le_of_ble_eq_true rfl) dX7_medianInTable_1 rfl (fun r1 D1 P1 hp1 => ?_) 
  rcases hp1 with ⟨⟨hy1, rfl⟩ | ⟨hn1, rfl⟩, rfl, rfl⟩
  · obtain ⟨v, hv, rfl⟩ := rg3 hy1
    refine pv_if_eq (q := 7) (tgt := 18) C dX7_medianInTable_4 (by decide) rfl (fun h => absurd h (by decide)) (fun _ => ?_) 
    refine pv_iload_n (q := 8) C dX7_medianInTable_7 rfl rfl rfl ?_ 
    refine pv_callSi (q := 11) C hKl (c_X7_isGroup l X D P _) tw_1056 mm_X7_isGroup ⟨rfl, rfl⟩ (by rw [hKR]; exact ⟨Nat.le_of_ble_eq_true rfl, Nat.le_of_ble_eq_true rfl⟩) (by rw [hKR]; exact ⟨Nat.le_of_ble_eq_true rfl, Nat.le_of_ble_eq_true rfl⟩) rfl rfl rfl (Nat.le_of_ble_eq_true rfl) dX7_medianInTable_8 rfl (fun r8 D8 P8 hp8 => ?_) 
    rcases hp8 with ⟨⟨hy8, rfl⟩ | ⟨hn8, rfl⟩, rfl, rfl⟩
    · obtain ⟨g, hg, rfl⟩ := rg4 hy8
      refine pv_if_eq (q := 14) (tgt := 18) C dX7_medianInTable_11 (by decide) rfl (fun h => absurd h (by decide)) (fun _ => ?_) 
      refine pv_iconst (q := 15) (v := 1) C dX7_medianInTable_14 rfl (by decide) ?_ 
      refine pv_goto (tgt := 19) C dX7_medianInTable_15 (by decide) ?_ 
      refine pv_istore_n (q := 20) C dX7_medianInTable_19 rfl rfl (Nat.le_of_ble_eq_true rfl) rfl ?_ 
      refine pv_aload_n (q := 21) C dX7_medianInTable_20 rfl rfl rfl ?_ 
      refine pv_iload_n (q := 22) C dX7_medianInTable_21 rfl rfl rfl ?_ 
      refine pv_if_ne (q := 25) (tgt := 29) C dX7_medianInTable_22 (by decide) rfl (fun _ => ?_) (fun h => absurd h (by decide)) 
      refine pv_aload_n (q := 30) C dX7_medianInTable_29 rfl rfl rfl ?_ 
      refine pv_iload_n (q := 31) C dX7_medianInTable_30 rfl rfl rfl ?_ 
      refine pv_iload_n (q := 32) C dX7_medianInTable_31 rfl rfl rfl ?_ 
      refine pv_callVi (q := 35) C hKl (c_X7_layTable l X D P _ _ (by omega) (by omega) (D 7) (by subst_vars; rfl)) tw_1409 k6 (by decide) rfl mm_X7_layTable ⟨rfl, rfl⟩ (by rw [hKR]; exact ⟨Nat.le_of_ble_eq_true rfl, Nat.le_of_ble_eq_true rfl⟩) (by rw [hKR]; exact ⟨Nat.le_of_ble_eq_true rfl, Nat.le_of_ble_eq_true rfl⟩) rfl rfl rfl (Nat.le_of_ble_eq_true rfl) dX7_medianInTable_32 rfl (fun r32 D32 P32 hp32 => ?_) 
      obtain ⟨rfl, ⟨f32, hR32, hf32⟩, rfl⟩ := hp32
      have hle := TN_le (D 7) v g
      refine pv_if_neN (q := 38) (tgt := 42) (a := (TN (D 7) v g)) (b := 0) C rfl rfl (by omega) (by omega) dX7_medianInTable_35 (by decide) rfl (fun c_35 => ?_) (fun c_35 => ?_) 
      · refine pv_iconst (q := 43) (v := 0) C dX7_medianInTable_42 rfl (by decide) ?_
        refine pv_callVi (q := 46) C hKl (c_X7_refused0 l X D32 P ) tw_1069 k6 (by decide) rfl mm_X7_refused ⟨rfl, rfl⟩ (by rw [hKR]; exact ⟨Nat.le_of_ble_eq_true rfl, Nat.le_of_ble_eq_true rfl⟩) (by rw [hKR]; exact ⟨Nat.le_of_ble_eq_true rfl, Nat.le_of_ble_eq_true rfl⟩) rfl rfl rfl (Nat.le_of_ble_eq_true rfl) dX7_medianInTable_43 rfl (fun r43 D43 P43 hp43 => ?_) 
        obtain ⟨rfl, hR43, rfl⟩ := hp43
        refine pv_if_eq (q := 49) (tgt := 51) C dX7_medianInTable_46 (by decide) rfl (fun _ => ?_) (fun h => absurd h (by decide)) 
        refine pv_aload_n (q := 52) C dX7_medianInTable_51 rfl rfl rfl ?_ 
        refine pg_7_7 (q := 55) C k6 tw_1002 dX7_medianInTable_52 rfl (fun k52 => ?_) 
        refine pv_aload_n (q := 56) C dX7_medianInTable_55 rfl rfl rfl ?_ 
        refine pv_iload_n (q := 57) C dX7_medianInTable_56 rfl rfl rfl ?_ 
        refine pv_iload_n (q := 58) C dX7_medianInTable_57 rfl rfl rfl ?_ 
        refine pv_callVi (q := 61) C hKl (c_X7_layTable l X D43 P _ _ (by omega) (by omega) (D 7) (by subst_vars; rfl)) tw_1409 k6 (by decide) rfl mm_X7_layTable ⟨rfl, rfl⟩ (by rw [hKR]; exact ⟨Nat.le_of_ble_eq_true rfl, Nat.le_of_ble_eq_true rfl⟩) (by rw [hKR]; exact ⟨Nat.le_of_ble_eq_true rfl, Nat.le_of_ble_eq_true rfl⟩) rfl rfl rfl (Nat.le_of_ble_eq_true rfl) dX7_medianInTable_58 rfl (fun r58 D58 P58 hp58 => ?_) 
        obtain ⟨rfl, ⟨f58, hR58, hf58⟩, rfl⟩ := hp58
        have hle := TN_le (D 7) v g
        refine pv_iconst (q := 62) (v := 1) C dX7_medianInTable_61 rfl (by decide) ?_ 
        refine pv_isubN (q := 63) (a := (TN (D 7) v g)) (b := 1) C rfl rfl (by omega) dX7_medianInTable_62 rfl ?_ 
        refine pv_iconst (q := 64) (v := 2) C dX7_medianInTable_63 rfl (by decide) ?_ 
        refine pv_idivN (q := 65) (a := ((TN (D 7) v g) - 1)) (b := 2) C rfl rfl (by omega) (by decide) (by decide) dX7_medianInTable_64 rfl ?_ 
        refine pv_iald (q := 66) (j := (((TN (D 7) v g) - 1) / 2)) C (iln_9 k52) rfl (by omega) dX7_medianInTable_65 rfl ?_ 
        exact pv_iret C (⟨⟨by unfold kAt; rw [if_pos ⟨hy1, hy8⟩, ix_n (by omega), ix_n (by omega), if_neg c_35, hR58, hR43]; rfl, fun _ => by unfold at0; rw [ix_n (by omega), ix_n (by omega), if_neg c_35, hR58, va_up_self]; exact hf58 _ (by omega), (by subst_vars; repeat (first | exact Sx_rf _ | refine Sx.ar ?_ (by decide) | refine Sx.up ?_ (by decide)))⟩, rfl⟩) (by decide) (by decide) dX7_medianInTable_66
      · refine pv_iconst (q := 39) (v := 2) C dX7_medianInTable_38 rfl (by decide) ?_
        refine pv_goto (tgt := 43) C dX7_medianInTable_39 (by decide) ?_ 
        refine pv_callVi (q := 46) C hKl (c_X7_refused l X D32 P _ (by decide)) tw_1069 k6 (by decide) rfl mm_X7_refused ⟨rfl, rfl⟩ (by rw [hKR]; exact ⟨Nat.le_of_ble_eq_true rfl, Nat.le_of_ble_eq_true rfl⟩) (by rw [hKR]; exact ⟨Nat.le_of_ble_eq_true rfl, Nat.le_of_ble_eq_true rfl⟩) rfl rfl rfl (Nat.le_of_ble_eq_true rfl) dX7_medianInTable_43 rfl (fun r43 D43 P43 hp43 => ?_) 
        obtain ⟨rfl, hR43, rfl⟩ := hp43
        refine pv_if_eq (q := 49) (tgt := 51) C dX7_medianInTable_46 (by decide) rfl (fun h => absurd h (by decide)) (fun _ => ?_) 
        refine pv_iconst (q := 50) (v := 0) C dX7_medianInTable_49 rfl (by decide) ?_ 
        exact pv_iret C (⟨⟨by unfold kAt; rw [if_pos ⟨hy1, hy8⟩, ix_n (by omega), ix_n (by omega), if_pos c_35, hR43]; rfl, fun z => absurd z (by unfold kAt; rw [if_pos ⟨hy1, hy8⟩, ix_n (by omega), ix_n (by omega), if_pos c_35]; decide), (by subst_vars; repeat (first | exact Sx_rf _ | refine Sx.ar ?_ (by decide) | refine Sx.up ?_ (by decide)))⟩, rfl⟩) (by decide) (by decide) dX7_medianInTable_50
    · refine pv_if_eq (q := 14) (tgt := 18) C dX7_medianInTable_11 (by decide) rfl (fun _ => ?_) (fun h => absurd h (by decide))
      refine pv_iconst (q := 19) (v := 0) C dX7_medianInTable_18 rfl (by decide) ?_ 
      refine pv_istore_n (q := 20) C dX7_medianInTable_19 rfl rfl (Nat.le_of_ble_eq_true rfl) rfl ?_ 
      refine pv_aload_n (q := 21) C dX7_medianInTable_20 rfl rfl rfl ?_ 
      refine pv_iload_n (q := 22) C dX7_medianInTable_21 rfl rfl rfl ?_ 
      refine pv_if_ne (q := 25) (tgt := 29) C dX7_medianInTable_22 (by decide) rfl (fun h => absurd h (by decide)) (fun _ => ?_) 
      refine pv_iconst (q := 26) (v := 1) C dX7_medianInTable_25 rfl (by decide) ?_ 
      refine pv_goto (tgt := 43) C dX7_medianInTable_26 (by decide) ?_ 
      refine pv_callVi (q := 46) C hKl (c_X7_refused l X D P _ (by decide)) tw_1069 k6 (by decide) rfl mm_X7_refused ⟨rfl, rfl⟩ (by rw [hKR]; exact ⟨Nat.le_of_ble_eq_true rfl, Nat.le_of_ble_eq_true rfl⟩) (by rw [hKR]; exact ⟨Nat.le_of_ble_eq_true rfl, Nat.le_of_ble_eq_true rfl⟩) rfl rfl rfl (Nat.le_of_ble_eq_true rfl) dX7_medianInTable_43 rfl (fun r43 D43 P43 hp43 => ?_) 
      obtain ⟨rfl, hR43, rfl⟩ := hp43
      refine pv_if_eq (q := 49) (tgt := 51) C dX7_medianInTable_46 (by decide) rfl (fun h => absurd h (by decide)) (fun _ => ?_) 
      refine pv_iconst (q := 50) (v := 0) C dX7_medianInTable_49 rfl (by decide) ?_ 
      exact pv_iret C (⟨⟨by unfold kAt; rw [if_neg (fun z => hn8 z.2), hR43]; rfl, fun z => absurd z (by unfold kAt; rw [if_neg (fun z => hn8 z.2)]; decide), (by subst_vars; repeat (first | exact Sx_rf _ | refine Sx.ar ?_ (by decide) | refine Sx.up ?_ (by decide)))⟩, rfl⟩) (by decide) (by decide) dX7_medianInTable_50
  · refine pv_if_eq (q := 7) (tgt := 18) C dX7_medianInTable_4 (by decide) rfl (fun _ => ?_) (fun h => absurd h (by decide))
    refine pv_iconst (q := 19) (v := 0) C dX7_medianInTable_18 rfl (by decide) ?_ 
    refine pv_istore_n (q := 20) C dX7_medianInTable_19 rfl rfl (Nat.le_of_ble_eq_true rfl) rfl ?_ 
    refine pv_aload_n (q := 21) C dX7_medianInTable_20 rfl rfl rfl ?_ 
    refine pv_iload_n (q := 22) C dX7_medianInTable_21 rfl rfl rfl ?_ 
    refine pv_if_ne (q := 25) (tgt := 29) C dX7_medianInTable_22 (by decide) rfl (fun h => absurd h (by decide)) (fun _ => ?_) 
    refine pv_iconst (q := 26) (v := 1) C dX7_medianInTable_25 rfl (by decide) ?_ 
    refine pv_goto (tgt := 43) C dX7_medianInTable_26 (by decide) ?_ 
    refine pv_callVi (q := 46) C hKl (c_X7_refused l X D P _ (by decide)) tw_1069 k6 (by decide) rfl mm_X7_refused ⟨rfl, rfl⟩ (by rw [hKR]; exact ⟨Nat.le_of_ble_eq_true rfl, Nat.le_of_ble_eq_true rfl⟩) (by rw [hKR]; exact ⟨Nat.le_of_ble_eq_true rfl, Nat.le_of_ble_eq_true rfl⟩) rfl rfl rfl (Nat.le_of_ble_eq_true rfl) dX7_medianInTable_43 rfl (fun r43 D43 P43 hp43 => ?_) 
    obtain ⟨rfl, hR43, rfl⟩ := hp43
    refine pv_if_eq (q := 49) (tgt := 51) C dX7_medianInTable_46 (by decide) rfl (fun h => absurd h (by decide)) (fun _ => ?_) 
    refine pv_iconst (q := 50) (v := 0) C dX7_medianInTable_49 rfl (by decide) ?_ 
    exact pv_iret C (⟨⟨by unfold kAt; rw [if_neg (fun z => hn1 z.1), hR43]; rfl, fun z => absurd z (by unfold kAt; rw [if_neg (fun z => hn1 z.1)]; decide), (by subst_vars; repeat (first | exact Sx_rf _ | refine Sx.ar ?_ (by decide) | refine Sx.up ?_ (by decide)))⟩, rfl⟩) (by decide) (by decide) dX7_medianInTable_50
