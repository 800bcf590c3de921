set_option maxRecDepth 100000 in
set_option maxHeartbeats 4000000 in
theorem c_X0_tellsLike (l : Launch) (X : XT) (D : DT) (P : PT) (h : Nat) (hk : kd h = 0) (n : Nat) (hn : D h 1 = nI n) (hn2 : n ≤ 16) (o : Nat) (ho : kd o = 0) (m : Nat) (hm : D o 1 = nI m) (hm2 : m ≤ 16) : CG l X yX0_tellsLike (.code yX0_tellsLike cX0_tellsLike 2 (some .boolean) :: AW) ({ frames := 2, cells := 0, slots := 0, locals := 72 } : Room) [.ref (X.2.2 h), .ref (X.2.2 o)] (qI X (fun r D' P' => ((like (D (h + 1)) n (D (o + 1)) m ∧ r = 1) ∨ (¬ like (D (h + 1)) n (D (o + 1)) m ∧ r = 0)) ∧ D = D' ∧ P = P')) D P 0 0 := by
  refine cg_of (by decide +kernel) (Nat.le_of_ble_eq_true rfl) ?_
  intro K hKl hKR C
  refine PV_lv (lv' := [some (.ref (X.2.2 h)), some (.ref (X.2.2 o))]) rfl ?_
  refine pv_aload_n (q := 1) C dX0_tellsLike_0 rfl rfl rfl ?_ 
  refine pg_0_1 (q := 4) C hk tw_89 dX0_tellsLike_1 rfl ?_ 
  rw [hn]
  refine pv_aload_n (q := 5) C dX0_tellsLike_4 rfl rfl rfl ?_ 
  refine pg_0_1 (q := 8) C ho tw_89 dX0_tellsLike_5 rfl ?_ 
  rw [hm]
  refine pv_icmp_neN (q := 11) (tgt := 70) (a := n) (b := m) C rfl rfl (by omega) (by omega) dX0_tellsLike_8 (by decide) rfl (fun c_8 => ?_) (fun c_8 => ?_) 
  · refine pv_iconst (q := 71) (v := 0) C dX0_tellsLike_70 rfl (by decide) ?_
    exact pv_zret C (Or.inl rfl) (⟨Or.inr ⟨fun q => c_8 q.1, rfl⟩, rfl, rfl⟩) (by decide) (by decide) dX0_tellsLike_71
  · refine pv_aload_n (q := 12) C dX0_tellsLike_11 rfl rfl rfl ?_
    refine pv_callVi (q := 15) C hKl (c_X0_total l X D P h hk n hn hn2) tw_511 hk (by decide) rfl mm_X0_total ⟨rfl, rfl⟩ (by rw [hKR]; exact ⟨Nat.le_of_ble_eq_true rfl, Nat.le_of_ble_eq_true rfl⟩) (by rw [hKR]; exact ⟨Nat.le_of_ble_eq_true rfl, Nat.le_of_ble_eq_true rfl⟩) rfl rfl rfl (Nat.le_of_ble_eq_true rfl) dX0_tellsLike_12 rfl (fun r12 D12 P12 hp12 => ?_) 
    obtain ⟨rfl, rfl, rfl⟩ := hp12
    refine pv_aload_n (q := 16) C dX0_tellsLike_15 rfl rfl rfl ?_ 
    refine pv_callVi (q := 19) C hKl (c_X0_total l X D P o ho m hm hm2) tw_511 ho (by decide) rfl mm_X0_total ⟨rfl, rfl⟩ (by rw [hKR]; exact ⟨Nat.le_of_ble_eq_true rfl, Nat.le_of_ble_eq_true rfl⟩) (by rw [hKR]; exact ⟨Nat.le_of_ble_eq_true rfl, Nat.le_of_ble_eq_true rfl⟩) rfl rfl rfl (Nat.le_of_ble_eq_true rfl) dX0_tellsLike_16 rfl (fun r16 D16 P16 hp16 => ?_) 
    obtain ⟨rfl, rfl, rfl⟩ := hp16
    refine pv_icmp_ne (q := 22) (tgt := 70) C dX0_tellsLike_19 (by decide) rfl (fun c_19 => ?_) (fun c_19 => ?_) 
    · refine pv_iconst (q := 71) (v := 0) C dX0_tellsLike_70 rfl (by decide) ?_
      exact pv_zret C (Or.inl rfl) (⟨Or.inr ⟨fun q => c_19 q.2.1, rfl⟩, rfl, rfl⟩) (by decide) (by decide) dX0_tellsLike_71
    · refine pv_aload_n (q := 23) C dX0_tellsLike_22 rfl rfl rfl ?_
      refine pv_callVi (q := 26) C hKl (c_X0_first l X D P h hk n hn hn2) tw_515 hk (by decide) rfl mm_X0_first ⟨rfl, rfl⟩ (by rw [hKR]; exact ⟨Nat.le_of_ble_eq_true rfl, Nat.le_of_ble_eq_true rfl⟩) (by rw [hKR]; exact ⟨Nat.le_of_ble_eq_true rfl, Nat.le_of_ble_eq_true rfl⟩) rfl rfl rfl (Nat.le_of_ble_eq_true rfl) dX0_tellsLike_23 rfl (fun r23 D23 P23 hp23 => ?_) 
      obtain ⟨rfl, rfl, rfl⟩ := hp23
      refine pv_aload_n (q := 27) C dX0_tellsLike_26 rfl rfl rfl ?_ 
      refine pv_callVi (q := 30) C hKl (c_X0_first l X D P o ho m hm hm2) tw_515 ho (by decide) rfl mm_X0_first ⟨rfl, rfl⟩ (by rw [hKR]; exact ⟨Nat.le_of_ble_eq_true rfl, Nat.le_of_ble_eq_true rfl⟩) (by rw [hKR]; exact ⟨Nat.le_of_ble_eq_true rfl, Nat.le_of_ble_eq_true rfl⟩) rfl rfl rfl (Nat.le_of_ble_eq_true rfl) dX0_tellsLike_27 rfl (fun r27 D27 P27 hp27 => ?_) 
      obtain ⟨rfl, rfl, rfl⟩ := hp27
      refine pv_icmp_ne (q := 33) (tgt := 70) C dX0_tellsLike_30 (by decide) rfl (fun c_30 => ?_) (fun c_30 => ?_) 
      · refine pv_iconst (q := 71) (v := 0) C dX0_tellsLike_70 rfl (by decide) ?_
        exact pv_zret C (Or.inl rfl) (⟨Or.inr ⟨fun q => c_30 (like_at q).1, rfl⟩, rfl, rfl⟩) (by decide) (by decide) dX0_tellsLike_71
      · refine pv_aload_n (q := 34) C dX0_tellsLike_33 rfl rfl rfl ?_
        refine pv_callVi (q := 37) C hKl (c_X0_last l X D P h hk n hn hn2) tw_523 hk (by decide) rfl mm_X0_last ⟨rfl, rfl⟩ (by rw [hKR]; exact ⟨Nat.le_of_ble_eq_true rfl, Nat.le_of_ble_eq_true rfl⟩) (by rw [hKR]; exact ⟨Nat.le_of_ble_eq_true rfl, Nat.le_of_ble_eq_true rfl⟩) rfl rfl rfl (Nat.le_of_ble_eq_true rfl) dX0_tellsLike_34 rfl (fun r34 D34 P34 hp34 => ?_) 
        obtain ⟨rfl, rfl, rfl⟩ := hp34
        refine pv_aload_n (q := 38) C dX0_tellsLike_37 rfl rfl rfl ?_ 
        refine pv_callVi (q := 41) C hKl (c_X0_last l X D P o ho m hm hm2) tw_523 ho (by decide) rfl mm_X0_last ⟨rfl, rfl⟩ (by rw [hKR]; exact ⟨Nat.le_of_ble_eq_true rfl, Nat.le_of_ble_eq_true rfl⟩) (by rw [hKR]; exact ⟨Nat.le_of_ble_eq_true rfl, Nat.le_of_ble_eq_true rfl⟩) rfl rfl rfl (Nat.le_of_ble_eq_true rfl) dX0_tellsLike_38 rfl (fun r38 D38 P38 hp38 => ?_) 
        obtain ⟨rfl, rfl, rfl⟩ := hp38
        refine pv_icmp_ne (q := 44) (tgt := 70) C dX0_tellsLike_41 (by decide) rfl (fun c_41 => ?_) (fun c_41 => ?_) 
        · refine pv_iconst (q := 71) (v := 0) C dX0_tellsLike_70 rfl (by decide) ?_
          exact pv_zret C (Or.inl rfl) (⟨Or.inr ⟨fun q => c_41 (like_at q).2.1, rfl⟩, rfl, rfl⟩) (by decide) (by decide) dX0_tellsLike_71
        · refine pv_aload_n (q := 45) C dX0_tellsLike_44 rfl rfl rfl ?_
          refine pv_callVi (q := 48) C hKl (c_X0_middle l X D P h hk n hn hn2) tw_527 hk (by decide) rfl mm_X0_middle ⟨rfl, rfl⟩ (by rw [hKR]; exact ⟨Nat.le_of_ble_eq_true rfl, Nat.le_of_ble_eq_true rfl⟩) (by rw [hKR]; exact ⟨Nat.le_of_ble_eq_true rfl, Nat.le_of_ble_eq_true rfl⟩) rfl rfl rfl (Nat.le_of_ble_eq_true rfl) dX0_tellsLike_45 rfl (fun r45 D45 P45 hp45 => ?_) 
          obtain ⟨rfl, rfl, rfl⟩ := hp45
          refine pv_aload_n (q := 49) C dX0_tellsLike_48 rfl rfl rfl ?_ 
          refine pv_callVi (q := 52) C hKl (c_X0_middle l X D P o ho m hm hm2) tw_527 ho (by decide) rfl mm_X0_middle ⟨rfl, rfl⟩ (by rw [hKR]; exact ⟨Nat.le_of_ble_eq_true rfl, Nat.le_of_ble_eq_true rfl⟩) (by rw [hKR]; exact ⟨Nat.le_of_ble_eq_true rfl, Nat.le_of_ble_eq_true rfl⟩) rfl rfl rfl (Nat.le_of_ble_eq_true rfl) dX0_tellsLike_49 rfl (fun r49 D49 P49 hp49 => ?_) 
          obtain ⟨rfl, rfl, rfl⟩ := hp49
          refine pv_icmp_ne (q := 55) (tgt := 70) C dX0_tellsLike_52 (by decide) rfl (fun c_52 => ?_) (fun c_52 => ?_) 
          · refine pv_iconst (q := 71) (v := 0) C dX0_tellsLike_70 rfl (by decide) ?_
            exact pv_zret C (Or.inl rfl) (⟨Or.inr ⟨fun q => c_52 (like_at q).2.2, rfl⟩, rfl, rfl⟩) (by decide) (by decide) dX0_tellsLike_71
          · refine pv_aload_n (q := 56) C dX0_tellsLike_55 rfl rfl rfl ?_
            refine pv_callVi (q := 59) C hKl (c_X0_countUnlike l X D P h hk n hn hn2) tw_531 hk (by decide) rfl mm_X0_countUnlike ⟨rfl, rfl⟩ (by rw [hKR]; exact ⟨Nat.le_of_ble_eq_true rfl, Nat.le_of_ble_eq_true rfl⟩) (by rw [hKR]; exact ⟨Nat.le_of_ble_eq_true rfl, Nat.le_of_ble_eq_true rfl⟩) rfl rfl rfl (Nat.le_of_ble_eq_true rfl) dX0_tellsLike_56 rfl (fun r56 D56 P56 hp56 => ?_) 
            obtain ⟨rfl, rfl, rfl⟩ := hp56
            refine pv_aload_n (q := 60) C dX0_tellsLike_59 rfl rfl rfl ?_ 
            refine pv_callVi (q := 63) C hKl (c_X0_countUnlike l X D P o ho m hm hm2) tw_531 ho (by decide) rfl mm_X0_countUnlike ⟨rfl, rfl⟩ (by rw [hKR]; exact ⟨Nat.le_of_ble_eq_true rfl, Nat.le_of_ble_eq_true rfl⟩) (by rw [hKR]; exact ⟨Nat.le_of_ble_eq_true rfl, Nat.le_of_ble_eq_true rfl⟩) rfl rfl rfl (Nat.le_of_ble_eq_true rfl) dX0_tellsLike_60 rfl (fun r60 D60 P60 hp60 => ?_) 
            obtain ⟨rfl, rfl, rfl⟩ := hp60
            refine pv_icmp_ne (q := 66) (tgt := 70) C dX0_tellsLike_63 (by decide) rfl (fun c_63 => ?_) (fun c_63 => ?_) 
            · refine pv_iconst (q := 71) (v := 0) C dX0_tellsLike_70 rfl (by decide) ?_
              exact pv_zret C (Or.inl rfl) (⟨Or.inr ⟨fun q => c_63 (by rw [q.2.2.1]), rfl⟩, rfl, rfl⟩) (by decide) (by decide) dX0_tellsLike_71
            · refine pv_iconst (q := 67) (v := 1) C dX0_tellsLike_66 rfl (by decide) ?_
              refine pv_goto (tgt := 71) C dX0_tellsLike_67 (by decide) ?_ 
              exact pv_zret C (Or.inr rfl) (⟨Or.inl ⟨like_mk c_8 c_19 ((nI_eq (by have := kn_le (D (h + 1)) n; omega) (by have := kn_le (D (o + 1)) m; omega)).mp c_63) c_30 c_41 c_52, rfl⟩, rfl, rfl⟩) (by decide) (by decide) dX0_tellsLike_71
set_option maxRecDepth 100000 in
set_option maxHeartbeats 4000000 in
theorem c_X0_takeFrom (l : Launch) (X : XT) (D : DT) (P : PT) (h t : Nat) (hk : kd h = 0) (ht : kd t = 4) (g lo : Int32) : CG l X yX0_takeFrom (.code yX0_takeFrom cX0_takeFrom 5 none :: AW) ({ frames := 1, cells := 0, slots := 0, locals := 36 } : Room) [.ref (X.2.2 h), .ref (X.2.2 t), .int g, .int lo] (qV X (fun D' P' => (∃ f k, k ≤ 16 ∧ D' = setA D h f (nI k) ∧ SL f k (fun a => tcn (D (t + 1)) (D (t + 2)) g lo a 16)) ∧ P = P')) D P 0 0 := by
  refine cg_of (by decide +kernel) (Nat.le_of_ble_eq_true rfl) ?_
  intro K hKl hKR C
  refine PV_lv (lv' := [some (.ref (X.2.2 h)), some (.ref (X.2.2 t)), some (.int g), some (.int lo), none]) rfl ?_
  have e1 : ∀ (f : Nat → Int32) (v : Int32), setA D h f v (t + 1) = D (t + 1) := fun f v => setA_o _ _ _ (kne (kd_4_0 ht) hk (by decide)) (fun q => kne ht hk (by decide) (by omega))
  have e2 : ∀ (f : Nat → Int32) (v : Int32), setA D h f v (t + 2) = D (t + 2) := fun f v => setA_o _ _ _ (kne (kd_4_1 ht) hk (by decide)) (fun q => kne (kd_4_0 ht) hk (by decide) (by omega))
  refine pv_aload_n (q := 1) C dX0_takeFrom_0 rfl rfl rfl ?_ 
  refine pv_iconst (q := 2) (v := 0) C dX0_takeFrom_1 rfl (by decide) ?_ 
  refine pp_0_1 (q := 5) C hk tw_89 dX0_takeFrom_2 rfl (fun D2 hD2 => ?_) 
  refine pv_iconst (q := 6) (v := 0) C dX0_takeFrom_5 rfl (by decide) ?_ 
  refine pv_istore (q := 8) C dX0_takeFrom_6 rfl (Nat.le_of_ble_eq_true rfl) rfl ?_ 
  have loop_8 : ∀ (nn : Nat) (p k : Nat) (f : Nat → Int32), (17 ≤ p + nn) → p ≤ 16 → k ≤ p → SL f k (fun a => tcn (D (t + 1)) (D (t + 2)) g lo a p) → PV K X (MK K X (qV X (fun D' P' => (∃ f k, k ≤ 16 ∧ D' = setA D h f (nI k) ∧ SL f k (fun a => tcn (D (t + 1)) (D (t + 2)) g lo a 16)) ∧ P = P')) 0 0) (0) (0) 8 [some (.ref (X.2.2 h)), some (.ref (X.2.2 t)), some (.int g), some (.int lo), some (.int (nI p))] [] (setA D h f (nI k)) P := by
    intro nn
    induction nn with
    | zero =>
      intro p k f hfuel hp hkp hsl
      exact absurd hfuel (by omega)
    | succ nn ih =>
      intro p k f hfuel hp hkp hsl
      refine pv_iload (q := 10) C dX0_takeFrom_8 rfl rfl ?_ 
      refine pv_bipush (q := 12) (v := 16) C dX0_takeFrom_10 rfl (by decide) ?_ 
      refine pv_icmp_geN (q := 15) (tgt := 54) (a := p) (b := 16) C rfl rfl (by omega) (by omega) dX0_takeFrom_12 (by decide) rfl (fun c_12 => ?_) (fun c_12 => ?_) 
      · exact pv_vret C (⟨⟨f, k, by omega, rfl, by rw [show p = 16 by omega] at hsl; exact hsl⟩, rfl⟩) (by decide) (by decide) dX0_takeFrom_54
      · refine pv_aload_n (q := 16) C dX0_takeFrom_15 rfl rfl rfl ?_
        refine pg_4_0 (q := 19) C ht tw_38 dX0_takeFrom_16 rfl (fun k16 => ?_) 
        refine pv_iload (q := 21) C dX0_takeFrom_19 rfl rfl ?_ 
        refine pv_iald (q := 22) (j := p) C (iln_9 k16) rfl (by omega) dX0_takeFrom_21 rfl ?_ 
        refine pv_iload_n (q := 23) C dX0_takeFrom_22 rfl rfl rfl ?_ 
        refine pv_icmp_ne (q := 26) (tgt := 48) C dX0_takeFrom_23 (by decide) rfl (fun c_23 => ?_) (fun c_23 => ?_) 
        · refine pv_iinc (q := 51) (v := nI (p + 1)) C dX0_takeFrom_48 rfl rfl (nI_add _ _) rfl ?_
          refine pv_goto (tgt := 8) C dX0_takeFrom_51 (by decide) ?_ 
          exact ih (p + 1) k f (by omega) (by omega) (by omega) (SL_cong hsl (fun _ _ => rfl) (fun a => tcn_no (fun q => by rw [e1] at c_23; exact c_23 q.1) a))
        · refine pv_aload_n (q := 27) C dX0_takeFrom_26 rfl rfl rfl ?_
          refine pg_4_1 (q := 30) C ht tw_43 dX0_takeFrom_27 rfl (fun k27 => ?_) 
          refine pv_iload (q := 32) C dX0_takeFrom_30 rfl rfl ?_ 
          refine pv_iald (q := 33) (j := p) C (iln_9 k27) rfl (by omega) dX0_takeFrom_32 rfl ?_ 
          refine pv_iload_n (q := 34) C dX0_takeFrom_33 rfl rfl rfl ?_ 
          refine pv_icmp_lt (q := 37) (tgt := 48) C dX0_takeFrom_34 (by decide) rfl (fun c_34 => ?_) (fun c_34 => ?_) 
          · refine pv_iinc (q := 51) (v := nI (p + 1)) C dX0_takeFrom_48 rfl rfl (nI_add _ _) rfl ?_
            refine pv_goto (tgt := 8) C dX0_takeFrom_51 (by decide) ?_ 
            exact ih (p + 1) k f (by omega) (by omega) (by omega) (SL_cong hsl (fun _ _ => rfl) (fun a => tcn_no (fun q => by rw [e2] at c_34; exact absurd q.2 (Int32.not_le.mpr c_34)) a))
          · refine pv_aload_n (q := 38) C dX0_takeFrom_37 rfl rfl rfl ?_
            refine pv_aload_n (q := 39) C dX0_takeFrom_38 rfl rfl rfl ?_ 
            refine pg_4_1 (q := 42) C ht tw_43 dX0_takeFrom_39 rfl (fun k39 => ?_) 
            refine pv_iload (q := 44) C dX0_takeFrom_42 rfl rfl ?_ 
            refine pv_iald (q := 45) (j := p) C (iln_9 k39) rfl (by omega) dX0_takeFrom_44 rfl ?_ 
            refine pv_callVv (q := 48) C hKl (c_X0_add l X (setA D h f (nI k)) P h hk k (setA_c _ _ _ _) (by omega) _) tw_503 hk (by decide) rfl mm_X0_add ⟨rfl, rfl⟩ (by rw [hKR]; exact ⟨Nat.le_of_ble_eq_true rfl, Nat.le_of_ble_eq_true rfl⟩) (by rw [hKR]; exact ⟨Nat.le_of_ble_eq_true rfl, Nat.le_of_ble_eq_true rfl⟩) rfl rfl rfl (Nat.le_of_ble_eq_true rfl) dX0_takeFrom_45 rfl (fun D45 P45 hp45 => ?_) 
            obtain ⟨hq, rfl⟩ := hp45
            rcases hq with ⟨hx, _⟩ | ⟨hx, f2, hf2, hi⟩
            · exact absurd hx (by omega)
            refine pv_iinc (q := 51) (v := nI (p + 1)) C dX0_takeFrom_48 rfl rfl (nI_add _ _) rfl ?_ 
            refine pv_goto (tgt := 8) C dX0_takeFrom_51 (by decide) ?_ 
            refine PV_D (hf2.trans (setA_setA _ _ _ _ _ _)) ?_
            exact ih (p + 1) (k + 1) f2 (by omega) (by omega) (by omega) (SL_cong (SL_ins hsl (by rw [setA_r, e2] at hi; exact hi)) (fun _ _ => rfl) (fun a => tcn_yes (by rw [e1] at c_23; exact c_23) (by rw [e2] at c_34; exact Int32.not_lt.mp c_34) a))
  refine PV_D (by rw [hD2]; unfold setA; rw [va_id]; rfl : _ = setA D h (D (h + 1)) (nI 0)) ?_
  exact loop_8 17 0 0 (D (h + 1)) (by omega) (by omega) (by omega) (SL_0 _)
set_option maxRecDepth 100000 in
set_option maxHeartbeats 4000000 in
theorem c_X4_freeAt (l : Launch) (X : XT) (D : DT) (P : PT) (t : Nat) (ht : kd t = 4) (x : Int32) : CG l X yX4_freeAt (.code yX4_freeAt cX4_freeAt 2 (some .boolean) :: AW) ({ frames := 0, cells := 0, slots := 0, locals := 0 } : Room) [.ref (X.2.2 t), .int x] (qI X (fun r D' P' => (((∃ p, p < 16 ∧ x = nI p ∧ D (t + 1) p ≠ -1) ∧ r = 0) ∨ ((∀ p, p < 16 → x = nI p → D (t + 1) p = -1) ∧ r = 1)) ∧ D = D' ∧ P = P')) D P 0 0 := by
  refine cg_of (by decide +kernel) (Nat.le_of_ble_eq_true rfl) ?_
  intro K hKl hKR C
  refine PV_lv (lv' := [some (.ref (X.2.2 t)), some (.int x)]) rfl ?_
  refine pv_iload_n (q := 1) C dX4_freeAt_0 rfl rfl rfl ?_ 
  refine pv_if_lt (q := 4) (tgt := 23) C dX4_freeAt_1 (by decide) rfl (fun c_1 => ?_) (fun c_1 => ?_) 
  · refine pv_iconst (q := 24) (v := 1) C dX4_freeAt_23 rfl (by decide) ?_
    refine pv_goto (tgt := 28) C dX4_freeAt_24 (by decide) ?_ 
    exact pv_zret C (Or.inr rfl) (⟨Or.inr ⟨fun p hp hx => by subst hx; exact absurd c_1 (nI_pos (by omega)), rfl⟩, rfl, rfl⟩) (by decide) (by decide) dX4_freeAt_28
  · refine pv_iload_n (q := 5) C dX4_freeAt_4 rfl rfl rfl ?_
    refine pv_aload_n (q := 6) C dX4_freeAt_5 rfl rfl rfl ?_ 
    refine pg_4_0 (q := 9) C ht tw_36 dX4_freeAt_6 rfl (fun k6 => ?_) 
    refine pv_alenI (q := 10) (n := 16) C (iln_9 k6) dX4_freeAt_9 rfl ?_ 
    refine pv_icmp_ge (q := 13) (tgt := 23) C dX4_freeAt_10 (by decide) rfl (fun c_10 => ?_) (fun c_10 => ?_) 
    · refine pv_iconst (q := 24) (v := 1) C dX4_freeAt_23 rfl (by decide) ?_
      refine pv_goto (tgt := 28) C dX4_freeAt_24 (by decide) ?_ 
      exact pv_zret C (Or.inr rfl) (⟨Or.inr ⟨fun p hp hx => by subst hx; exact absurd c_10 (nI_ge hp (by decide)), rfl⟩, rfl, rfl⟩) (by decide) (by decide) dX4_freeAt_28
    · obtain ⟨p, hp, hxp⟩ : ∃ p, p < 16 ∧ x = nI p := by
        rcases pk_ix x (n := 16) (by decide) with q | q | q
        · exact absurd q c_1
        · exact absurd q c_10
        · exact q
      refine pv_aload_n (q := 14) C dX4_freeAt_13 rfl rfl rfl ?_ 
      refine pg_4_0 (q := 17) C ht tw_36 dX4_freeAt_14 rfl (fun k14 => ?_) 
      refine pv_iload_n (q := 18) C dX4_freeAt_17 rfl rfl rfl ?_ 
      refine pv_iald (q := 19) (j := p) C (iln_9 k14) hxp hp dX4_freeAt_18 rfl ?_ 
      refine pv_iconst (q := 20) (v := (-1)) C dX4_freeAt_19 rfl (by decide) ?_ 
      refine pv_icmp_ne (q := 23) (tgt := 27) C dX4_freeAt_20 (by decide) rfl (fun c_20 => ?_) (fun c_20 => ?_) 
      · refine pv_iconst (q := 28) (v := 0) C dX4_freeAt_27 rfl (by decide) ?_
        exact pv_zret C (Or.inl rfl) (⟨Or.inl ⟨⟨p, hp, hxp, c_20⟩, rfl⟩, rfl, rfl⟩) (by decide) (by decide) dX4_freeAt_28
      · refine pv_iconst (q := 24) (v := 1) C dX4_freeAt_23 rfl (by decide) ?_
        refine pv_goto (tgt := 28) C dX4_freeAt_24 (by decide) ?_ 
        exact pv_zret C (Or.inr rfl) (⟨Or.inr ⟨fun p' hp' hx => by subst hx; rw [← (nI_eq (by omega) (by omega)).mp hxp] at c_20; exact c_20, rfl⟩, rfl, rfl⟩) (by decide) (by decide) dX4_freeAt_28
set_option maxRecDepth 100000 in
set_option maxHeartbeats 4000000 in
theorem c_X4_countRows (l : Launch) (X : XT) (D : DT) (P : PT) (t : Nat) (ht : kd t = 4) : CG l X yX4_countRows (.code yX4_countRows cX4_countRows 6 (some .int) :: AW) ({ frames := 0, cells := 0, slots := 0, locals := 0 } : Room) [.ref (X.2.2 t)] (qI X (fun r D' P' => r = nI (ct (fun p => decide (D (t + 1) p ≠ -1)) 16) ∧ D = D' ∧ P = P')) D P 0 0 := by
  refine cg_of (by decide +kernel) (Nat.le_of_ble_eq_true rfl) ?_
  intro K hKl hKR C
  refine PV_lv (lv' := [some (.ref (X.2.2 t)), none, none, none, none, none]) rfl ?_
  refine pv_iconst (q := 1) (v := 0) C dX4_countRows_0 rfl (by decide) ?_ 
  refine pv_istore_n (q := 2) C dX4_countRows_1 rfl rfl (Nat.le_of_ble_eq_true rfl) rfl ?_ 
  refine pv_aload_n (q := 3) C dX4_countRows_2 rfl rfl rfl ?_ 
  refine pg_4_0 (q := 6) C ht tw_36 dX4_countRows_3 rfl (fun k3 => ?_) 
  refine pv_astore_n (q := 7) C dX4_countRows_6 rfl rfl (Nat.le_of_ble_eq_true rfl) rfl ?_ 
  refine pv_aload_n (q := 8) C dX4_countRows_7 rfl rfl rfl ?_ 
  refine pv_alenI (q := 9) (n := 16) C (iln_9 k3) dX4_countRows_8 rfl ?_ 
  refine pv_istore_n (q := 10) C dX4_countRows_9 rfl rfl (Nat.le_of_ble_eq_true rfl) rfl ?_ 
  refine pv_iconst (q := 11) (v := 0) C dX4_countRows_10 rfl (by decide) ?_ 
  refine pv_istore (q := 13) C dX4_countRows_11 rfl (Nat.le_of_ble_eq_true rfl) rfl ?_ 
  have loop_13 : ∀ (nn : Nat) (i c : Nat), (17 ≤ i + nn) → i ≤ 16 → c = ct (fun p => decide (D (t + 1) p ≠ -1)) i → PV K X (MK K X (qI X (fun r D' P' => r = nI (ct (fun p => decide (D (t + 1) p ≠ -1)) 16) ∧ D = D' ∧ P = P')) 0 0) (0) (0) 13 [some (.ref (X.2.2 t)), some (.int (nI c)), some (.ref (X.2.2 (t + 1))), some (.int (nI 16)), some (.int (nI i)), none] [] D P := by
    intro nn
    induction nn with
    | zero =>
      intro i c hfuel hi hc
      exact absurd hfuel (by omega)
    | succ nn ih =>
      intro i c hfuel hi hc
      refine pv_iload (q := 15) C dX4_countRows_13 rfl rfl ?_ 
      refine pv_iload_n (q := 16) C dX4_countRows_15 rfl rfl rfl ?_ 
      refine pv_icmp_geN (q := 19) (tgt := 40) (a := i) (b := 16) C rfl rfl (by omega) (by omega) dX4_countRows_16 (by decide) rfl (fun c_16 => ?_) (fun c_16 => ?_) 
      · refine pv_iload_n (q := 41) C dX4_countRows_40 rfl rfl rfl ?_
        exact pv_iret C (⟨by rw [hc, show i = 16 by omega], rfl, rfl⟩) (by decide) (by decide) dX4_countRows_41
      · refine pv_aload_n (q := 20) C dX4_countRows_19 rfl rfl rfl ?_
        refine pv_iload (q := 22) C dX4_countRows_20 rfl rfl ?_ 
        refine pv_iald (q := 23) (j := i) C (iln_9 k3) rfl (by omega) dX4_countRows_22 rfl ?_ 
        refine pv_istore (q := 25) C dX4_countRows_23 rfl (Nat.le_of_ble_eq_true rfl) rfl ?_ 
        refine pv_iload (q := 27) C dX4_countRows_25 rfl rfl ?_ 
        refine pv_iconst (q := 28) (v := (-1)) C dX4_countRows_27 rfl (by decide) ?_ 
        refine pv_icmp_eq (q := 31) (tgt := 34) C dX4_countRows_28 (by decide) rfl (fun c_28 => ?_) (fun c_28 => ?_) 
        · refine pv_iinc (q := 37) (v := nI (i + 1)) C dX4_countRows_34 rfl rfl (nI_add _ _) rfl ?_
          refine pv_goto (tgt := 13) C dX4_countRows_37 (by decide) ?_ 
          exact PV_le (ih (i + 1) c (by omega) (by omega) (by rw [ct_s, if_neg (by simp [c_28]), hc]; rfl)) ⟨Or.inr rfl, Or.inr rfl, Or.inr rfl, Or.inr rfl, Or.inr rfl, Or.inl rfl, trivial⟩
        · refine pv_iinc (q := 34) (v := nI (c + 1)) C dX4_countRows_31 rfl rfl (nI_add _ _) rfl ?_
          refine pv_iinc (q := 37) (v := nI (i + 1)) C dX4_countRows_34 rfl rfl (nI_add _ _) rfl ?_ 
          refine pv_goto (tgt := 13) C dX4_countRows_37 (by decide) ?_ 
          exact PV_le (ih (i + 1) (c + 1) (by omega) (by omega) (by rw [ct_s, if_pos (by simp [c_28]), hc])) ⟨Or.inr rfl, Or.inr rfl, Or.inr rfl, Or.inr rfl, Or.inr rfl, Or.inl rfl, trivial⟩
  exact loop_13 17 0 0 (by omega) (by omega) rfl
set_option maxRecDepth 100000 in
set_option maxHeartbeats 4000000 in
theorem c_X4_copyFrom (l : Launch) (X : XT) (D : DT) (P : PT) (t o : Nat) (ht : kd t = 4) (ho : kd o = 4) : CG l X yX4_copyFrom (.code yX4_copyFrom cX4_copyFrom 2 none :: AW) ({ frames := 1, cells := 0, slots := 0, locals := 36 } : Room) [.ref (X.2.2 t), .ref (X.2.2 o)] (qV X (fun D' P' => D' = va_up (va_up D (t + 1) (fun j => if j < 16 then D (o + 1) j else D (t + 1) j)) (t + 2) (fun j => if j < 16 then D (o + 2) j else D (t + 2) j) ∧ P = P')) D P 0 0 := by
  refine cg_of (by decide +kernel) (Nat.le_of_ble_eq_true rfl) ?_
  intro K hKl hKR C
  refine PV_lv (lv' := [some (.ref (X.2.2 t)), some (.ref (X.2.2 o))]) rfl ?_
  refine pv_aload_n (q := 1) C dX4_copyFrom_0 rfl rfl rfl ?_ 
  refine pg_4_0 (q := 4) C ho tw_36 dX4_copyFrom_1 rfl (fun k1 => ?_) 
  refine pv_iconst (q := 5) (v := 0) C dX4_copyFrom_4 rfl (by decide) ?_ 
  refine pv_aload_n (q := 6) C dX4_copyFrom_5 rfl rfl rfl ?_ 
  refine pg_4_0 (q := 9) C ht tw_36 dX4_copyFrom_6 rfl (fun k6 => ?_) 
  refine pv_iconst (q := 10) (v := 0) C dX4_copyFrom_9 rfl (by decide) ?_ 
  refine pv_aload_n (q := 11) C dX4_copyFrom_10 rfl rfl rfl ?_ 
  refine pg_4_0 (q := 14) C ht tw_36 dX4_copyFrom_11 rfl (fun k11 => ?_) 
  refine pv_alenI (q := 15) (n := 16) C (iln_9 k11) dX4_copyFrom_14 rfl ?_ 
  refine pv_copy (q := 18) (N := 16) C tw_238 mm_copy (iln_9 k1) (iln_9 k6) rfl rfl rfl (by rw [hKR]; exact ⟨Nat.le_of_ble_eq_true rfl, Nat.le_of_ble_eq_true rfl⟩) rfl dX4_copyFrom_15 rfl (fun D15 hD15 => ?_) 
  refine pv_aload_n (q := 19) C dX4_copyFrom_18 rfl rfl rfl ?_ 
  refine pg_4_1 (q := 22) C ho tw_40 dX4_copyFrom_19 rfl (fun k19 => ?_) 
  refine pv_iconst (q := 23) (v := 0) C dX4_copyFrom_22 rfl (by decide) ?_ 
  refine pv_aload_n (q := 24) C dX4_copyFrom_23 rfl rfl rfl ?_ 
  refine pg_4_1 (q := 27) C ht tw_40 dX4_copyFrom_24 rfl (fun k24 => ?_) 
  refine pv_iconst (q := 28) (v := 0) C dX4_copyFrom_27 rfl (by decide) ?_ 
  refine pv_aload_n (q := 29) C dX4_copyFrom_28 rfl rfl rfl ?_ 
  refine pg_4_1 (q := 32) C ht tw_40 dX4_copyFrom_29 rfl (fun k29 => ?_) 
  refine pv_alenI (q := 33) (n := 16) C (iln_9 k29) dX4_copyFrom_32 rfl ?_ 
  refine pv_copy (q := 36) (N := 16) C tw_238 mm_copy (iln_9 k19) (iln_9 k24) rfl rfl rfl (by rw [hKR]; exact ⟨Nat.le_of_ble_eq_true rfl, Nat.le_of_ble_eq_true rfl⟩) rfl dX4_copyFrom_33 rfl (fun D33 hD33 => ?_) 
  exact pv_vret C (⟨by
      have n1 : o + 2 ≠ t + 1 := by obtain ⟨k, _, e⟩ := kd4_f ht; obtain ⟨k2, _, e2⟩ := kd4_f ho; omega
      rw [hD33, hD15, va_up_ne _ _ n1, va_up_ne _ _ (by omega : t + 2 ≠ t + 1)], rfl⟩) (by decide) (by decide) dX4_copyFrom_36
set_option maxRecDepth 100000 in
set_option maxHeartbeats 4000000 in
theorem c_X1_copyFrom (l : Launch) (X : XT) (D : DT) (P : PT) (h o : Nat) (hk : kd h = 1) (ho : kd o = 1) : CG l X yX1_copyFrom (.code yX1_copyFrom cX1_copyFrom 2 none :: AW) ({ frames := 1, cells := 0, slots := 0, locals := 36 } : Room) [.ref (X.2.2 h), .ref (X.2.2 o)] (qV X (fun D' P' => D' = up2 (va_up (va_up (va_up D (h + 1) (fun j => if j < 64 then D (o + 1) j else D (h + 1) j)) (h + 2) (fun j => if j < 64 then D (o + 2) j else D (h + 2) j)) (h + 3) (fun j => if j < 64 then D (o + 3) j else D (h + 3) j)) h 3 (D o 3) ∧ P = P')) D P 0 0 := by
  refine cg_of (by decide +kernel) (Nat.le_of_ble_eq_true rfl) ?_
  intro K hKl hKR C
  refine PV_lv (lv' := [some (.ref (X.2.2 h)), some (.ref (X.2.2 o))]) rfl ?_
  refine pv_aload_n (q := 1) C dX1_copyFrom_0 rfl rfl rfl ?_ 
  refine pg_1_0 (q := 4) C ho tw_56 dX1_copyFrom_1 rfl (fun k1 => ?_) 
  refine pv_iconst (q := 5) (v := 0) C dX1_copyFrom_4 rfl (by decide) ?_ 
  refine pv_aload_n (q := 6) C dX1_copyFrom_5 rfl rfl rfl ?_ 
  refine pg_1_0 (q := 9) C hk tw_56 dX1_copyFrom_6 rfl (fun k6 => ?_) 
  refine pv_iconst (q := 10) (v := 0) C dX1_copyFrom_9 rfl (by decide) ?_ 
  refine pv_aload_n (q := 11) C dX1_copyFrom_10 rfl rfl rfl ?_ 
  refine pg_1_0 (q := 14) C hk tw_56 dX1_copyFrom_11 rfl (fun k11 => ?_) 
  refine pv_alenI (q := 15) (n := 64) C (iln_14 k11) dX1_copyFrom_14 rfl ?_ 
  refine pv_copy (q := 18) (N := 64) C tw_245 mm_copy (iln_14 k1) (iln_14 k6) rfl rfl rfl (by rw [hKR]; exact ⟨Nat.le_of_ble_eq_true rfl, Nat.le_of_ble_eq_true rfl⟩) rfl dX1_copyFrom_15 rfl (fun D15 hD15 => ?_) 
  refine pv_aload_n (q := 19) C dX1_copyFrom_18 rfl rfl rfl ?_ 
  refine pg_1_1 (q := 22) C ho tw_58 dX1_copyFrom_19 rfl (fun k19 => ?_) 
  refine pv_iconst (q := 23) (v := 0) C dX1_copyFrom_22 rfl (by decide) ?_ 
  refine pv_aload_n (q := 24) C dX1_copyFrom_23 rfl rfl rfl ?_ 
  refine pg_1_1 (q := 27) C hk tw_58 dX1_copyFrom_24 rfl (fun k24 => ?_) 
  refine pv_iconst (q := 28) (v := 0) C dX1_copyFrom_27 rfl (by decide) ?_ 
  refine pv_aload_n (q := 29) C dX1_copyFrom_28 rfl rfl rfl ?_ 
  refine pg_1_1 (q := 32) C hk tw_58 dX1_copyFrom_29 rfl (fun k29 => ?_) 
  refine pv_alenI (q := 33) (n := 64) C (iln_14 k29) dX1_copyFrom_32 rfl ?_ 
  refine pv_copy (q := 36) (N := 64) C tw_245 mm_copy (iln_14 k19) (iln_14 k24) rfl rfl rfl (by rw [hKR]; exact ⟨Nat.le_of_ble_eq_true rfl, Nat.le_of_ble_eq_true rfl⟩) rfl dX1_copyFrom_33 rfl (fun D33 hD33 => ?_) 
  refine pv_aload_n (q := 37) C dX1_copyFrom_36 rfl rfl rfl ?_ 
  refine pg_1_2 (q := 40) C ho tw_60 dX1_copyFrom_37 rfl (fun k37 => ?_) 
  refine pv_iconst (q := 41) (v := 0) C dX1_copyFrom_40 rfl (by decide) ?_ 
  refine pv_aload_n (q := 42) C dX1_copyFrom_41 rfl rfl rfl ?_ 
  refine pg_1_2 (q := 45) C hk tw_60 dX1_copyFrom_42 rfl (fun k42 => ?_) 
  refine pv_iconst (q := 46) (v := 0) C dX1_copyFrom_45 rfl (by decide) ?_ 
  refine pv_aload_n (q := 47) C dX1_copyFrom_46 rfl rfl rfl ?_ 
  refine pg_1_2 (q := 50) C hk tw_60 dX1_copyFrom_47 rfl (fun k47 => ?_) 
  refine pv_alenI (q := 51) (n := 64) C (iln_14 k47) dX1_copyFrom_50 rfl ?_ 
  refine pv_copy (q := 54) (N := 64) C tw_245 mm_copy (iln_14 k37) (iln_14 k42) rfl rfl rfl (by rw [hKR]; exact ⟨Nat.le_of_ble_eq_true rfl, Nat.le_of_ble_eq_true rfl⟩) rfl dX1_copyFrom_51 rfl (fun D51 hD51 => ?_) 
  refine pv_aload_n (q := 55) C dX1_copyFrom_54 rfl rfl rfl ?_ 
  refine pv_aload_n (q := 56) C dX1_copyFrom_55 rfl rfl rfl ?_ 
  refine pg_1_3 (q := 59) C ho tw_62 dX1_copyFrom_56 rfl ?_ 
  refine pp_1_3 (q := 62) C hk tw_62 dX1_copyFrom_59 rfl (fun D59 hD59 => ?_) 
  exact pv_vret C (⟨by
      obtain ⟨k, _, e⟩ := kd1_f hk
      obtain ⟨k2, _, e2⟩ := kd1_f ho
      rw [hD59, hD51, hD33, hD15]
      simp only [va_up_ne _ _ (by omega : o + 2 ≠ h + 1), va_up_ne _ _ (by omega : o + 3 ≠ h + 1), va_up_ne _ _ (by omega : o + 3 ≠ h + 2), va_up_ne _ _ (by omega : o ≠ h + 1), va_up_ne _ _ (by omega : o ≠ h + 2), va_up_ne _ _ (by omega : o ≠ h + 3), va_up_ne _ _ (by omega : h + 2 ≠ h + 1), va_up_ne _ _ (by omega : h + 3 ≠ h + 2), va_up_ne _ _ (by omega : h + 3 ≠ h + 1)], rfl⟩) (by decide) (by decide) dX1_copyFrom_62
set_option maxRecDepth 100000 in
set_option maxHeartbeats 4000000 in
theorem c_X1_slotOf (l : Launch) (X : XT) (D : DT) (P : PT) (k : Nat) (hkk : k < 2 ^ 31) : CG l X yX1_slotOf (.code yX1_slotOf cX1_slotOf 1 (some .int) :: AW) ({ frames := 0, cells := 0, slots := 0, locals := 0 } : Room) [.int (nI k)] (qI X (fun r D' P' => r = nI (k % 64) ∧ D = D' ∧ P = P')) D P 0 0 := by
  refine cg_of (by decide +kernel) (Nat.le_of_ble_eq_true rfl) ?_
  intro K hKl hKR C
  refine PV_lv (lv' := [some (.int (nI k))]) rfl ?_
  refine pv_iload_n (q := 1) C dX1_slotOf_0 rfl rfl rfl ?_ 
  refine pv_bipush (q := 3) (v := 63) C dX1_slotOf_1 rfl (by decide) ?_ 
  refine pv_iand (q := 4) C dX1_slotOf_3 rfl ?_ 
  exact pv_iret C (⟨pk_andN (by omega) 6 rfl, rfl, rfl⟩) (by decide) (by decide) dX1_slotOf_4
set_option maxRecDepth 100000 in
set_option maxHeartbeats 4000000 in
theorem c_X1_write (l : Launch) (X : XT) (D : DT) (P : PT) (h : Nat) (hk : kd h = 1) (w : Nat) (hw : D h 3 = nI w) (hw2 : w < 2 ^ 30) (g a s : Int32) : CG l X yX1_write (.code yX1_write cX1_write 5 none :: AW) ({ frames := 1, cells := 0, slots := 0, locals := 36 } : Room) [.ref (X.2.2 h), .int g, .int a, .int s] (qV X (fun D' P' => D' = up2 (up2 (up2 (up2 D (h + 1) (w % 64) g) (h + 2) (w % 64) a) (h + 3) (w % 64) s) h 3 (nI (w + 1)) ∧ P = P')) D P 0 0 := by
  refine cg_of (by decide +kernel) (Nat.le_of_ble_eq_true rfl) ?_
  intro K hKl hKR C
  refine PV_lv (lv' := [some (.ref (X.2.2 h)), some (.int g), some (.int a), some (.int s), none]) rfl ?_
  refine pv_aload_n (q := 1) C dX1_write_0 rfl rfl rfl ?_ 
  refine pg_1_3 (q := 4) C hk tw_62 dX1_write_1 rfl ?_ 
  rw [hw]
  refine pv_callSi (q := 7) C hKl (c_X1_slotOf l X D P w (by omega)) tw_639 mm_X1_slotOf ⟨rfl, rfl⟩ (by rw [hKR]; exact ⟨Nat.le_of_ble_eq_true rfl, Nat.le_of_ble_eq_true rfl⟩) (by rw [hKR]; exact ⟨Nat.le_of_ble_eq_true rfl, Nat.le_of_ble_eq_true rfl⟩) rfl rfl rfl (Nat.le_of_ble_eq_true rfl) dX1_write_4 rfl (fun r4 D4 P4 hp4 => ?_) 
  obtain ⟨rfl, rfl, rfl⟩ := hp4
  refine pv_istore (q := 9) C dX1_write_7 rfl (Nat.le_of_ble_eq_true rfl) rfl ?_ 
  refine pv_aload_n (q := 10) C dX1_write_9 rfl rfl rfl ?_ 
  refine pg_1_0 (q := 13) C hk tw_56 dX1_write_10 rfl (fun k10 => ?_) 
  refine pv_iload (q := 15) C dX1_write_13 rfl rfl ?_ 
  refine pv_iload_n (q := 16) C dX1_write_15 rfl rfl rfl ?_ 
  refine pv_iast (q := 17) (j := (w % 64)) C (iln_14 k10) rfl (by omega) dX1_write_16 rfl (fun D16 hD16 => ?_) 
  refine pv_aload_n (q := 18) C dX1_write_17 rfl rfl rfl ?_ 
  refine pg_1_1 (q := 21) C hk tw_58 dX1_write_18 rfl (fun k18 => ?_) 
  refine pv_iload (q := 23) C dX1_write_21 rfl rfl ?_ 
  refine pv_iload_n (q := 24) C dX1_write_23 rfl rfl rfl ?_ 
  refine pv_iast (q := 25) (j := (w % 64)) C (iln_14 k18) rfl (by omega) dX1_write_24 rfl (fun D24 hD24 => ?_) 
  refine pv_aload_n (q := 26) C dX1_write_25 rfl rfl rfl ?_ 
  refine pg_1_2 (q := 29) C hk tw_60 dX1_write_26 rfl (fun k26 => ?_) 
  refine pv_iload (q := 31) C dX1_write_29 rfl rfl ?_ 
  refine pv_iload_n (q := 32) C dX1_write_31 rfl rfl rfl ?_ 
  refine pv_iast (q := 33) (j := (w % 64)) C (iln_14 k26) rfl (by omega) dX1_write_32 rfl (fun D32 hD32 => ?_) 
  refine pv_aload_n (q := 34) C dX1_write_33 rfl rfl rfl ?_ 
  refine pv_dup (q := 35) C dX1_write_34 rfl rfl ?_ 
  refine pg_1_3 (q := 38) C hk tw_62 dX1_write_35 rfl ?_ 
  rw [hD32, hD24, hD16, up2_ne _ _ _ (by omega), up2_ne _ _ _ (by omega), up2_ne _ _ _ (by omega), hw]
  refine pv_iconst (q := 39) (v := 1) C dX1_write_38 rfl (by decide) ?_ 
  refine pv_iaddN (q := 40) (a := w) (b := 1) C rfl rfl dX1_write_39 rfl ?_ 
  refine pp_1_3 (q := 43) C hk tw_62 dX1_write_40 rfl (fun D40 hD40 => ?_) 
  exact pv_vret C (⟨hD40, rfl⟩) (by decide) (by decide) dX1_write_43
set_option maxRecDepth 100000 in
set_option maxHeartbeats 4000000 in
theorem c_X5_beginNap (l : Launch) (X : XT) (D : DT) (P : PT) (h : Nat) (hk : kd h = 5) : CG l X yX5_beginNap (.code yX5_beginNap cX5_beginNap 1 none :: AW) ({ frames := 0, cells := 0, slots := 0, locals := 0 } : Room) [.ref (X.2.2 h)] (qV X (fun D' P' => D' = up2 (up2 D h 4 1) h 5 0 ∧ P = P')) D P 0 0 := by
  refine cg_of (by decide +kernel) (Nat.le_of_ble_eq_true rfl) ?_
  intro K hKl hKR C
  refine PV_lv (lv' := [some (.ref (X.2.2 h))]) rfl ?_
  refine pv_aload_n (q := 1) C dX5_beginNap_0 rfl rfl rfl ?_ 
  refine pv_iconst (q := 2) (v := 1) C dX5_beginNap_1 rfl (by decide) ?_ 
  refine pp_5_4 (q := 5) C hk tw_106 (Or.inr rfl) dX5_beginNap_2 rfl (fun D2 hD2 => ?_) 
  refine pv_aload_n (q := 6) C dX5_beginNap_5 rfl rfl rfl ?_ 
  refine pv_iconst (q := 7) (v := 0) C dX5_beginNap_6 rfl (by decide) ?_ 
  refine pp_5_5 (q := 10) C hk tw_109 dX5_beginNap_7 rfl (fun D7 hD7 => ?_) 
  exact pv_vret C (⟨by rw [hD7, hD2], rfl⟩) (by decide) (by decide) dX5_beginNap_10
set_option maxRecDepth 100000 in
set_option maxHeartbeats 4000000 in
theorem c_X5_endNap (l : Launch) (X : XT) (D : DT) (P : PT) (h : Nat) (hk : kd h = 5) : CG l X yX5_endNap (.code yX5_endNap cX5_endNap 1 none :: AW) ({ frames := 0, cells := 0, slots := 0, locals := 0 } : Room) [.ref (X.2.2 h)] (qV X (fun D' P' => D' = up2 (up2 D h 4 0) h 5 0 ∧ P = P')) D P 0 0 := by
  refine cg_of (by decide +kernel) (Nat.le_of_ble_eq_true rfl) ?_
  intro K hKl hKR C
  refine PV_lv (lv' := [some (.ref (X.2.2 h))]) rfl ?_
  refine pv_aload_n (q := 1) C dX5_endNap_0 rfl rfl rfl ?_ 
  refine pv_iconst (q := 2) (v := 0) C dX5_endNap_1 rfl (by decide) ?_ 
  refine pp_5_4 (q := 5) C hk tw_106 (Or.inl rfl) dX5_endNap_2 rfl (fun D2 hD2 => ?_) 
  refine pv_aload_n (q := 6) C dX5_endNap_5 rfl rfl rfl ?_ 
  refine pv_iconst (q := 7) (v := 0) C dX5_endNap_6 rfl (by decide) ?_ 
  refine pp_5_5 (q := 10) C hk tw_109 dX5_endNap_7 rfl (fun D7 hD7 => ?_) 
  exact pv_vret C (⟨by rw [hD7, hD2], rfl⟩) (by decide) (by decide) dX5_endNap_10
set_option maxRecDepth 100000 in
set_option maxHeartbeats 4000000 in
theorem c_X5_countWaiting (l : Launch) (X : XT) (D : DT) (P : PT) (h o : Nat) (hk : kd h = 5) (ho : kd o = 1) : CG l X yX5_countWaiting (.code yX5_countWaiting cX5_countWaiting 2 (some .int) :: AW) ({ frames := 0, cells := 0, slots := 0, locals := 0 } : Room) [.ref (X.2.2 h), .ref (X.2.2 o)] (qI X (fun r D' P' => r = D o 3 - D h 6 ∧ D = D' ∧ P = P')) D P 0 0 := by
  refine cg_of (by decide +kernel) (Nat.le_of_ble_eq_true rfl) ?_
  intro K hKl hKR C
  refine PV_lv (lv' := [some (.ref (X.2.2 h)), some (.ref (X.2.2 o))]) rfl ?_
  refine pv_aload_n (q := 1) C dX5_countWaiting_0 rfl rfl rfl ?_ 
  refine pg_1_3 (q := 4) C ho tw_63 dX5_countWaiting_1 rfl ?_ 
  refine pv_aload_n (q := 5) C dX5_countWaiting_4 rfl rfl rfl ?_ 
  refine pg_5_6 (q := 8) C hk tw_112 dX5_countWaiting_5 rfl ?_ 
  refine pv_isub (q := 9) C dX5_countWaiting_8 rfl ?_ 
  exact pv_iret C (⟨rfl, rfl, rfl⟩) (by decide) (by decide) dX5_countWaiting_9
set_option maxRecDepth 100000 in
set_option maxHeartbeats 4000000 in
theorem c_X5_countWaitingFrom (l : Launch) (X : XT) (D : DT) (P : PT) (h o : Nat) (hk : kd h = 5) (ho : kd o = 1) (x : Int32) (nx wr : Nat) (hnx : D h 6 = nI nx) (hwr : D o 3 = nI wr) (hle : nx ≤ wr) (hb : wr < 2 ^ 30) : CG l X yX5_countWaitingFrom (.code yX5_countWaitingFrom cX5_countWaitingFrom 5 (some .int) :: AW) ({ frames := 1, cells := 0, slots := 0, locals := 36 } : Room) [.ref (X.2.2 h), .ref (X.2.2 o), .int x] (qI X (fun r D' P' => r = nI (ct (fun i => decide (x ≤ D (o + 2) ((nx + i) % 64))) (wr - nx)) ∧ D = D' ∧ P = P')) D P 0 0 := by
  refine cg_of (by decide +kernel) (Nat.le_of_ble_eq_true rfl) ?_
  intro K hKl hKR C
  refine PV_lv (lv' := [some (.ref (X.2.2 h)), some (.ref (X.2.2 o)), some (.int x), none, none]) rfl ?_
  refine pv_iconst (q := 1) (v := 0) C dX5_countWaitingFrom_0 rfl (by decide) ?_ 
  refine pv_istore_n (q := 2) C dX5_countWaitingFrom_1 rfl rfl (Nat.le_of_ble_eq_true rfl) rfl ?_ 
  refine pv_aload_n (q := 3) C dX5_countWaitingFrom_2 rfl rfl rfl ?_ 
  refine pg_5_6 (q := 6) C hk tw_112 dX5_countWaitingFrom_3 rfl ?_ 
  rw [hnx]
  refine pv_istore (q := 8) C dX5_countWaitingFrom_6 rfl (Nat.le_of_ble_eq_true rfl) rfl ?_ 
  have loop_8 : ∀ (nn : Nat) (i c : Nat), (wr - nx + 1 ≤ i + nn) → nx + i ≤ wr → c = ct (fun i => decide (x ≤ D (o + 2) ((nx + i) % 64))) i → PV K X (MK K X (qI X (fun r D' P' => r = nI (ct (fun i => decide (x ≤ D (o + 2) ((nx + i) % 64))) (wr - nx)) ∧ D = D' ∧ P = P')) 0 0) (0) (0) 8 [some (.ref (X.2.2 h)), some (.ref (X.2.2 o)), some (.int x), some (.int (nI c)), some (.int (nI (nx + i)))] [] D P := by
    intro nn
    induction nn with
    | zero =>
      intro i c hfuel hi hc
      exact absurd hfuel (by omega)
    | succ nn ih =>
      intro i c hfuel hi hc
      refine pv_iload (q := 10) C dX5_countWaitingFrom_8 rfl rfl ?_ 
      refine pv_aload_n (q := 11) C dX5_countWaitingFrom_10 rfl rfl rfl ?_ 
      refine pg_1_3 (q := 14) C ho tw_63 dX5_countWaitingFrom_11 rfl ?_ 
      rw [hwr]
      refine pv_icmp_geN (q := 17) (tgt := 40) (a := (nx + i)) (b := wr) C rfl rfl (by omega) (by omega) dX5_countWaitingFrom_14 (by decide) rfl (fun c_14 => ?_) (fun c_14 => ?_) 
      · refine pv_iload_n (q := 41) C dX5_countWaitingFrom_40 rfl rfl rfl ?_
        exact pv_iret C (⟨by rw [hc, show i = wr - nx by omega], rfl, rfl⟩) (by decide) (by decide) dX5_countWaitingFrom_41
      · refine pv_aload_n (q := 18) C dX5_countWaitingFrom_17 rfl rfl rfl ?_
        refine pg_1_1 (q := 21) C ho tw_59 dX5_countWaitingFrom_18 rfl (fun k18 => ?_) 
        refine pv_iload (q := 23) C dX5_countWaitingFrom_21 rfl rfl ?_ 
        refine pv_callSi (q := 26) C hKl (c_X1_slotOf l X D P (nx + i) (by omega)) tw_480 mm_X1_slotOf ⟨rfl, rfl⟩ (by rw [hKR]; exact ⟨Nat.le_of_ble_eq_true rfl, Nat.le_of_ble_eq_true rfl⟩) (by rw [hKR]; exact ⟨Nat.le_of_ble_eq_true rfl, Nat.le_of_ble_eq_true rfl⟩) rfl rfl rfl (Nat.le_of_ble_eq_true rfl) dX5_countWaitingFrom_23 rfl (fun r23 D23 P23 hp23 => ?_) 
        obtain ⟨rfl, rfl, rfl⟩ := hp23
        refine pv_iald (q := 27) (j := ((nx + i) % 64)) C (iln_14 k18) rfl (by omega) dX5_countWaitingFrom_26 rfl ?_ 
        refine pv_iload_n (q := 28) C dX5_countWaitingFrom_27 rfl rfl rfl ?_ 
        refine pv_icmp_lt (q := 31) (tgt := 34) C dX5_countWaitingFrom_28 (by decide) rfl (fun c_28 => ?_) (fun c_28 => ?_) 
        · refine pv_iinc (q := 37) (v := nI ((nx + i) + 1)) C dX5_countWaitingFrom_34 rfl rfl (nI_add _ _) rfl ?_
          refine pv_goto (tgt := 8) C dX5_countWaitingFrom_37 (by decide) ?_ 
          exact ih (i + 1) c (by omega) (by omega) (by rw [ct_s, if_neg (by simpa using Int32.not_le.mpr c_28), hc]; rfl)
        · refine pv_iinc (q := 34) (v := nI (c + 1)) C dX5_countWaitingFrom_31 rfl rfl (nI_add _ _) rfl ?_
          refine pv_iinc (q := 37) (v := nI ((nx + i) + 1)) C dX5_countWaitingFrom_34 rfl rfl (nI_add _ _) rfl ?_ 
          refine pv_goto (tgt := 8) C dX5_countWaitingFrom_37 (by decide) ?_ 
          exact ih (i + 1) (c + 1) (by omega) (by omega) (by rw [ct_s, if_pos (by simpa using Int32.not_lt.mp c_28), hc])
  exact loop_8 (wr - nx + 1) 0 0 (by omega) (by omega) rfl
