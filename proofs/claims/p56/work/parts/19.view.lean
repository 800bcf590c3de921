set_option maxRecDepth 100000 in
set_option maxHeartbeats 4000000 in
theorem c_X5_seeWaiting (l : Launch) (X : XT) (D : DT) (P : PT) (h o : Nat) (hk : kd h = 5) (ho : kd o = 1) (nx wr : Nat) (hnx : D h 6 = nI nx) (hwr : D o 3 = nI wr) (hle : nx ≤ wr) (hb : wr < 2 ^ 30) (G A : Nat → Nat → Int32) (hls : ∀ d, nx ≤ d → d < wr → LSt D o G A d) (hsv : SV D h (G nx) (A nx)) : CG l X yX5_seeWaiting (.code yX5_seeWaiting cX5_seeWaiting 6 none :: AW) ({ frames := 1, cells := 0, slots := 0, locals := 36 } : Room) [.ref (X.2.2 h), .ref (X.2.2 o)] (qV X (fun D' P' => (∀ i, (i < h ∨ h + 10 ≤ i) → D' i = D i) ∧ (∀ k, k ≠ 6 → D' h k = D h k) ∧ D' h 6 = nI wr ∧ SV D' h (G wr) (A wr) ∧ P = P')) D P 0 0 := by
  refine cg_of (by decide +kernel) (Nat.le_of_ble_eq_true rfl) ?_
  intro K hKl hKR C
  refine PV_lv (lv' := [some (.ref (X.2.2 h)), some (.ref (X.2.2 o)), none, none, none, none]) rfl ?_
  have d1 : o < h ∨ h + 10 ≤ o := by
    obtain ⟨k1, b1, e1⟩ := kd1_f ho
    rcases kd5_f hk with e | ⟨k, v, b2, b3, e⟩
    · omega
    · rcases Nat.lt_trichotomy k k1 with q | q | q <;> omega
  have d2 : (o + 1 < h ∨ h + 10 ≤ o + 1) ∧ (o + 2 < h ∨ h + 10 ≤ o + 2) ∧ (o + 3 < h ∨ h + 10 ≤ o + 3) := by
    obtain ⟨k1, b1, e1⟩ := kd1_f ho
    rcases kd5_f hk with e | ⟨k, v, b2, b3, e⟩
    · omega
    · rcases Nat.lt_trichotomy k k1 with q | q | q <;> omega
  refine pv_aload_n (q := 1) C dX5_seeWaiting_0 rfl rfl rfl ?_ 
  refine pg_5_6 (q := 4) C hk tw_112 dX5_seeWaiting_1 rfl ?_ 
  rw [hnx]
  refine pv_istore_n (q := 5) C dX5_seeWaiting_4 rfl rfl (Nat.le_of_ble_eq_true rfl) rfl ?_ 
  have loop_5 : ∀ (nn : Nat) (d : Nat) (D1 : DT), (wr + 1 ≤ d + nn) → nx ≤ d → d ≤ wr → (∀ i, (i < h + 2 ∨ h + 10 ≤ i) → D1 i = D i) → SV D1 h (G d) (A d) → PV K X (MK K X (qV X (fun D' P' => (∀ i, (i < h ∨ h + 10 ≤ i) → D' i = D i) ∧ (∀ k, k ≠ 6 → D' h k = D h k) ∧ D' h 6 = nI wr ∧ SV D' h (G wr) (A wr) ∧ P = P')) 0 0) (0) (0) 5 [some (.ref (X.2.2 h)), some (.ref (X.2.2 o)), some (.int (nI d)), none, none, none] [] D1 P := by
    intro nn
    induction nn with
    | zero =>
      intro d D1 hfuel hd1 hd2 hsame hsv1
      exact absurd hfuel (by omega)
    | succ nn ih =>
      intro d D1 hfuel hd1 hd2 hsame hsv1
      refine pv_iload_n (q := 6) C dX5_seeWaiting_5 rfl rfl rfl ?_ 
      refine pv_aload_n (q := 7) C dX5_seeWaiting_6 rfl rfl rfl ?_ 
      refine pg_1_3 (q := 10) C ho tw_63 dX5_seeWaiting_7 rfl ?_ 
      rw [hsame o (by omega), hwr]
      refine pv_icmp_geN (q := 13) (tgt := 97) (a := d) (b := wr) C rfl rfl (by omega) (by omega) dX5_seeWaiting_10 (by decide) rfl (fun c_10 => ?_) (fun c_10 => ?_) 
      · refine pv_aload_n (q := 98) C dX5_seeWaiting_97 rfl rfl rfl ?_
        refine pv_aload_n (q := 99) C dX5_seeWaiting_98 rfl rfl rfl ?_ 
        refine pg_1_3 (q := 102) C ho tw_63 dX5_seeWaiting_99 rfl ?_ 
        rw [hsame o (by omega), hwr]
        refine pp_5_6 (q := 105) C hk tw_112 dX5_seeWaiting_102 rfl (fun D102 hD102 => ?_) 
        exact pv_vret C (by
            have e : d = wr := by omega
            subst e
            refine ⟨fun i hi => ?_, fun k hk6 => ?_, ?_, ?_, rfl⟩
            · rw [hD102, up2_ne _ _ _ (by omega)]; exact hsame i (by omega)
            · rw [hD102, up2_nk _ _ _ hk6, hsame h (by omega)]
            · rw [hD102, up2_self]
            · exact SV_cong hsv1 (fun i a b k _ => by rw [hD102, up2_ne _ _ _ (by omega)]) (by rw [hD102, up2_nk _ _ _ (by decide)]) (fun _ _ => rfl) (fun _ _ _ => rfl)) (by decide) (by decide) dX5_seeWaiting_105
      · obtain ⟨p, hp, hoth, g, hg, hgr, hst⟩ := hls d hd1 (by omega)
        refine pv_iload_n (q := 14) C dX5_seeWaiting_13 rfl rfl rfl ?_ 
        refine pv_callSi (q := 17) C hKl (c_X1_slotOf l X D1 P d (by omega)) tw_480 mm_X1_slotOf ⟨rfl, rfl⟩ (by rw [hKR]; exact ⟨Nat.le_of_ble_eq_true rfl, Nat.le_of_ble_eq_true rfl⟩) (by rw [hKR]; exact ⟨Nat.le_of_ble_eq_true rfl, Nat.le_of_ble_eq_true rfl⟩) rfl rfl rfl (Nat.le_of_ble_eq_true rfl) dX5_seeWaiting_14 rfl (fun r14 D14 P14 hp14 => ?_) 
        obtain ⟨rfl, rfl, rfl⟩ := hp14
        refine pv_istore_n (q := 18) C dX5_seeWaiting_17 rfl rfl (Nat.le_of_ble_eq_true rfl) rfl ?_ 
        refine pv_aload_n (q := 19) C dX5_seeWaiting_18 rfl rfl rfl ?_ 
        refine pg_1_0 (q := 22) C ho tw_57 dX5_seeWaiting_19 rfl (fun k19 => ?_) 
        refine pv_iload_n (q := 23) C dX5_seeWaiting_22 rfl rfl rfl ?_ 
        refine pv_iald (q := 24) (j := (d % 64)) C (iln_14 k19) rfl (by omega) dX5_seeWaiting_23 rfl ?_ 
        rw [hsame (o + 1) (by omega), hgr]
        refine pv_istore (q := 26) C dX5_seeWaiting_24 rfl (Nat.le_of_ble_eq_true rfl) rfl ?_ 
        refine pv_aload_n (q := 27) C dX5_seeWaiting_26 rfl rfl rfl ?_ 
        refine pg_1_1 (q := 30) C ho tw_59 dX5_seeWaiting_27 rfl (fun k27 => ?_) 
        refine pv_iload_n (q := 31) C dX5_seeWaiting_30 rfl rfl rfl ?_ 
        refine pv_iald (q := 32) (j := (d % 64)) C (iln_14 k27) rfl (by omega) dX5_seeWaiting_31 rfl ?_ 
        rw [hsame (o + 2) (by omega)]
        refine pv_istore (q := 34) C dX5_seeWaiting_32 rfl (Nat.le_of_ble_eq_true rfl) rfl ?_ 
        refine pv_iload (q := 36) C dX5_seeWaiting_34 rfl rfl ?_ 
        refine pv_aload_n (q := 37) C dX5_seeWaiting_36 rfl rfl rfl ?_ 
        refine pg_5_1 (q := 40) C hk tw_98 dX5_seeWaiting_37 rfl ?_ 
        rw [hsame h (by omega)]
        refine pv_icmp_lt (q := 43) (tgt := 91) C dX5_seeWaiting_40 (by decide) rfl (fun c_40 => ?_) (fun c_40 => ?_) 
        · refine pv_iinc (q := 94) (v := nI (d + 1)) C dX5_seeWaiting_91 rfl rfl (nI_add _ _) rfl ?_
          refine pv_goto (tgt := 5) C dX5_seeWaiting_94 (by decide) ?_ 
          exact PV_le (ih (d + 1) D1 (by omega) (by omega) (by omega) hsame (SV_low (g := g) (x := D (o + 2) (d % 64)) hsv1 hp hoth (by rw [hsame h (by omega)]; exact c_40) (hst.elim (fun z => Or.inl z.2) (fun z => Or.inr z.2)))) ⟨Or.inr rfl, Or.inr rfl, Or.inr rfl, Or.inl rfl, Or.inl rfl, Or.inl rfl, trivial⟩
        · refine pv_iload (q := 45) C dX5_seeWaiting_43 rfl rfl ?_
          refine pv_if_ltN (q := 48) (tgt := 91) (a := g) (b := 0) C rfl rfl (by omega) (by omega) dX5_seeWaiting_45 (by decide) rfl (fun c_45 => absurd c_45 (by omega)) (fun c_45 => ?_) 
          refine pv_iload (q := 50) C dX5_seeWaiting_48 rfl rfl ?_ 
          refine pv_iconst (q := 51) (v := 4) C dX5_seeWaiting_50 rfl (by decide) ?_ 
          refine pv_icmp_geN (q := 54) (tgt := 91) (a := g) (b := 4) C rfl rfl (by omega) (by omega) dX5_seeWaiting_51 (by decide) rfl (fun c_51 => absurd c_51 (by omega)) (fun c_51 => ?_) 
          have hlo : D1 h 1 ≤ D (o + 2) (d % 64) := by rw [hsame h (by omega)]; exact Int32.not_lt.mp c_40
          obtain ⟨n, hn, hcnt, hsl⟩ := hsv1 g hg
          refine pv_aload_n (q := 55) C dX5_seeWaiting_54 rfl rfl rfl ?_ 
          refine pg_1_2 (q := 58) C ho tw_61 dX5_seeWaiting_55 rfl (fun k55 => ?_) 
          refine pv_iload_n (q := 59) C dX5_seeWaiting_58 rfl rfl rfl ?_ 
          refine pv_iald (q := 60) (j := (d % 64)) C (iln_14 k55) rfl (by omega) dX5_seeWaiting_59 rfl ?_ 
          rw [hsame (o + 3) (by omega)]
          refine pv_iconst (q := 61) (v := 1) C dX5_seeWaiting_60 rfl (by decide) ?_ 
          refine pv_icmp_ne (q := 64) (tgt := 79) C dX5_seeWaiting_61 (by decide) rfl (fun c_61 => ?_) (fun c_61 => ?_) 
          · obtain ⟨s1, s2, s3, s4⟩ := hst.resolve_left (fun z => c_61 z.1)
            refine pv_aload_n (q := 80) C dX5_seeWaiting_79 rfl rfl rfl ?_ 
            refine pg_5_0 (q := 83) C hk tw_96 dX5_seeWaiting_80 rfl (fun k80 => ?_) 
            refine pv_iload (q := 85) C dX5_seeWaiting_83 rfl rfl ?_ 
            refine pv_aald_10 (q := 86) (j := g) C k80 rfl (by omega) dX5_seeWaiting_85 rfl (fun k85 => ?_) 
            refine pv_iload (q := 88) C dX5_seeWaiting_86 rfl rfl ?_ 
            refine pv_callVv (q := 91) C hKl (c_X0_remove l X D1 P (h + 1 + 1 + 2 * g) k85 n hcnt hn _) tw_545 k85 (by decide) rfl mm_X0_remove ⟨rfl, rfl⟩ (by rw [hKR]; exact ⟨Nat.le_of_ble_eq_true rfl, Nat.le_of_ble_eq_true rfl⟩) (by rw [hKR]; exact ⟨Nat.le_of_ble_eq_true rfl, Nat.le_of_ble_eq_true rfl⟩) rfl rfl rfl (Nat.le_of_ble_eq_true rfl) dX5_seeWaiting_88 rfl (fun D88 P88 hp88 => ?_) 
            obtain ⟨hq, rfl⟩ := hp88
            rcases hq with ⟨hx, _⟩ | ⟨k2, f2, hk2, hD2, hdel⟩
            · obtain ⟨k3, q1, q2⟩ := SV_has hp s2 s3 hlo hsl
              exact absurd q2 (hx k3 q1)
            refine pv_iinc (q := 94) (v := nI (d + 1)) C dX5_seeWaiting_91 rfl rfl (nI_add _ _) rfl ?_ 
            refine pv_goto (tgt := 5) C dX5_seeWaiting_94 (by decide) ?_ 
            exact PV_le (ih (d + 1) D88 (by omega) (by omega) (by omega) (fun i hi => by rw [hD2, setA_o _ _ _ (by omega) (by omega)]; exact hsame i hi) (by rw [hD2]; exact SV_goes hsv1 hp hoth hg hlo s2 s3 s4 hn hsl hk2 hdel)) ⟨Or.inr rfl, Or.inr rfl, Or.inr rfl, Or.inl rfl, Or.inl rfl, Or.inl rfl, trivial⟩
          · obtain ⟨s1, s2, s3, s4⟩ := hst.resolve_right (fun z => absurd (c_61.symm.trans z.1) (by decide))
            have hroom : n < 16 := SV_room hp s2 hg hsl
            refine pv_aload_n (q := 65) C dX5_seeWaiting_64 rfl rfl rfl ?_ 
            refine pg_5_0 (q := 68) C hk tw_96 dX5_seeWaiting_65 rfl (fun k65 => ?_) 
            refine pv_iload (q := 70) C dX5_seeWaiting_68 rfl rfl ?_ 
            refine pv_aald_10 (q := 71) (j := g) C k65 rfl (by omega) dX5_seeWaiting_70 rfl (fun k70 => ?_) 
            refine pv_iload (q := 73) C dX5_seeWaiting_71 rfl rfl ?_ 
            refine pv_callVv (q := 76) C hKl (c_X0_add l X D1 P (h + 1 + 1 + 2 * g) k70 n hcnt hn _) tw_544 k70 (by decide) rfl mm_X0_add ⟨rfl, rfl⟩ (by rw [hKR]; exact ⟨Nat.le_of_ble_eq_true rfl, Nat.le_of_ble_eq_true rfl⟩) (by rw [hKR]; exact ⟨Nat.le_of_ble_eq_true rfl, Nat.le_of_ble_eq_true rfl⟩) rfl rfl rfl (Nat.le_of_ble_eq_true rfl) dX5_seeWaiting_73 rfl (fun D73 P73 hp73 => ?_) 
            obtain ⟨hq, rfl⟩ := hp73
            rcases hq with ⟨hx, _⟩ | ⟨hx, f2, hD2, hins⟩
            · exact absurd hx (by omega)
            refine pv_goto (tgt := 91) C dX5_seeWaiting_76 (by decide) ?_ 
            refine pv_iinc (q := 94) (v := nI (d + 1)) C dX5_seeWaiting_91 rfl rfl (nI_add _ _) rfl ?_ 
            refine pv_goto (tgt := 5) C dX5_seeWaiting_94 (by decide) ?_ 
            exact PV_le (ih (d + 1) D73 (by omega) (by omega) (by omega) (fun i hi => by rw [hD2, setA_o _ _ _ (by omega) (by omega)]; exact hsame i hi) (by rw [hD2]; exact SV_comes hsv1 hp hoth hg hlo s2 s3 s4 hroom hsl hins)) ⟨Or.inr rfl, Or.inr rfl, Or.inr rfl, Or.inl rfl, Or.inl rfl, Or.inl rfl, trivial⟩
  exact loop_5 (wr + 1) nx D (by omega) (by omega) (by omega) (fun _ _ => rfl) hsv
set_option maxRecDepth 100000 in
set_option maxHeartbeats 4000000 in
theorem c_X5_holdWhatTableTells (l : Launch) (X : XT) (D : DT) (P : PT) (h t o : Nat) (hk : kd h = 5) (ht : kd t = 4) (ho : kd o = 1) : CG l X yX5_holdWhatTableTells (.code yX5_holdWhatTableTells cX5_holdWhatTableTells 4 none :: AW) ({ frames := 2, cells := 0, slots := 0, locals := 72 } : Room) [.ref (X.2.2 h), .ref (X.2.2 t), .ref (X.2.2 o)] (qV X (fun D' P' => (∀ i, (i < h ∨ h + 10 ≤ i) → D' i = D i) ∧ (∀ k, k ≠ 6 → D' h k = D h k) ∧ D' h 6 = D o 3 ∧ SV D' h (D (t + 1)) (D (t + 2)) ∧ P = P')) D P 0 0 := by
  refine cg_of (by decide +kernel) (Nat.le_of_ble_eq_true rfl) ?_
  intro K hKl hKR C
  refine PV_lv (lv' := [some (.ref (X.2.2 h)), some (.ref (X.2.2 t)), some (.ref (X.2.2 o)), none]) rfl ?_
  have d1 : o < h ∨ h + 10 ≤ o := by
    obtain ⟨k1, b1, e1⟩ := kd1_f ho
    rcases kd5_f hk with e | ⟨k, v, b2, b3, e⟩
    · omega
    · rcases Nat.lt_trichotomy k k1 with q | q | q <;> omega
  have d2 : (o + 1 < h ∨ h + 10 ≤ o + 1) ∧ (o + 2 < h ∨ h + 10 ≤ o + 2) ∧ (o + 3 < h ∨ h + 10 ≤ o + 3) := by
    obtain ⟨k1, b1, e1⟩ := kd1_f ho
    rcases kd5_f hk with e | ⟨k, v, b2, b3, e⟩
    · omega
    · rcases Nat.lt_trichotomy k k1 with q | q | q <;> omega
  have d3 : t + 2 < h ∨ h + 10 ≤ t := by
    obtain ⟨k1, b1, e1⟩ := kd4_f ht
    rcases kd5_f hk with e | ⟨k, v, b2, b3, e⟩
    · omega
    · rcases Nat.lt_trichotomy k k1 with q | q | q <;> omega
  refine pv_iconst (q := 1) (v := 0) C dX5_holdWhatTableTells_0 rfl (by decide) ?_ 
  refine pv_istore_n (q := 2) C dX5_holdWhatTableTells_1 rfl rfl (Nat.le_of_ble_eq_true rfl) rfl ?_ 
  have loop_2 : ∀ (nn : Nat) (g : Nat) (D1 : DT), (5 ≤ g + nn) → g ≤ 4 → (∀ i, (i < h + 2 ∨ h + 10 ≤ i) → D1 i = D i) → (∀ g', g' < g → ∃ n, n ≤ 16 ∧ D1 (h + 1 + 1 + 2 * g') 1 = nI n ∧ SL (D1 (h + 1 + 1 + 2 * g' + 1)) n (fun a => tcn (D (t + 1)) (D (t + 2)) (nI g') (D h 1) a 16)) → PV K X (MK K X (qV X (fun D' P' => (∀ i, (i < h ∨ h + 10 ≤ i) → D' i = D i) ∧ (∀ k, k ≠ 6 → D' h k = D h k) ∧ D' h 6 = D o 3 ∧ SV D' h (D (t + 1)) (D (t + 2)) ∧ P = P')) 0 0) (0) (0) 2 [some (.ref (X.2.2 h)), some (.ref (X.2.2 t)), some (.ref (X.2.2 o)), some (.int (nI g))] [] D1 P := by
    intro nn
    induction nn with
    | zero =>
      intro g D1 hfuel hg hsame hin
      exact absurd hfuel (by omega)
    | succ nn ih =>
      intro g D1 hfuel hg hsame hin
      refine pv_iload_n (q := 3) C dX5_holdWhatTableTells_2 rfl rfl rfl ?_ 
      refine pv_iconst (q := 4) (v := 4) C dX5_holdWhatTableTells_3 rfl (by decide) ?_ 
      refine pv_icmp_geN (q := 7) (tgt := 28) (a := g) (b := 4) C rfl rfl (by omega) (by omega) dX5_holdWhatTableTells_4 (by decide) rfl (fun c_4 => ?_) (fun c_4 => ?_) 
      · refine pv_aload_n (q := 29) C dX5_holdWhatTableTells_28 rfl rfl rfl ?_
        refine pv_aload_n (q := 30) C dX5_holdWhatTableTells_29 rfl rfl rfl ?_ 
        refine pg_1_3 (q := 33) C ho tw_63 dX5_holdWhatTableTells_30 rfl ?_ 
        refine pp_5_6 (q := 36) C hk tw_112 dX5_holdWhatTableTells_33 rfl (fun D33 hD33 => ?_) 
        exact pv_vret C (by
            have e : g = 4 := by omega
            subst e
            have hD' : ∀ i, i ≠ h → D33 i = D1 i := fun i hi => by rw [hD33, up2_ne _ _ _ hi]
            refine ⟨fun i hi => ?_, fun k hk6 => ?_, ?_, fun g hg => ?_, rfl⟩
            · rw [hD' i (by omega)]; exact hsame i (by omega)
            · rw [hD33, up2_nk _ _ _ hk6, hsame h (by omega)]
            · rw [hD33, up2_self, hsame o (by omega)]
            · obtain ⟨n, q1, q2, q3⟩ := hin g hg
              exact ⟨n, q1, by rw [hD' _ (by omega)]; exact q2, by rw [hD' _ (by omega), hD33, up2_nk _ _ _ (by decide), hsame h (by omega)]; exact q3⟩) (by decide) (by decide) dX5_holdWhatTableTells_36
      · refine pv_aload_n (q := 8) C dX5_holdWhatTableTells_7 rfl rfl rfl ?_
        refine pg_5_0 (q := 11) C hk tw_96 dX5_holdWhatTableTells_8 rfl (fun k8 => ?_) 
        refine pv_iload_n (q := 12) C dX5_holdWhatTableTells_11 rfl rfl rfl ?_ 
        refine pv_aald_10 (q := 13) (j := g) C k8 rfl (by omega) dX5_holdWhatTableTells_12 rfl (fun k12 => ?_) 
        refine pv_aload_n (q := 14) C dX5_holdWhatTableTells_13 rfl rfl rfl ?_ 
        refine pv_iload_n (q := 15) C dX5_holdWhatTableTells_14 rfl rfl rfl ?_ 
        refine pv_aload_n (q := 16) C dX5_holdWhatTableTells_15 rfl rfl rfl ?_ 
        refine pg_5_1 (q := 19) C hk tw_98 dX5_holdWhatTableTells_16 rfl ?_ 
        refine pv_callVv (q := 22) C hKl (c_X0_takeFrom l X D1 P (h + 1 + 1 + 2 * g) t k12 ht _ _) tw_725 k12 (by decide) rfl mm_X0_takeFrom ⟨rfl, rfl⟩ (by rw [hKR]; exact ⟨Nat.le_of_ble_eq_true rfl, Nat.le_of_ble_eq_true rfl⟩) (by rw [hKR]; exact ⟨Nat.le_of_ble_eq_true rfl, Nat.le_of_ble_eq_true rfl⟩) rfl rfl rfl (Nat.le_of_ble_eq_true rfl) dX5_holdWhatTableTells_19 rfl (fun D19 P19 hp19 => ?_) 
        obtain ⟨⟨f2, n2, hn2, hD2, hsl2⟩, rfl⟩ := hp19
        refine pv_iinc (q := 25) (v := nI (g + 1)) C dX5_holdWhatTableTells_22 rfl rfl (nI_add _ _) rfl ?_ 
        refine pv_goto (tgt := 2) C dX5_holdWhatTableTells_25 (by decide) ?_ 
        exact ih (g + 1) D19 (by omega) (by omega) (fun i hi => by rw [hD2, setA_o _ _ _ (by omega) (by omega)]; exact hsame i hi) (fun g' hg' => by
          by_cases e : g' = g
          · subst e
            exact ⟨n2, hn2, by rw [hD2, setA_c], by rw [hD2, setA_r]; rw [hsame (t + 1) (by omega), hsame (t + 2) (by omega), hsame h (by omega)] at hsl2; exact hsl2⟩
          · obtain ⟨n, q1, q2, q3⟩ := hin g' (by omega)
            exact ⟨n, q1, by rw [hD2, setA_o _ _ _ (by omega) (by omega)]; exact q2, by rw [hD2, setA_o _ _ _ (by omega) (by omega)]; exact q3⟩)
  exact loop_2 5 0 D (by omega) (by omega) (fun _ _ => rfl) (fun g' hg' => absurd hg' (by omega))
set_option maxRecDepth 100000 in
set_option maxHeartbeats 4000000 in
theorem c_X5_copyFrom (l : Launch) (X : XT) (D : DT) (P : PT) (h o : Nat) (hk : kd h = 5) (ho : kd o = 5) (hne : h ≠ o) (hb : D o 4 = 0 ∨ D o 4 = 1) : CG l X yX5_copyFrom (.code yX5_copyFrom cX5_copyFrom 3 none :: AW) ({ frames := 2, cells := 0, slots := 0, locals := 72 } : Room) [.ref (X.2.2 h), .ref (X.2.2 o)] (qV X (fun D' P' => (∀ i, (i < h ∨ h + 10 ≤ i) → D' i = D i) ∧ (∀ k, 1 ≤ k → k ≤ 6 → D' h k = D o k) ∧ (∀ g, g < 4 → D' (h + 1 + 1 + 2 * g) 1 = D (o + 1 + 1 + 2 * g) 1 ∧ ∀ k, k < 16 → D' (h + 1 + 1 + 2 * g + 1) k = D (o + 1 + 1 + 2 * g + 1) k) ∧ P = P')) D P 0 0 := by
  refine cg_of (by decide +kernel) (Nat.le_of_ble_eq_true rfl) ?_
  intro K hKl hKR C
  refine PV_lv (lv' := [some (.ref (X.2.2 h)), some (.ref (X.2.2 o)), none]) rfl ?_
  have hsep := kd5_sep hk ho hne
  refine pv_iconst (q := 1) (v := 0) C dX5_copyFrom_0 rfl (by decide) ?_ 
  refine pv_istore_n (q := 2) C dX5_copyFrom_1 rfl rfl (Nat.le_of_ble_eq_true rfl) rfl ?_ 
  have loop_2 : ∀ (nn : Nat) (g : Nat) (D1 : DT), (5 ≤ g + nn) → g ≤ 4 → (∀ i, (i < h + 2 ∨ h + 10 ≤ i) → D1 i = D i) → (∀ g', g' < g → D1 (h + 1 + 1 + 2 * g') 1 = D (o + 1 + 1 + 2 * g') 1 ∧ ∀ k, k < 16 → D1 (h + 1 + 1 + 2 * g' + 1) k = D (o + 1 + 1 + 2 * g' + 1) k) → PV K X (MK K X (qV X (fun D' P' => (∀ i, (i < h ∨ h + 10 ≤ i) → D' i = D i) ∧ (∀ k, 1 ≤ k → k ≤ 6 → D' h k = D o k) ∧ (∀ g, g < 4 → D' (h + 1 + 1 + 2 * g) 1 = D (o + 1 + 1 + 2 * g) 1 ∧ ∀ k, k < 16 → D' (h + 1 + 1 + 2 * g + 1) k = D (o + 1 + 1 + 2 * g + 1) k) ∧ P = P')) 0 0) (0) (0) 2 [some (.ref (X.2.2 h)), some (.ref (X.2.2 o)), some (.int (nI g))] [] D1 P := by
    intro nn
    induction nn with
    | zero =>
      intro g D1 hfuel hg hsame hin
      exact absurd hfuel (by omega)
    | succ nn ih =>
      intro g D1 hfuel hg hsame hin
      refine pv_iload_n (q := 3) C dX5_copyFrom_2 rfl rfl rfl ?_ 
      refine pv_iconst (q := 4) (v := 4) C dX5_copyFrom_3 rfl (by decide) ?_ 
      refine pv_icmp_geN (q := 7) (tgt := 28) (a := g) (b := 4) C rfl rfl (by omega) (by omega) dX5_copyFrom_4 (by decide) rfl (fun c_4 => ?_) (fun c_4 => ?_) 
      · have ho1 : D1 o = D o := hsame o (by omega)
        refine pv_aload_n (q := 29) C dX5_copyFrom_28 rfl rfl rfl ?_ 
        refine pv_aload_n (q := 30) C dX5_copyFrom_29 rfl rfl rfl ?_ 
        refine pg_5_1 (q := 33) C ho tw_98 dX5_copyFrom_30 rfl ?_ 
        refine pp_5_1 (q := 36) C hk tw_98 dX5_copyFrom_33 rfl (fun D33 hD33 => ?_) 
        refine pv_aload_n (q := 37) C dX5_copyFrom_36 rfl rfl rfl ?_ 
        refine pv_aload_n (q := 38) C dX5_copyFrom_37 rfl rfl rfl ?_ 
        refine pg_5_2 (q := 41) C ho tw_100 dX5_copyFrom_38 rfl ?_ 
        refine pp_5_2 (q := 44) C hk tw_100 dX5_copyFrom_41 rfl (fun D41 hD41 => ?_) 
        refine pv_aload_n (q := 45) C dX5_copyFrom_44 rfl rfl rfl ?_ 
        refine pv_aload_n (q := 46) C dX5_copyFrom_45 rfl rfl rfl ?_ 
        refine pg_5_3 (q := 49) C ho tw_103 dX5_copyFrom_46 rfl ?_ 
        refine pp_5_3 (q := 52) C hk tw_103 dX5_copyFrom_49 rfl (fun D49 hD49 => ?_) 
        refine pv_aload_n (q := 53) C dX5_copyFrom_52 rfl rfl rfl ?_ 
        refine pv_aload_n (q := 54) C dX5_copyFrom_53 rfl rfl rfl ?_ 
        refine pg_5_4 (q := 57) C ho tw_106 dX5_copyFrom_54 rfl ?_ 
        refine pp_5_4 (q := 60) C hk tw_106 (by rw [hD49, hD41, hD33, up2_ne _ _ _ (by omega), up2_ne _ _ _ (by omega), up2_ne _ _ _ (by omega), ho1]; exact hb) dX5_copyFrom_57 rfl (fun D57 hD57 => ?_) 
        refine pv_aload_n (q := 61) C dX5_copyFrom_60 rfl rfl rfl ?_ 
        refine pv_aload_n (q := 62) C dX5_copyFrom_61 rfl rfl rfl ?_ 
        refine pg_5_5 (q := 65) C ho tw_109 dX5_copyFrom_62 rfl ?_ 
        refine pp_5_5 (q := 68) C hk tw_109 dX5_copyFrom_65 rfl (fun D65 hD65 => ?_) 
        refine pv_aload_n (q := 69) C dX5_copyFrom_68 rfl rfl rfl ?_ 
        refine pv_aload_n (q := 70) C dX5_copyFrom_69 rfl rfl rfl ?_ 
        refine pg_5_6 (q := 73) C ho tw_112 dX5_copyFrom_70 rfl ?_ 
        refine pp_5_6 (q := 76) C hk tw_112 dX5_copyFrom_73 rfl (fun D73 hD73 => ?_) 
        exact pv_vret C (by
            have n1 : o ≠ h := fun z => hne z.symm
            have e : g = 4 := by omega
            subst e
            have hD' : ∀ i, i ≠ h → D73 i = D1 i := fun i hi => by rw [hD73, hD65, hD57, hD49, hD41, hD33]; simp only [up2_ne _ _ _ hi]
            have hv : ∀ k, 1 ≤ k → k ≤ 6 → D73 h k = D o k := by
              intro k a b
              rw [hD73, hD65, hD57, hD49, hD41, hD33]
              simp only [up2_ne _ _ _ n1, ho1, up2_row, va_up]
              rcases (show k = 1 ∨ k = 2 ∨ k = 3 ∨ k = 4 ∨ k = 5 ∨ k = 6 by omega) with rfl | rfl | rfl | rfl | rfl | rfl <;> simp
            refine ⟨fun i hi => ?_, hv, fun g hg => ?_, rfl⟩
            · rw [hD' i (by omega)]; exact hsame i (by omega)
            · rw [hD' _ (by omega), hD' _ (by omega)]; exact hin g hg) (by decide) (by decide) dX5_copyFrom_76
      · refine pv_aload_n (q := 8) C dX5_copyFrom_7 rfl rfl rfl ?_
        refine pg_5_0 (q := 11) C hk tw_96 dX5_copyFrom_8 rfl (fun k8 => ?_) 
        refine pv_iload_n (q := 12) C dX5_copyFrom_11 rfl rfl rfl ?_ 
        refine pv_aald_10 (q := 13) (j := g) C k8 rfl (by omega) dX5_copyFrom_12 rfl (fun k12 => ?_) 
        refine pv_aload_n (q := 14) C dX5_copyFrom_13 rfl rfl rfl ?_ 
        refine pg_5_0 (q := 17) C ho tw_96 dX5_copyFrom_14 rfl (fun k14 => ?_) 
        refine pv_iload_n (q := 18) C dX5_copyFrom_17 rfl rfl rfl ?_ 
        refine pv_aald_10 (q := 19) (j := g) C k14 rfl (by omega) dX5_copyFrom_18 rfl (fun k18 => ?_) 
        refine pv_callVv (q := 22) C hKl (c_X0_copyFrom l X D1 P (h + 1 + 1 + 2 * g) (o + 1 + 1 + 2 * g) k12 k18) tw_250 k12 (by decide) rfl mm_X0_copyFrom ⟨rfl, rfl⟩ (by rw [hKR]; exact ⟨Nat.le_of_ble_eq_true rfl, Nat.le_of_ble_eq_true rfl⟩) (by rw [hKR]; exact ⟨Nat.le_of_ble_eq_true rfl, Nat.le_of_ble_eq_true rfl⟩) rfl rfl rfl (Nat.le_of_ble_eq_true rfl) dX5_copyFrom_19 rfl (fun D19 P19 hp19 => ?_) 
        obtain ⟨hD2, rfl⟩ := hp19
        refine pv_iinc (q := 25) (v := nI (g + 1)) C dX5_copyFrom_22 rfl rfl (nI_add _ _) rfl ?_ 
        refine pv_goto (tgt := 2) C dX5_copyFrom_25 (by decide) ?_ 
        exact ih (g + 1) D19 (by omega) (by omega) (fun i hi => by rw [hD2, setA_o _ _ _ (by omega) (by omega)]; exact hsame i hi) (fun g' hg' => by
          by_cases e : g' = g
          · subst e
            exact ⟨by rw [hD2, setA_c, hsame _ (by omega)], fun k hk16 => by rw [hD2, setA_r]; simp only [hk16, if_true]; rw [hsame _ (by omega)]⟩
          · rw [hD2, setA_o _ _ _ (by omega) (by omega), setA_o _ _ _ (by omega) (by omega)]; exact hin g' (by omega))
  exact loop_2 5 0 D (by omega) (by omega) (fun _ _ => rfl) (fun g' hg' => absurd hg' (by omega))
