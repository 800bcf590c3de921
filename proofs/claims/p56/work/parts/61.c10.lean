theorem lN_sub1 (j : Nat) : (1023 : Int64) - lN j - 1 = 1023 - lN (j + 1) := by
  rw [show lN (j + 1) = lN j + 1 from Int64.ofNat_add j 1, Int64.sub_sub]
theorem s52 : ((52 : Int32).toInt64 &&& 63) = 52 := by decide
theorem s52b : (Int64.toBitVec 52).smod 64 = 52#64 := by decide
theorem shl52 (e : Nat) : (lN e <<< ((52 : Int32).toInt64 &&& 63)) = lN (e <<< 52) := by
  rw [s52]
  apply Int64.toBitVec_inj.mp
  rw [Int64.toBitVec_shiftLeft]
  rw [s52b]
  show BitVec.ofNat 64 e <<< 52#64 = BitVec.ofNat 64 (e <<< 52)
  rw [BitVec.shiftLeft_eq']
  apply BitVec.eq_of_toNat_eq
  rw [BitVec.toNat_shiftLeft]
  show (e % 2 ^ 64) <<< 52 % 2 ^ 64 = (e <<< 52) % 2 ^ 64
  rw [Nat.shiftLeft_eq, Nat.shiftLeft_eq, Nat.mod_mul_mod]
theorem bits_eq {c : Nat} {q : Int} (hn : nz c q) (h1 : -90 ≤ q) (h2 : q ≤ -53 ∨ (q = -52 ∧ c = 2 ^ 52)) : ((1023 - lN (-52 - q).toNat) <<< ((52 : Int32).toInt64 &&& 63)) + lN (c - 2 ^ 52) = (eb c q).toInt64 := by
  have e : (1023 : Int64) - lN (-52 - q).toNat = lN ((q + 1074).toNat + 1) := by
    rw [show (q + 1074).toNat + 1 = 1023 - (-52 - q).toNat by omega]
    exact (Int64.ofNat_sub 1023 _ (by omega)).symm
  rw [eb_bits hn, e, shl52, lN_add, Nat.shiftLeft_eq]
  rfl
theorem rg_n {p k : Nat} (h : p ≤ k) (hk : k < 2 ^ 31) : rg (nI p) 0 (nI k) := ⟨nI_le (Nat.zero_le p) (by omega), nI_le h hk⟩
theorem rg15 {p : Nat} (h : p < 16) : rg (nI p) 0 15 := rg_n (k := 15) (by omega) (by decide)
theorem rg2 {p : Nat} (h : p < 3) : rg (nI p) 0 2 := rg_n (k := 2) (by omega) (by decide)
theorem rg3x {p : Nat} (h : p < 4) : rg (nI p) 0 3 := rg_n (k := 3) (by omega) (by decide)
def hN (row : Nat → Int32) (st : Int32) (h : Int64) : Int64 := hmx (hmx (hmx (hmx (hmx (hmx (hmx (hmx h (nI (tk row)).toInt64) (row 178).toInt64) (row 179).toInt64) (row 180).toInt64) (row 181).toInt64) (row 182).toInt64) (lgd row 3).toInt64) st.toInt64
def pHx (row : Nat → Int32) (h : Int64) (p : Nat) : Int64 := if row p = 0 then hmx h 1 else hmx (hmx (hmx h 0) (row p - 1).toInt64) (row (16 + p)).toInt64
set_option maxRecDepth 100000 in
set_option maxHeartbeats 4000000 in
theorem c_X6_bitsOfShare0 (l : Launch) (X : XT) (D : DT) (P : PT)  : CG l X yX6_bitsOfShare (.code yX6_bitsOfShare cX6_bitsOfShare 8 (some .long) :: AW) ({ frames := 0, cells := 0, slots := 0, locals := 0 } : Room) [.double 0] (qL X (fun r D' P' => r = (0 : UInt64).toInt64 ∧ D = D' ∧ P = P')) D P 0 0 := by
  refine cg_of (by decide +kernel) (Nat.le_of_ble_eq_true rfl) ?_
  intro K hKl hKR C
  refine PV_lv (lv' := [some (.double 0), none, none, none, none, none, none, none]) rfl ?_
  refine pv_dload_n (q := 1) C dX6_bitsOfShare_0 rfl rfl rfl ?_ 
  refine pv_dconst0 (q := 2) C dX6_bitsOfShare_1 rfl ?_ 
  refine pv_dcmp (q := 3) C dX6_bitsOfShare_2 rfl ?_ 
  rw [show Op.cmpValue (FP.dcmp 0 0) .l = 0 by decide +kernel]
  refine pv_if_gt (q := 6) (tgt := 8) C dX6_bitsOfShare_3 (by decide) rfl (fun h => absurd h (by decide)) (fun _ => ?_) 
  refine pv_lconst (q := 7) (v := 0) C dX6_bitsOfShare_6 rfl (by decide) ?_ 
  exact pv_lret C (⟨rfl, rfl, rfl⟩) (by decide) (by decide) dX6_bitsOfShare_7
set_option maxRecDepth 100000 in
set_option maxHeartbeats 4000000 in
theorem c_X6_bitsOfShareP (l : Launch) (X : XT) (D : DT) (P : PT) (c : Nat) (q : Int) (hz : shz c q) : CG l X yX6_bitsOfShare (.code yX6_bitsOfShare cX6_bitsOfShare 8 (some .long) :: AW) ({ frames := 0, cells := 0, slots := 0, locals := 0 } : Room) [.double (eb c q)] (qL X (fun r D' P' => r = (eb c q).toInt64 ∧ D = D' ∧ P = P')) D P 0 0 := by
  refine cg_of (by decide +kernel) (Nat.le_of_ble_eq_true rfl) ?_
  intro K hKl hKR C
  refine PV_lv (lv' := [some (.double (eb c q)), none, none, none, none, none, none, none]) rfl ?_
  obtain ⟨hn, hq1, hq2⟩ := hz
  have hn' : ∀ j : Nat, j ≤ (-52 - q).toNat → nz c (q + j) := fun j hj => ⟨hn.1, hn.2.1, by have := hn.2.2.1; omega, by have := hn.2.2.2; omega⟩
  refine pv_dload_n (q := 1) C dX6_bitsOfShare_0 rfl rfl rfl ?_ 
  refine pv_dconst0 (q := 2) C dX6_bitsOfShare_1 rfl ?_ 
  refine pv_dcmp (q := 3) C dX6_bitsOfShare_2 rfl ?_ 
  rw [show Op.cmpValue (FP.dcmp (eb c q) 0) .l = 1 by rw [cmp0_gt hn]; rfl]
  refine pv_if_gt (q := 6) (tgt := 8) C dX6_bitsOfShare_3 (by decide) rfl (fun _ => ?_) (fun h => absurd h (by decide)) 
  refine pv_dload_n (q := 9) C dX6_bitsOfShare_8 rfl rfl rfl ?_ 
  refine pv_dstore_n (q := 10) C dX6_bitsOfShare_9 rfl rfl (Nat.le_of_ble_eq_true rfl) rfl ?_ 
  refine pv_ldc2 (q := 13) C dX6_bitsOfShare_10 rfl tw_590 ?_ 
  refine pv_lstore (q := 15) C dX6_bitsOfShare_13 rfl (Nat.le_of_ble_eq_true rfl) rfl ?_ 
  refine pv_iconst (q := 16) (v := 0) C dX6_bitsOfShare_15 rfl (by decide) ?_ 
  refine pv_istore (q := 18) C dX6_bitsOfShare_16 rfl (Nat.le_of_ble_eq_true rfl) rfl ?_ 
  have loop_18 : ∀ (nn : Nat) (j : Nat), (65 ≤ j + nn) → j ≤ (-52 - q).toNat → j ≤ 64 → PV K X (MK K X (qL X (fun r D' P' => r = (eb c q).toInt64 ∧ D = D' ∧ P = P')) 0 0) (0) (0) 18 [some (.double (eb c q)), none, some (.double (eb c (q + (j : Int)))), none, some (.long (1023 - lN j)), none, some (.int (nI j)), none] [] D P := by
    intro nn
    induction nn with
    | zero =>
      intro j hfuel hj hj64
      exact absurd hfuel (by omega)
    | succ nn ih =>
      intro j hfuel hj hj64
      refine pv_iload (q := 20) C dX6_bitsOfShare_18 rfl rfl ?_ 
      refine pv_bipush (q := 22) (v := 64) C dX6_bitsOfShare_20 rfl (by decide) ?_ 
      refine pv_icmp_geN (q := 25) (tgt := 49) (a := j) (b := 64) C rfl rfl (by omega) (by omega) dX6_bitsOfShare_22 (by decide) rfl (fun c_22 => ?_) (fun c_22 => ?_) 
      · have hJ : j = (-52 - q).toNat := by first | exact hjJ | omega
        have heq : q + (j : Int) = -52 := by omega
        have h52 : nz c (-52) := by rw [← heq]; exact hn' j (by omega)
        refine pv_dload_n (q := 50) C dX6_bitsOfShare_49 rfl rfl rfl ?_ 
        refine pv_dconst1 (q := 51) C dX6_bitsOfShare_50 rfl ?_ 
        refine pv_dsub (q := 52) C dX6_bitsOfShare_51 rfl (by rw [heq]; exact (frac_v h52).2.1) ?_ 
        refine pv_ldc2d (q := 55) C dX6_bitsOfShare_52 rfl tw_592 ?_ 
        refine pv_dmul (q := 56) C dX6_bitsOfShare_55 rfl (by rw [heq]; exact (frac_v h52).2.2) ?_ 
        refine pv_d2l (q := 57) C dX6_bitsOfShare_56 rfl ?_ 
        refine pv_lstore (q := 59) C dX6_bitsOfShare_57 rfl (Nat.le_of_ble_eq_true rfl) rfl ?_ 
        refine pv_lload (q := 61) C dX6_bitsOfShare_59 rfl rfl ?_ 
        refine pv_bipush (q := 63) (v := 52) C dX6_bitsOfShare_61 rfl (by decide) ?_ 
        refine pv_lshl (q := 64) C dX6_bitsOfShare_63 rfl rfl ?_ 
        refine pv_lload (q := 66) C dX6_bitsOfShare_64 rfl rfl ?_ 
        refine pv_ladd (q := 67) C dX6_bitsOfShare_66 rfl ?_ 
        exact pv_lret C (⟨by rw [heq, (frac_v h52).1, hJ]; exact bits_eq hn hq1 hq2, rfl, rfl⟩) (by decide) (by decide) dX6_bitsOfShare_67
      · refine pv_dload_n (q := 26) C dX6_bitsOfShare_25 rfl rfl rfl ?_
        refine pv_dconst1 (q := 27) C dX6_bitsOfShare_26 rfl ?_ 
        refine pv_dcmp (q := 28) C dX6_bitsOfShare_27 rfl ?_ 
        refine pv_if_ge (q := 31) (tgt := 49) C dX6_bitsOfShare_28 (by decide) rfl (fun c_28 => ?_) (fun c_28 => ?_) 
        · have hjJ : j = (-52 - q).toNat := by
            rcases Nat.lt_or_ge j (-52 - q).toNat with z | z
            · exfalso
              rw [show FP.dcmp (eb c (q + (j : Int))) 4607182418800017408 = some .lt from cmp1_lt (hn' j (by omega)) (by omega)] at c_28
              exact absurd c_28 (by decide)
            · omega
          have hJ : j = (-52 - q).toNat := by first | exact hjJ | omega
          have heq : q + (j : Int) = -52 := by omega
          have h52 : nz c (-52) := by rw [← heq]; exact hn' j (by omega)
          refine pv_dload_n (q := 50) C dX6_bitsOfShare_49 rfl rfl rfl ?_ 
          refine pv_dconst1 (q := 51) C dX6_bitsOfShare_50 rfl ?_ 
          refine pv_dsub (q := 52) C dX6_bitsOfShare_51 rfl (by rw [heq]; exact (frac_v h52).2.1) ?_ 
          refine pv_ldc2d (q := 55) C dX6_bitsOfShare_52 rfl tw_592 ?_ 
          refine pv_dmul (q := 56) C dX6_bitsOfShare_55 rfl (by rw [heq]; exact (frac_v h52).2.2) ?_ 
          refine pv_d2l (q := 57) C dX6_bitsOfShare_56 rfl ?_ 
          refine pv_lstore (q := 59) C dX6_bitsOfShare_57 rfl (Nat.le_of_ble_eq_true rfl) rfl ?_ 
          refine pv_lload (q := 61) C dX6_bitsOfShare_59 rfl rfl ?_ 
          refine pv_bipush (q := 63) (v := 52) C dX6_bitsOfShare_61 rfl (by decide) ?_ 
          refine pv_lshl (q := 64) C dX6_bitsOfShare_63 rfl rfl ?_ 
          refine pv_lload (q := 66) C dX6_bitsOfShare_64 rfl rfl ?_ 
          refine pv_ladd (q := 67) C dX6_bitsOfShare_66 rfl ?_ 
          exact pv_lret C (⟨by rw [heq, (frac_v h52).1, hJ]; exact bits_eq hn hq1 hq2, rfl, rfl⟩) (by decide) (by decide) dX6_bitsOfShare_67
        · have hjJ : j < (-52 - q).toNat := by
            rcases Nat.lt_or_ge j (-52 - q).toNat with z | z
            · exact z
            · exfalso
              have e : q + (j : Int) = -52 := by omega
              have hg := cmp1_ge (by rw [← e]; exact hn' j (by omega) : nz c (-52))
              rw [e] at c_28
              rcases hg with g | g <;> rw [show FP.dcmp (eb c (-52)) 4607182418800017408 = _ from g] at c_28 <;> exact c_28 (by decide)
          refine pv_dload_n (q := 32) C dX6_bitsOfShare_31 rfl rfl rfl ?_ 
          refine pv_ldc2d (q := 35) C dX6_bitsOfShare_32 rfl tw_591 ?_ 
          refine pv_dmul (q := 36) C dX6_bitsOfShare_35 rfl (by have := dbl_v (hn' j (by omega)) (by omega); rw [show FP.dmul (eb c (q + (j : Int))) 4611686018427387904 = _ from this]; exact vf_eb (by have := hn' (j + 1) (by omega); rw [show q + ((j + 1 : Nat) : Int) = q + (j : Int) + 1 by omega] at this; exact this)) ?_ 
          rw [show FP.dmul (eb c (q + (j : Int))) 4611686018427387904 = eb c (q + ((j + 1 : Nat) : Int)) by have := dbl_v (hn' j (by omega)) (by omega); rw [show q + ((j + 1 : Nat) : Int) = q + (j : Int) + 1 by omega]; exact this]
          refine pv_dstore_n (q := 37) C dX6_bitsOfShare_36 rfl rfl (Nat.le_of_ble_eq_true rfl) rfl ?_ 
          refine pv_lload (q := 39) C dX6_bitsOfShare_37 rfl rfl ?_ 
          refine pv_lconst (q := 40) (v := 1) C dX6_bitsOfShare_39 rfl (by decide) ?_ 
          refine pv_lsub (q := 41) C dX6_bitsOfShare_40 rfl ?_ 
          refine pv_lstore (q := 43) C dX6_bitsOfShare_41 rfl (Nat.le_of_ble_eq_true rfl) rfl ?_ 
          refine pv_iinc (q := 46) (v := nI (j + 1)) C dX6_bitsOfShare_43 rfl rfl (nI_add _ _) rfl ?_ 
          refine pv_goto (tgt := 18) C dX6_bitsOfShare_46 (by decide) ?_ 
          refine PV_lv (lv' := [some (.double (eb c q)), none, some (.double (eb c (q + ((j + 1 : Nat) : Int)))), none, some (.long (1023 - lN (j + 1))), none, some (.int (nI (j + 1))), none]) (by rw [lN_sub1]; rfl) ?_
          exact ih (j + 1) (by omega) (by omega) (by omega)
  refine PV_lv (lv' := [some (.double (eb c q)), none, some (.double (eb c (q + ((0 : Nat) : Int)))), none, some (.long (1023 - lN 0)), none, some (.int (nI 0)), none]) (by rw [show q + ((0 : Nat) : Int) = q by omega]; rfl) ?_
  exact loop_18 65 0 (by omega) (by omega) (by omega)
set_option maxRecDepth 100000 in
set_option maxHeartbeats 4000000 in
theorem c_X6_hashOfNumbers (l : Launch) (X : XT) (D : DT) (P : PT) (M : DT) (W : Nat) (h : RI D P M W) (h0 : Int64) : CG l X yX6_hashOfNumbers (.code yX6_hashOfNumbers cX6_hashOfNumbers 5 (some .long) :: AW) ({ frames := 2, cells := 0, slots := 0, locals := 72 } : Room) [.ref (X.2.2 0), .long h0] (qL X (fun r D' P' => r = hN (M 7) (M 6 3) h0 ∧ D = D' ∧ P = P')) D P 0 0 := by
  refine cg_of (by decide +kernel) (Nat.le_of_ble_eq_true rfl) ?_
  intro K hKl hKR C
  refine PV_lv (lv' := [some (.ref (X.2.2 0)), some (.long h0), none, none, none]) rfl ?_
  obtain ⟨⟨G, A, wr, nx, hw, hR, hT, hI, hAM⟩, ⟨s, hs5, hs3, hs0, hsj⟩, hP1, hP2, ⟨hk4, hk01, hkS⟩, n, hn60, hn9, hn1, hnk⟩ := id h
  refine pv_lload_n (q := 1) C dX6_hashOfNumbers_0 rfl rfl rfl ?_ 
  refine pv_aload_n (q := 2) C dX6_hashOfNumbers_1 rfl rfl rfl ?_ 
  refine pv_callVi (q := 5) C hKl (c_X6_rows l X D P M W (by assumption)) tw_365 k0 (by decide) rfl mm_X6_rows ⟨rfl, rfl⟩ (by rw [hKR]; exact ⟨Nat.le_of_ble_eq_true rfl, Nat.le_of_ble_eq_true rfl⟩) (by rw [hKR]; exact ⟨Nat.le_of_ble_eq_true rfl, Nat.le_of_ble_eq_true rfl⟩) rfl rfl rfl (Nat.le_of_ble_eq_true rfl) dX6_hashOfNumbers_2 rfl (fun r2 D2 P2 hp2 => ?_) 
  obtain ⟨rfl, rfl, rfl⟩ := hp2
  refine pv_i2l (q := 6) C dX6_hashOfNumbers_5 rfl ?_ 
  refine pv_callSl (q := 9) C hKl (c_X6_hashWith l X D P _ _) tw_366 mm_X6_hashWith ⟨rfl, rfl⟩ (by rw [hKR]; exact ⟨Nat.le_of_ble_eq_true rfl, Nat.le_of_ble_eq_true rfl⟩) (by rw [hKR]; exact ⟨Nat.le_of_ble_eq_true rfl, Nat.le_of_ble_eq_true rfl⟩) rfl rfl rfl (Nat.le_of_ble_eq_true rfl) dX6_hashOfNumbers_6 rfl (fun r6 D6 P6 hp6 => ?_) 
  obtain ⟨rfl, rfl, rfl⟩ := hp6
  refine pv_lstore_n (q := 10) C dX6_hashOfNumbers_9 rfl rfl (Nat.le_of_ble_eq_true rfl) rfl ?_ 
  refine pv_lload_n (q := 11) C dX6_hashOfNumbers_10 rfl rfl rfl ?_ 
  refine pv_aload_n (q := 12) C dX6_hashOfNumbers_11 rfl rfl rfl ?_ 
  refine pv_callVi (q := 15) C hKl (c_X6_deltas l X D P M W (by assumption)) tw_370 k0 (by decide) rfl mm_X6_deltas ⟨rfl, rfl⟩ (by rw [hKR]; exact ⟨Nat.le_of_ble_eq_true rfl, Nat.le_of_ble_eq_true rfl⟩) (by rw [hKR]; exact ⟨Nat.le_of_ble_eq_true rfl, Nat.le_of_ble_eq_true rfl⟩) rfl rfl rfl (Nat.le_of_ble_eq_true rfl) dX6_hashOfNumbers_12 rfl (fun r12 D12 P12 hp12 => ?_) 
  obtain ⟨rfl, rfl, rfl⟩ := hp12
  refine pv_i2l (q := 16) C dX6_hashOfNumbers_15 rfl ?_ 
  refine pv_callSl (q := 19) C hKl (c_X6_hashWith l X D P _ _) tw_366 mm_X6_hashWith ⟨rfl, rfl⟩ (by rw [hKR]; exact ⟨Nat.le_of_ble_eq_true rfl, Nat.le_of_ble_eq_true rfl⟩) (by rw [hKR]; exact ⟨Nat.le_of_ble_eq_true rfl, Nat.le_of_ble_eq_true rfl⟩) rfl rfl rfl (Nat.le_of_ble_eq_true rfl) dX6_hashOfNumbers_16 rfl (fun r16 D16 P16 hp16 => ?_) 
  obtain ⟨rfl, rfl, rfl⟩ := hp16
  refine pv_lstore_n (q := 20) C dX6_hashOfNumbers_19 rfl rfl (Nat.le_of_ble_eq_true rfl) rfl ?_ 
  refine pv_lload_n (q := 21) C dX6_hashOfNumbers_20 rfl rfl rfl ?_ 
  refine pv_aload_n (q := 22) C dX6_hashOfNumbers_21 rfl rfl rfl ?_ 
  refine pv_callVi (q := 25) C hKl (c_X6_tick l X D P M W (by assumption)) tw_374 k0 (by decide) rfl mm_X6_tick ⟨rfl, rfl⟩ (by rw [hKR]; exact ⟨Nat.le_of_ble_eq_true rfl, Nat.le_of_ble_eq_true rfl⟩) (by rw [hKR]; exact ⟨Nat.le_of_ble_eq_true rfl, Nat.le_of_ble_eq_true rfl⟩) rfl rfl rfl (Nat.le_of_ble_eq_true rfl) dX6_hashOfNumbers_22 rfl (fun r22 D22 P22 hp22 => ?_) 
  obtain ⟨rfl, rfl, rfl⟩ := hp22
  refine pv_i2l (q := 26) C dX6_hashOfNumbers_25 rfl ?_ 
  refine pv_callSl (q := 29) C hKl (c_X6_hashWith l X D P _ _) tw_366 mm_X6_hashWith ⟨rfl, rfl⟩ (by rw [hKR]; exact ⟨Nat.le_of_ble_eq_true rfl, Nat.le_of_ble_eq_true rfl⟩) (by rw [hKR]; exact ⟨Nat.le_of_ble_eq_true rfl, Nat.le_of_ble_eq_true rfl⟩) rfl rfl rfl (Nat.le_of_ble_eq_true rfl) dX6_hashOfNumbers_26 rfl (fun r26 D26 P26 hp26 => ?_) 
  obtain ⟨rfl, rfl, rfl⟩ := hp26
  refine pv_lstore_n (q := 30) C dX6_hashOfNumbers_29 rfl rfl (Nat.le_of_ble_eq_true rfl) rfl ?_ 
  refine pv_lload_n (q := 31) C dX6_hashOfNumbers_30 rfl rfl rfl ?_ 
  refine pv_aload_n (q := 32) C dX6_hashOfNumbers_31 rfl rfl rfl ?_ 
  refine pv_callVi (q := 35) C hKl (c_X6_wakings l X D P M W (by assumption)) tw_378 k0 (by decide) rfl mm_X6_wakings ⟨rfl, rfl⟩ (by rw [hKR]; exact ⟨Nat.le_of_ble_eq_true rfl, Nat.le_of_ble_eq_true rfl⟩) (by rw [hKR]; exact ⟨Nat.le_of_ble_eq_true rfl, Nat.le_of_ble_eq_true rfl⟩) rfl rfl rfl (Nat.le_of_ble_eq_true rfl) dX6_hashOfNumbers_32 rfl (fun r32 D32 P32 hp32 => ?_) 
  obtain ⟨rfl, rfl, rfl⟩ := hp32
  refine pv_i2l (q := 36) C dX6_hashOfNumbers_35 rfl ?_ 
  refine pv_callSl (q := 39) C hKl (c_X6_hashWith l X D P _ _) tw_366 mm_X6_hashWith ⟨rfl, rfl⟩ (by rw [hKR]; exact ⟨Nat.le_of_ble_eq_true rfl, Nat.le_of_ble_eq_true rfl⟩) (by rw [hKR]; exact ⟨Nat.le_of_ble_eq_true rfl, Nat.le_of_ble_eq_true rfl⟩) rfl rfl rfl (Nat.le_of_ble_eq_true rfl) dX6_hashOfNumbers_36 rfl (fun r36 D36 P36 hp36 => ?_) 
  obtain ⟨rfl, rfl, rfl⟩ := hp36
  refine pv_lstore_n (q := 40) C dX6_hashOfNumbers_39 rfl rfl (Nat.le_of_ble_eq_true rfl) rfl ?_ 
  refine pv_lload_n (q := 41) C dX6_hashOfNumbers_40 rfl rfl rfl ?_ 
  refine pv_aload_n (q := 42) C dX6_hashOfNumbers_41 rfl rfl rfl ?_ 
  refine pv_callVi (q := 45) C hKl (c_X6_wakingsByThemselves l X D P M W (by assumption)) tw_382 k0 (by decide) rfl mm_X6_wakingsByThemselves ⟨rfl, rfl⟩ (by rw [hKR]; exact ⟨Nat.le_of_ble_eq_true rfl, Nat.le_of_ble_eq_true rfl⟩) (by rw [hKR]; exact ⟨Nat.le_of_ble_eq_true rfl, Nat.le_of_ble_eq_true rfl⟩) rfl rfl rfl (Nat.le_of_ble_eq_true rfl) dX6_hashOfNumbers_42 rfl (fun r42 D42 P42 hp42 => ?_) 
  obtain ⟨rfl, rfl, rfl⟩ := hp42
  refine pv_i2l (q := 46) C dX6_hashOfNumbers_45 rfl ?_ 
  refine pv_callSl (q := 49) C hKl (c_X6_hashWith l X D P _ _) tw_366 mm_X6_hashWith ⟨rfl, rfl⟩ (by rw [hKR]; exact ⟨Nat.le_of_ble_eq_true rfl, Nat.le_of_ble_eq_true rfl⟩) (by rw [hKR]; exact ⟨Nat.le_of_ble_eq_true rfl, Nat.le_of_ble_eq_true rfl⟩) rfl rfl rfl (Nat.le_of_ble_eq_true rfl) dX6_hashOfNumbers_46 rfl (fun r46 D46 P46 hp46 => ?_) 
  obtain ⟨rfl, rfl, rfl⟩ := hp46
  refine pv_lstore_n (q := 50) C dX6_hashOfNumbers_49 rfl rfl (Nat.le_of_ble_eq_true rfl) rfl ?_ 
  refine pv_lload_n (q := 51) C dX6_hashOfNumbers_50 rfl rfl rfl ?_ 
  refine pv_aload_n (q := 52) C dX6_hashOfNumbers_51 rfl rfl rfl ?_ 
  refine pv_callVi (q := 55) C hKl (c_X6_refreshes l X D P M W (by assumption)) tw_386 k0 (by decide) rfl mm_X6_refreshes ⟨rfl, rfl⟩ (by rw [hKR]; exact ⟨Nat.le_of_ble_eq_true rfl, Nat.le_of_ble_eq_true rfl⟩) (by rw [hKR]; exact ⟨Nat.le_of_ble_eq_true rfl, Nat.le_of_ble_eq_true rfl⟩) rfl rfl rfl (Nat.le_of_ble_eq_true rfl) dX6_hashOfNumbers_52 rfl (fun r52 D52 P52 hp52 => ?_) 
  obtain ⟨rfl, rfl, rfl⟩ := hp52
  refine pv_i2l (q := 56) C dX6_hashOfNumbers_55 rfl ?_ 
  refine pv_callSl (q := 59) C hKl (c_X6_hashWith l X D P _ _) tw_366 mm_X6_hashWith ⟨rfl, rfl⟩ (by rw [hKR]; exact ⟨Nat.le_of_ble_eq_true rfl, Nat.le_of_ble_eq_true rfl⟩) (by rw [hKR]; exact ⟨Nat.le_of_ble_eq_true rfl, Nat.le_of_ble_eq_true rfl⟩) rfl rfl rfl (Nat.le_of_ble_eq_true rfl) dX6_hashOfNumbers_56 rfl (fun r56 D56 P56 hp56 => ?_) 
  obtain ⟨rfl, rfl, rfl⟩ := hp56
  refine pv_lstore_n (q := 60) C dX6_hashOfNumbers_59 rfl rfl (Nat.le_of_ble_eq_true rfl) rfl ?_ 
  refine pv_lload_n (q := 61) C dX6_hashOfNumbers_60 rfl rfl rfl ?_ 
  refine pv_aload_n (q := 62) C dX6_hashOfNumbers_61 rfl rfl rfl ?_ 
  refine pv_callVi (q := 65) C hKl (c_X6_logLength l X D P M W (by assumption)) tw_390 k0 (by decide) rfl mm_X6_logLength ⟨rfl, rfl⟩ (by rw [hKR]; exact ⟨Nat.le_of_ble_eq_true rfl, Nat.le_of_ble_eq_true rfl⟩) (by rw [hKR]; exact ⟨Nat.le_of_ble_eq_true rfl, Nat.le_of_ble_eq_true rfl⟩) rfl rfl rfl (Nat.le_of_ble_eq_true rfl) dX6_hashOfNumbers_62 rfl (fun r62 D62 P62 hp62 => ?_) 
  obtain ⟨rfl, rfl, rfl⟩ := hp62
  refine pv_i2l (q := 66) C dX6_hashOfNumbers_65 rfl ?_ 
  refine pv_callSl (q := 69) C hKl (c_X6_hashWith l X D P _ _) tw_366 mm_X6_hashWith ⟨rfl, rfl⟩ (by rw [hKR]; exact ⟨Nat.le_of_ble_eq_true rfl, Nat.le_of_ble_eq_true rfl⟩) (by rw [hKR]; exact ⟨Nat.le_of_ble_eq_true rfl, Nat.le_of_ble_eq_true rfl⟩) rfl rfl rfl (Nat.le_of_ble_eq_true rfl) dX6_hashOfNumbers_66 rfl (fun r66 D66 P66 hp66 => ?_) 
  obtain ⟨rfl, rfl, rfl⟩ := hp66
  refine pv_lstore_n (q := 70) C dX6_hashOfNumbers_69 rfl rfl (Nat.le_of_ble_eq_true rfl) rfl ?_ 
  refine pv_lload_n (q := 71) C dX6_hashOfNumbers_70 rfl rfl rfl ?_ 
  refine pv_aload_n (q := 72) C dX6_hashOfNumbers_71 rfl rfl rfl ?_ 
  refine pv_callVi (q := 75) C hKl (c_X6_savedStates l X D P M W (by assumption)) tw_401 k0 (by decide) rfl mm_X6_savedStates ⟨rfl, rfl⟩ (by rw [hKR]; exact ⟨Nat.le_of_ble_eq_true rfl, Nat.le_of_ble_eq_true rfl⟩) (by rw [hKR]; exact ⟨Nat.le_of_ble_eq_true rfl, Nat.le_of_ble_eq_true rfl⟩) rfl rfl rfl (Nat.le_of_ble_eq_true rfl) dX6_hashOfNumbers_72 rfl (fun r72 D72 P72 hp72 => ?_) 
  obtain ⟨rfl, rfl, rfl⟩ := hp72
  refine pv_i2l (q := 76) C dX6_hashOfNumbers_75 rfl ?_ 
  refine pv_callSl (q := 79) C hKl (c_X6_hashWith l X D P _ _) tw_366 mm_X6_hashWith ⟨rfl, rfl⟩ (by rw [hKR]; exact ⟨Nat.le_of_ble_eq_true rfl, Nat.le_of_ble_eq_true rfl⟩) (by rw [hKR]; exact ⟨Nat.le_of_ble_eq_true rfl, Nat.le_of_ble_eq_true rfl⟩) rfl rfl rfl (Nat.le_of_ble_eq_true rfl) dX6_hashOfNumbers_76 rfl (fun r76 D76 P76 hp76 => ?_) 
  obtain ⟨rfl, rfl, rfl⟩ := hp76
  exact pv_lret C (⟨rfl, rfl, rfl⟩) (by decide) (by decide) dX6_hashOfNumbers_79
set_option maxRecDepth 100000 in
set_option maxHeartbeats 4000000 in
theorem c_X6_hashOfPlace (l : Launch) (X : XT) (D : DT) (P : PT) (hfl : l.stackTraces = false) (M : DT) (W : Nat) (h : RI D P M W) (h0 : Int64) (p : Nat) (hp : p < 16) : XG l X yX6_hashOfPlace (.code yX6_hashOfPlace cX6_hashOfPlace 6 (some .long) :: AW) ({ frames := 8, cells := 6, slots := 36, locals := 288 } : Room) [.ref (X.2.2 0), .long h0, .int (nI p)] (qL X (fun r D' P' => r = (pHx (M 7) h0 p) ∧ Fs D D' ∧ P = P')) (fun _ _ _ => False) D P 6 36 := by
  refine xg_of (by decide +kernel) (Nat.le_of_ble_eq_true rfl) ?_
  intro K hKl hKR C ht0 Z
  have hfl : K.2.1.stackTraces = false := by rw [hKl]; exact hfl
  refine PV_lv (lv' := [some (.ref (X.2.2 0)), some (.long h0), none, some (.int (nI p)), none, none]) rfl ?_
  have kz : kRg (nI p) 0 15 = 0 := by unfold kRg; exact if_pos (rg15 hp)
  refine pv_lload_n (q := 1) C dX6_hashOfPlace_0 rfl rfl rfl ?_ 
  refine pv_aload_n (q := 2) C dX6_hashOfPlace_1 rfl rfl rfl ?_ 
  refine pv_iload_n (q := 3) C dX6_hashOfPlace_2 rfl rfl rfl ?_ 
  refine pv_callVix (q := 6) C Z ht0 hKl (c_X6_isFree l X D P (hKl ▸ hfl) M W h _) tw_409 k0 (by decide) rfl mm_X6_isFree ⟨rfl, rfl⟩ (by rw [hKR]; exact ⟨Nat.le_of_ble_eq_true rfl, Nat.le_of_ble_eq_true rfl⟩) (by rw [hKR]; exact ⟨by first | exact Nat.le_of_ble_eq_true rfl | (dsimp only; omega), by first | exact Nat.le_of_ble_eq_true rfl | (dsimp only; omega)⟩) rfl rfl rfl (Nat.le_of_ble_eq_true rfl) dX6_hashOfPlace_3 rfl ((fun e D1 P1 hx => absurd (hx.1.2.symm.trans kz) (by decide))) (by first | omega | exact ⟨by omega, by omega⟩) (fun r3 D3 P3 hp3 => ?_) 
  obtain ⟨-, rv3, hF3, rfl⟩ := hp3
  have hri3 : RI D3 P M W := RI_Fs h hF3
  rw [ix_n (by omega)] at rv3
  have hb3 : r3 = 0 ∨ r3 = 1 := by rw [rv3]; split <;> simp
  refine pv_callSl (q := 9) C hKl (c_X6_bit l X D3 P _ (by assumption)) tw_436 mm_X6_bit ⟨rfl, rfl⟩ (by rw [hKR]; exact ⟨Nat.le_of_ble_eq_true rfl, Nat.le_of_ble_eq_true rfl⟩) (by rw [hKR]; exact ⟨by first | exact Nat.le_of_ble_eq_true rfl | (dsimp only; omega), by first | exact Nat.le_of_ble_eq_true rfl | (dsimp only; omega)⟩) rfl rfl rfl (Nat.le_of_ble_eq_true rfl) dX6_hashOfPlace_6 rfl (fun r6 D6 P6 hp6 => ?_) 
  obtain ⟨rfl, rfl, rfl⟩ := hp6
  refine pv_callSl (q := 12) C hKl (c_X6_hashWith l X D3 P _ _) tw_366 mm_X6_hashWith ⟨rfl, rfl⟩ (by rw [hKR]; exact ⟨Nat.le_of_ble_eq_true rfl, Nat.le_of_ble_eq_true rfl⟩) (by rw [hKR]; exact ⟨by first | exact Nat.le_of_ble_eq_true rfl | (dsimp only; omega), by first | exact Nat.le_of_ble_eq_true rfl | (dsimp only; omega)⟩) rfl rfl rfl (Nat.le_of_ble_eq_true rfl) dX6_hashOfPlace_9 rfl (fun r9 D9 P9 hp9 => ?_) 
  obtain ⟨rfl, rfl, rfl⟩ := hp9
  refine pv_lstore (q := 14) C dX6_hashOfPlace_12 rfl (Nat.le_of_ble_eq_true rfl) rfl ?_ 
  refine pv_aload_n (q := 15) C dX6_hashOfPlace_14 rfl rfl rfl ?_ 
  refine pv_iload_n (q := 16) C dX6_hashOfPlace_15 rfl rfl rfl ?_ 
  refine pv_callVix (q := 19) C Z ht0 hKl (c_X6_isFree l X D3 P (hKl ▸ hfl) M W hri3 _) tw_409 k0 (by decide) rfl mm_X6_isFree ⟨rfl, rfl⟩ (by rw [hKR]; exact ⟨Nat.le_of_ble_eq_true rfl, Nat.le_of_ble_eq_true rfl⟩) (by rw [hKR]; exact ⟨by first | exact Nat.le_of_ble_eq_true rfl | (dsimp only; omega), by first | exact Nat.le_of_ble_eq_true rfl | (dsimp only; omega)⟩) rfl rfl rfl (Nat.le_of_ble_eq_true rfl) dX6_hashOfPlace_16 rfl ((fun e D1 P1 hx => absurd (hx.1.2.symm.trans kz) (by decide))) (by first | omega | exact ⟨by omega, by omega⟩) (fun r16 D16 P16 hp16 => ?_) 
  obtain ⟨-, rv16, hF16, rfl⟩ := hp16
  have hri16 : RI D16 P M W := RI_Fs hri3 hF16
  rw [ix_n (by omega)] at rv16
  refine pv_if_eq (q := 22) (tgt := 25) C dX6_hashOfPlace_19 (by decide) rfl (fun c_19 => ?_) (fun c_19 => ?_) 
  · have hne : ¬ M 7 p = 0 := fun z => by
      rw [rv16, if_pos z] at c_19
      exact absurd c_19 (by decide)
    refine pv_lload (q := 27) C dX6_hashOfPlace_25 rfl rfl ?_ 
    refine pv_aload_n (q := 28) C dX6_hashOfPlace_27 rfl rfl rfl ?_ 
    refine pv_iload_n (q := 29) C dX6_hashOfPlace_28 rfl rfl rfl ?_ 
    refine pv_callVix (q := 32) C Z ht0 hKl (c_X6_groupAt l X D16 P (hKl ▸ hfl) M W hri16 _) tw_439 k0 (by decide) rfl mm_X6_groupAt ⟨rfl, rfl⟩ (by rw [hKR]; exact ⟨Nat.le_of_ble_eq_true rfl, Nat.le_of_ble_eq_true rfl⟩) (by rw [hKR]; exact ⟨by first | exact Nat.le_of_ble_eq_true rfl | (dsimp only; omega), by first | exact Nat.le_of_ble_eq_true rfl | (dsimp only; omega)⟩) rfl rfl rfl (Nat.le_of_ble_eq_true rfl) dX6_hashOfPlace_29 rfl ((fun e D1 P1 hx => by rcases hx.1 with z | z <;> exact absurd (z.2.symm.trans (by unfold kRow; rw [if_pos (rg15 hp), ix_n (by omega), if_neg hne] : kRow (M 7) (nI p) = 0)) (by decide))) (by first | omega | exact ⟨by omega, by omega⟩) (fun r29 D29 P29 hp29 => ?_) 
    obtain ⟨-, rv29, hF29, rfl⟩ := hp29
    have hri29 : RI D29 P M W := RI_Fs hri16 hF29
    rw [ix_n (by omega)] at rv29
    refine pv_i2l (q := 33) C dX6_hashOfPlace_32 rfl ?_ 
    refine pv_callSl (q := 36) C hKl (c_X6_hashWith l X D29 P _ _) tw_366 mm_X6_hashWith ⟨rfl, rfl⟩ (by rw [hKR]; exact ⟨Nat.le_of_ble_eq_true rfl, Nat.le_of_ble_eq_true rfl⟩) (by rw [hKR]; exact ⟨by first | exact Nat.le_of_ble_eq_true rfl | (dsimp only; omega), by first | exact Nat.le_of_ble_eq_true rfl | (dsimp only; omega)⟩) rfl rfl rfl (Nat.le_of_ble_eq_true rfl) dX6_hashOfPlace_33 rfl (fun r33 D33 P33 hp33 => ?_) 
    obtain ⟨rfl, rfl, rfl⟩ := hp33
    refine pv_lstore (q := 38) C dX6_hashOfPlace_36 rfl (Nat.le_of_ble_eq_true rfl) rfl ?_ 
    refine pv_lload (q := 40) C dX6_hashOfPlace_38 rfl rfl ?_ 
    refine pv_aload_n (q := 41) C dX6_hashOfPlace_40 rfl rfl rfl ?_ 
    refine pv_iload_n (q := 42) C dX6_hashOfPlace_41 rfl rfl rfl ?_ 
    refine pv_callVix (q := 45) C Z ht0 hKl (c_X6_amountAt l X D29 P (hKl ▸ hfl) M W hri29 _) tw_448 k0 (by decide) rfl mm_X6_amountAt ⟨rfl, rfl⟩ (by rw [hKR]; exact ⟨Nat.le_of_ble_eq_true rfl, Nat.le_of_ble_eq_true rfl⟩) (by rw [hKR]; exact ⟨by first | exact Nat.le_of_ble_eq_true rfl | (dsimp only; omega), by first | exact Nat.le_of_ble_eq_true rfl | (dsimp only; omega)⟩) rfl rfl rfl (Nat.le_of_ble_eq_true rfl) dX6_hashOfPlace_42 rfl ((fun e D1 P1 hx => by rcases hx.1 with z | z <;> exact absurd (z.2.symm.trans (by unfold kRow; rw [if_pos (rg15 hp), ix_n (by omega), if_neg hne] : kRow (M 7) (nI p) = 0)) (by decide))) (by first | omega | exact ⟨by omega, by omega⟩) (fun r42 D42 P42 hp42 => ?_) 
    obtain ⟨-, rv42, hF42, rfl⟩ := hp42
    have hri42 : RI D42 P M W := RI_Fs hri29 hF42
    rw [ix_n (by omega)] at rv42
    refine pv_i2l (q := 46) C dX6_hashOfPlace_45 rfl ?_ 
    refine pv_callSl (q := 49) C hKl (c_X6_hashWith l X D42 P _ _) tw_366 mm_X6_hashWith ⟨rfl, rfl⟩ (by rw [hKR]; exact ⟨Nat.le_of_ble_eq_true rfl, Nat.le_of_ble_eq_true rfl⟩) (by rw [hKR]; exact ⟨by first | exact Nat.le_of_ble_eq_true rfl | (dsimp only; omega), by first | exact Nat.le_of_ble_eq_true rfl | (dsimp only; omega)⟩) rfl rfl rfl (Nat.le_of_ble_eq_true rfl) dX6_hashOfPlace_46 rfl (fun r46 D46 P46 hp46 => ?_) 
    obtain ⟨rfl, rfl, rfl⟩ := hp46
    exact XK.of (pv_lret C (⟨by
        rw [rv3, rv29, rv42, if_neg hne]
        unfold pHx
        rw [if_neg hne]
        rfl, ((hF3.tr hF16).tr hF29).tr hF42, rfl⟩) (by decide) (by decide) dX6_hashOfPlace_49)
  · refine pv_lload (q := 24) C dX6_hashOfPlace_22 rfl rfl ?_
    exact XK.of (pv_lret C (⟨by
        have he : M 7 p = 0 := Classical.byContradiction (fun z => c_19 (by rw [rv16, if_neg z]))
        rw [rv3, if_pos he]
        unfold pHx
        rw [if_pos he]
        rfl, hF3.tr hF16, rfl⟩) (by decide) (by decide) dX6_hashOfPlace_24)
set_option maxRecDepth 100000 in
set_option maxHeartbeats 4000000 in
theorem c_X6_hashOfView (l : Launch) (X : XT) (D : DT) (P : PT) (hfl : l.stackTraces = false) (M : DT) (W : Nat) (h : RI D P M W) (h0 : Int64) (v : Nat) (hv : v < 3) : XG l X yX6_hashOfView (.code yX6_hashOfView cX6_hashOfView 6 (some .long) :: AW) ({ frames := 8, cells := 9, slots := 54, locals := 288 } : Room) [.ref (X.2.2 0), .long h0, .int (nI v)] (qL X (fun r D' P' => r = (vH0 h0 (M 7) v) ∧ Fs D D' ∧ P = P')) (fun _ _ _ => False) D P 9 54 := by
  refine xg_of (by decide +kernel) (Nat.le_of_ble_eq_true rfl) ?_
  intro K hKl hKR C ht0 Z
  have hfl : K.2.1.stackTraces = false := by rw [hKl]; exact hfl
  refine PV_lv (lv' := [some (.ref (X.2.2 0)), some (.long h0), none, some (.int (nI v)), none, none]) rfl ?_
  obtain ⟨⟨G, A, wr, nx, hw, hR, hT, hI, hAM⟩, ⟨s, hs5, hs3, hs0, hsj⟩, hP1, hP2, ⟨hk4, hk01, hkS⟩, n, hn60, hn9, hn1, hnk⟩ := id h
  obtain ⟨f1, f2, f3, f4, f5, f6, f7⟩ := Rp_fld hR hv
  have f8 := (hR.2.2.2.2.1 v hv).2.2.2.2.2.2.2.1
  have kz : kView (nI v) = 0 := by unfold kView; exact if_pos (rg2 hv)
  refine pv_lload_n (q := 1) C dX6_hashOfView_0 rfl rfl rfl ?_ 
  refine pv_aload_n (q := 2) C dX6_hashOfView_1 rfl rfl rfl ?_ 
  refine pv_iload_n (q := 3) C dX6_hashOfView_2 rfl rfl rfl ?_ 
  refine pv_callVix (q := 6) C Z ht0 hKl (c_X6_isNapping l X D P (hKl ▸ hfl) M W h _) tw_456 k0 (by decide) rfl mm_X6_isNapping ⟨rfl, rfl⟩ (by rw [hKR]; exact ⟨Nat.le_of_ble_eq_true rfl, Nat.le_of_ble_eq_true rfl⟩) (by rw [hKR]; exact ⟨by first | exact Nat.le_of_ble_eq_true rfl | (dsimp only; omega), by first | exact Nat.le_of_ble_eq_true rfl | (dsimp only; omega)⟩) rfl rfl rfl (Nat.le_of_ble_eq_true rfl) dX6_hashOfView_3 rfl ((fun e D1 P1 hx => absurd (hx.1.2.symm.trans kz) (by decide))) (by first | omega | exact ⟨by omega, by omega⟩) (fun r3 D3 P3 hp3 => ?_) 
  obtain ⟨-, rv3, hF3, rfl⟩ := hp3
  have hri3 : RI D3 P M W := RI_Fs h hF3
  rw [ix_n (by omega)] at rv3
  have hv32 : r3 = M 7 (32 + 38 * v + 32) := by rw [rv3]; rcases f8 with z | z <;> rw [z] <;> rfl
  have hb3 : r3 = 0 ∨ r3 = 1 := by rw [hv32]; exact f8
  refine pv_callSl (q := 9) C hKl (c_X6_bit l X D3 P _ (by assumption)) tw_436 mm_X6_bit ⟨rfl, rfl⟩ (by rw [hKR]; exact ⟨Nat.le_of_ble_eq_true rfl, Nat.le_of_ble_eq_true rfl⟩) (by rw [hKR]; exact ⟨by first | exact Nat.le_of_ble_eq_true rfl | (dsimp only; omega), by first | exact Nat.le_of_ble_eq_true rfl | (dsimp only; omega)⟩) rfl rfl rfl (Nat.le_of_ble_eq_true rfl) dX6_hashOfView_6 rfl (fun r6 D6 P6 hp6 => ?_) 
  obtain ⟨rfl, rfl, rfl⟩ := hp6
  refine pv_callSl (q := 12) C hKl (c_X6_hashWith l X D3 P _ _) tw_366 mm_X6_hashWith ⟨rfl, rfl⟩ (by rw [hKR]; exact ⟨Nat.le_of_ble_eq_true rfl, Nat.le_of_ble_eq_true rfl⟩) (by rw [hKR]; exact ⟨by first | exact Nat.le_of_ble_eq_true rfl | (dsimp only; omega), by first | exact Nat.le_of_ble_eq_true rfl | (dsimp only; omega)⟩) rfl rfl rfl (Nat.le_of_ble_eq_true rfl) dX6_hashOfView_9 rfl (fun r9 D9 P9 hp9 => ?_) 
  obtain ⟨hw9, rfl, rfl⟩ := hp9
  refine pv_lstore (q := 14) C dX6_hashOfView_12 rfl (Nat.le_of_ble_eq_true rfl) rfl ?_ 
  refine PV_lv (lv' := [some (.ref (X.2.2 0)), some (.long h0), none, some (.int (nI v)), some (.long r9), none]) rfl ?_
  refine pv_lload (q := 16) C dX6_hashOfView_14 rfl rfl ?_ 
  refine pv_aload_n (q := 17) C dX6_hashOfView_16 rfl rfl rfl ?_ 
  refine pv_iload_n (q := 18) C dX6_hashOfView_17 rfl rfl rfl ?_ 
  refine pv_callVix (q := 21) C Z ht0 hKl (c_X6_napOf l X D3 P (hKl ▸ hfl) M W hri3 _) tw_464 k0 (by decide) rfl mm_X6_napOf ⟨rfl, rfl⟩ (by rw [hKR]; exact ⟨Nat.le_of_ble_eq_true rfl, Nat.le_of_ble_eq_true rfl⟩) (by rw [hKR]; exact ⟨by first | exact Nat.le_of_ble_eq_true rfl | (dsimp only; omega), by first | exact Nat.le_of_ble_eq_true rfl | (dsimp only; omega)⟩) rfl rfl rfl (Nat.le_of_ble_eq_true rfl) dX6_hashOfView_18 rfl ((fun e D1 P1 hx => absurd (hx.1.2.symm.trans kz) (by decide))) (by first | omega | exact ⟨by omega, by omega⟩) (fun r18 D18 P18 hp18 => ?_) 
  obtain ⟨-, rv18, hF18, rfl⟩ := hp18
  have hri18 : RI D18 P M W := RI_Fs hri3 hF18
  rw [ix_n (by omega)] at rv18
  refine pv_i2l (q := 22) C dX6_hashOfView_21 rfl ?_ 
  refine pv_callSl (q := 25) C hKl (c_X6_hashWith l X D18 P _ _) tw_366 mm_X6_hashWith ⟨rfl, rfl⟩ (by rw [hKR]; exact ⟨Nat.le_of_ble_eq_true rfl, Nat.le_of_ble_eq_true rfl⟩) (by rw [hKR]; exact ⟨by first | exact Nat.le_of_ble_eq_true rfl | (dsimp only; omega), by first | exact Nat.le_of_ble_eq_true rfl | (dsimp only; omega)⟩) rfl rfl rfl (Nat.le_of_ble_eq_true rfl) dX6_hashOfView_22 rfl (fun r22 D22 P22 hp22 => ?_) 
  obtain ⟨hw22, rfl, rfl⟩ := hp22
  refine pv_lstore (q := 27) C dX6_hashOfView_25 rfl (Nat.le_of_ble_eq_true rfl) rfl ?_ 
  refine PV_lv (lv' := [some (.ref (X.2.2 0)), some (.long h0), none, some (.int (nI v)), some (.long r22), none]) rfl ?_
  refine pv_lload (q := 29) C dX6_hashOfView_27 rfl rfl ?_ 
  refine pv_aload_n (q := 30) C dX6_hashOfView_29 rfl rfl rfl ?_ 
  refine pv_iload_n (q := 31) C dX6_hashOfView_30 rfl rfl rfl ?_ 
  refine pv_callVix (q := 34) C Z ht0 hKl (c_X6_filterOf l X D18 P (hKl ▸ hfl) M W hri18 _) tw_468 k0 (by decide) rfl mm_X6_filterOf ⟨rfl, rfl⟩ (by rw [hKR]; exact ⟨Nat.le_of_ble_eq_true rfl, Nat.le_of_ble_eq_true rfl⟩) (by rw [hKR]; exact ⟨by first | exact Nat.le_of_ble_eq_true rfl | (dsimp only; omega), by first | exact Nat.le_of_ble_eq_true rfl | (dsimp only; omega)⟩) rfl rfl rfl (Nat.le_of_ble_eq_true rfl) dX6_hashOfView_31 rfl ((fun e D1 P1 hx => absurd (hx.1.2.symm.trans kz) (by decide))) (by first | omega | exact ⟨by omega, by omega⟩) (fun r31 D31 P31 hp31 => ?_) 
  obtain ⟨-, rv31, hF31, rfl⟩ := hp31
  have hri31 : RI D31 P M W := RI_Fs hri18 hF31
  rw [ix_n (by omega)] at rv31
  refine pv_i2l (q := 35) C dX6_hashOfView_34 rfl ?_ 
  refine pv_callSl (q := 38) C hKl (c_X6_hashWith l X D31 P _ _) tw_366 mm_X6_hashWith ⟨rfl, rfl⟩ (by rw [hKR]; exact ⟨Nat.le_of_ble_eq_true rfl, Nat.le_of_ble_eq_true rfl⟩) (by rw [hKR]; exact ⟨by first | exact Nat.le_of_ble_eq_true rfl | (dsimp only; omega), by first | exact Nat.le_of_ble_eq_true rfl | (dsimp only; omega)⟩) rfl rfl rfl (Nat.le_of_ble_eq_true rfl) dX6_hashOfView_35 rfl (fun r35 D35 P35 hp35 => ?_) 
  obtain ⟨hw35, rfl, rfl⟩ := hp35
  refine pv_lstore (q := 40) C dX6_hashOfView_38 rfl (Nat.le_of_ble_eq_true rfl) rfl ?_ 
  refine PV_lv (lv' := [some (.ref (X.2.2 0)), some (.long h0), none, some (.int (nI v)), some (.long r35), none]) rfl ?_
  refine pv_lload (q := 42) C dX6_hashOfView_40 rfl rfl ?_ 
  refine pv_aload_n (q := 43) C dX6_hashOfView_42 rfl rfl rfl ?_ 
  refine pv_iload_n (q := 44) C dX6_hashOfView_43 rfl rfl rfl ?_ 
  refine pv_callVix (q := 47) C Z ht0 hKl (c_X6_waiting l X D31 P (hKl ▸ hfl) M W hri31 _) tw_472 k0 (by decide) rfl mm_X6_waiting ⟨rfl, rfl⟩ (by rw [hKR]; exact ⟨Nat.le_of_ble_eq_true rfl, Nat.le_of_ble_eq_true rfl⟩) (by rw [hKR]; exact ⟨by first | exact Nat.le_of_ble_eq_true rfl | (dsimp only; omega), by first | exact Nat.le_of_ble_eq_true rfl | (dsimp only; omega)⟩) rfl rfl rfl (Nat.le_of_ble_eq_true rfl) dX6_hashOfView_44 rfl ((fun e D1 P1 hx => absurd (hx.1.2.symm.trans kz) (by decide))) (by first | omega | exact ⟨by omega, by omega⟩) (fun r44 D44 P44 hp44 => ?_) 
  obtain ⟨-, rv44, hF44, rfl⟩ := hp44
  have hri44 : RI D44 P M W := RI_Fs hri31 hF44
  rw [ix_n (by omega)] at rv44
  refine pv_i2l (q := 48) C dX6_hashOfView_47 rfl ?_ 
  refine pv_callSl (q := 51) C hKl (c_X6_hashWith l X D44 P _ _) tw_366 mm_X6_hashWith ⟨rfl, rfl⟩ (by rw [hKR]; exact ⟨Nat.le_of_ble_eq_true rfl, Nat.le_of_ble_eq_true rfl⟩) (by rw [hKR]; exact ⟨by first | exact Nat.le_of_ble_eq_true rfl | (dsimp only; omega), by first | exact Nat.le_of_ble_eq_true rfl | (dsimp only; omega)⟩) rfl rfl rfl (Nat.le_of_ble_eq_true rfl) dX6_hashOfView_48 rfl (fun r48 D48 P48 hp48 => ?_) 
  obtain ⟨hw48, rfl, rfl⟩ := hp48
  refine pv_lstore (q := 53) C dX6_hashOfView_51 rfl (Nat.le_of_ble_eq_true rfl) rfl ?_ 
  refine PV_lv (lv' := [some (.ref (X.2.2 0)), some (.long h0), none, some (.int (nI v)), some (.long r48), none]) rfl ?_
  refine pv_lload (q := 55) C dX6_hashOfView_53 rfl rfl ?_ 
  refine pv_aload_n (q := 56) C dX6_hashOfView_55 rfl rfl rfl ?_ 
  refine pv_iload_n (q := 57) C dX6_hashOfView_56 rfl rfl rfl ?_ 
  refine pv_callVix (q := 60) C Z ht0 hKl (c_X6_waitingByNumbers l X D44 P (hKl ▸ hfl) M W hri44 _) tw_483 k0 (by decide) rfl mm_X6_waitingByNumbers ⟨rfl, rfl⟩ (by rw [hKR]; exact ⟨Nat.le_of_ble_eq_true rfl, Nat.le_of_ble_eq_true rfl⟩) (by rw [hKR]; exact ⟨by first | exact Nat.le_of_ble_eq_true rfl | (dsimp only; omega), by first | exact Nat.le_of_ble_eq_true rfl | (dsimp only; omega)⟩) rfl rfl rfl (Nat.le_of_ble_eq_true rfl) dX6_hashOfView_57 rfl ((fun e D1 P1 hx => absurd (hx.1.2.symm.trans kz) (by decide))) (by first | omega | exact ⟨by omega, by omega⟩) (fun r57 D57 P57 hp57 => ?_) 
  obtain ⟨-, rv57, hF57, rfl⟩ := hp57
  have hri57 : RI D57 P M W := RI_Fs hri44 hF57
  rw [ix_n (by omega)] at rv57
  refine pv_i2l (q := 61) C dX6_hashOfView_60 rfl ?_ 
  refine pv_callSl (q := 64) C hKl (c_X6_hashWith l X D57 P _ _) tw_366 mm_X6_hashWith ⟨rfl, rfl⟩ (by rw [hKR]; exact ⟨Nat.le_of_ble_eq_true rfl, Nat.le_of_ble_eq_true rfl⟩) (by rw [hKR]; exact ⟨by first | exact Nat.le_of_ble_eq_true rfl | (dsimp only; omega), by first | exact Nat.le_of_ble_eq_true rfl | (dsimp only; omega)⟩) rfl rfl rfl (Nat.le_of_ble_eq_true rfl) dX6_hashOfView_61 rfl (fun r61 D61 P61 hp61 => ?_) 
  obtain ⟨hw61, rfl, rfl⟩ := hp61
  refine pv_lstore (q := 66) C dX6_hashOfView_64 rfl (Nat.le_of_ble_eq_true rfl) rfl ?_ 
  refine PV_lv (lv' := [some (.ref (X.2.2 0)), some (.long h0), none, some (.int (nI v)), some (.long r61), none]) rfl ?_
  refine pv_lload (q := 68) C dX6_hashOfView_66 rfl rfl ?_ 
  refine pv_aload_n (q := 69) C dX6_hashOfView_68 rfl rfl rfl ?_ 
  refine pv_iload_n (q := 70) C dX6_hashOfView_69 rfl rfl rfl ?_ 
  refine pv_callVix (q := 73) C Z ht0 hKl (c_X6_matters l X D57 P (hKl ▸ hfl) M W hri57 _) tw_487 k0 (by decide) rfl mm_X6_matters ⟨rfl, rfl⟩ (by rw [hKR]; exact ⟨Nat.le_of_ble_eq_true rfl, Nat.le_of_ble_eq_true rfl⟩) (by rw [hKR]; exact ⟨by first | exact Nat.le_of_ble_eq_true rfl | (dsimp only; omega), by first | exact Nat.le_of_ble_eq_true rfl | (dsimp only; omega)⟩) rfl rfl rfl (Nat.le_of_ble_eq_true rfl) dX6_hashOfView_70 rfl ((fun e D1 P1 hx => absurd (hx.1.2.symm.trans kz) (by decide))) (by first | omega | exact ⟨by omega, by omega⟩) (fun r70 D70 P70 hp70 => ?_) 
  obtain ⟨-, rv70, hF70, rfl⟩ := hp70
  have hri70 : RI D70 P M W := RI_Fs hri57 hF70
  rw [ix_n (by omega)] at rv70
  refine pv_i2l (q := 74) C dX6_hashOfView_73 rfl ?_ 
  refine pv_callSl (q := 77) C hKl (c_X6_hashWith l X D70 P _ _) tw_366 mm_X6_hashWith ⟨rfl, rfl⟩ (by rw [hKR]; exact ⟨Nat.le_of_ble_eq_true rfl, Nat.le_of_ble_eq_true rfl⟩) (by rw [hKR]; exact ⟨by first | exact Nat.le_of_ble_eq_true rfl | (dsimp only; omega), by first | exact Nat.le_of_ble_eq_true rfl | (dsimp only; omega)⟩) rfl rfl rfl (Nat.le_of_ble_eq_true rfl) dX6_hashOfView_74 rfl (fun r74 D74 P74 hp74 => ?_) 
  obtain ⟨hw74, rfl, rfl⟩ := hp74
  refine pv_lstore (q := 79) C dX6_hashOfView_77 rfl (Nat.le_of_ble_eq_true rfl) rfl ?_ 
  refine PV_lv (lv' := [some (.ref (X.2.2 0)), some (.long h0), none, some (.int (nI v)), some (.long r74), none]) rfl ?_
  refine pv_lload (q := 81) C dX6_hashOfView_79 rfl rfl ?_ 
  refine pv_aload_n (q := 82) C dX6_hashOfView_81 rfl rfl rfl ?_ 
  refine pv_iload_n (q := 83) C dX6_hashOfView_82 rfl rfl rfl ?_ 
  refine pv_callVix (q := 86) C Z ht0 hKl (c_X6_unlikeGroups l X D70 P (hKl ▸ hfl) M W hri70 _) tw_491 k0 (by decide) rfl mm_X6_unlikeGroups ⟨rfl, rfl⟩ (by rw [hKR]; exact ⟨Nat.le_of_ble_eq_true rfl, Nat.le_of_ble_eq_true rfl⟩) (by rw [hKR]; exact ⟨by first | exact Nat.le_of_ble_eq_true rfl | (dsimp only; omega), by first | exact Nat.le_of_ble_eq_true rfl | (dsimp only; omega)⟩) rfl rfl rfl (Nat.le_of_ble_eq_true rfl) dX6_hashOfView_83 rfl ((fun e D1 P1 hx => absurd (hx.1.2.symm.trans kz) (by decide))) (by first | omega | exact ⟨by omega, by omega⟩) (fun r83 D83 P83 hp83 => ?_) 
  obtain ⟨-, rv83, hF83, rfl⟩ := hp83
  have hri83 : RI D83 P M W := RI_Fs hri70 hF83
  rw [ix_n (by omega)] at rv83
  refine pv_i2l (q := 87) C dX6_hashOfView_86 rfl ?_ 
  refine pv_callSl (q := 90) C hKl (c_X6_hashWith l X D83 P _ _) tw_366 mm_X6_hashWith ⟨rfl, rfl⟩ (by rw [hKR]; exact ⟨Nat.le_of_ble_eq_true rfl, Nat.le_of_ble_eq_true rfl⟩) (by rw [hKR]; exact ⟨by first | exact Nat.le_of_ble_eq_true rfl | (dsimp only; omega), by first | exact Nat.le_of_ble_eq_true rfl | (dsimp only; omega)⟩) rfl rfl rfl (Nat.le_of_ble_eq_true rfl) dX6_hashOfView_87 rfl (fun r87 D87 P87 hp87 => ?_) 
  obtain ⟨hw87, rfl, rfl⟩ := hp87
  refine pv_lstore (q := 92) C dX6_hashOfView_90 rfl (Nat.le_of_ble_eq_true rfl) rfl ?_ 
  refine PV_lv (lv' := [some (.ref (X.2.2 0)), some (.long h0), none, some (.int (nI v)), some (.long r87), none]) rfl ?_
  refine pv_lload (q := 94) C dX6_hashOfView_92 rfl rfl ?_ 
  refine pv_aload_n (q := 95) C dX6_hashOfView_94 rfl rfl rfl ?_ 
  refine pv_iload_n (q := 96) C dX6_hashOfView_95 rfl rfl rfl ?_ 
  refine pv_callVix (q := 99) C Z ht0 hKl (c_X6_unlikeIfWoken l X D83 P (hKl ▸ hfl) M W hri83 _) tw_535 k0 (by decide) rfl mm_X6_unlikeIfWoken ⟨rfl, rfl⟩ (by rw [hKR]; exact ⟨Nat.le_of_ble_eq_true rfl, Nat.le_of_ble_eq_true rfl⟩) (by rw [hKR]; exact ⟨by first | exact Nat.le_of_ble_eq_true rfl | (dsimp only; omega), by first | exact Nat.le_of_ble_eq_true rfl | (dsimp only; omega)⟩) rfl rfl rfl (Nat.le_of_ble_eq_true rfl) dX6_hashOfView_96 rfl ((fun e D1 P1 hx => absurd (hx.1.2.symm.trans kz) (by decide))) (by first | omega | exact ⟨by omega, by omega⟩) (fun r96 D96 P96 hp96 => ?_) 
  obtain ⟨-, rv96, hF96, rfl⟩ := hp96
  have hri96 : RI D96 P M W := RI_Fs hri83 hF96
  refine pv_i2l (q := 100) C dX6_hashOfView_99 rfl ?_ 
  refine pv_callSl (q := 103) C hKl (c_X6_hashWith l X D96 P _ _) tw_366 mm_X6_hashWith ⟨rfl, rfl⟩ (by rw [hKR]; exact ⟨Nat.le_of_ble_eq_true rfl, Nat.le_of_ble_eq_true rfl⟩) (by rw [hKR]; exact ⟨by first | exact Nat.le_of_ble_eq_true rfl | (dsimp only; omega), by first | exact Nat.le_of_ble_eq_true rfl | (dsimp only; omega)⟩) rfl rfl rfl (Nat.le_of_ble_eq_true rfl) dX6_hashOfView_100 rfl (fun r100 D100 P100 hp100 => ?_) 
  obtain ⟨hw100, rfl, rfl⟩ := hp100
  refine pv_lstore (q := 105) C dX6_hashOfView_103 rfl (Nat.le_of_ble_eq_true rfl) rfl ?_ 
  refine PV_lv (lv' := [some (.ref (X.2.2 0)), some (.long h0), none, some (.int (nI v)), some (.long r100), none]) rfl ?_
  refine pv_lload (q := 107) C dX6_hashOfView_105 rfl rfl ?_ 
  refine pv_aload_n (q := 108) C dX6_hashOfView_107 rfl rfl rfl ?_ 
  refine pv_iload_n (q := 109) C dX6_hashOfView_108 rfl rfl rfl ?_ 
  refine pv_callVix (q := 112) C Z ht0 hKl (c_X6_wakesIn l X D96 P (hKl ▸ hfl) M W hri96 _) tw_549 k0 (by decide) rfl mm_X6_wakesIn ⟨rfl, rfl⟩ (by rw [hKR]; exact ⟨Nat.le_of_ble_eq_true rfl, Nat.le_of_ble_eq_true rfl⟩) (by rw [hKR]; exact ⟨by first | exact Nat.le_of_ble_eq_true rfl | (dsimp only; omega), by first | exact Nat.le_of_ble_eq_true rfl | (dsimp only; omega)⟩) rfl rfl rfl (Nat.le_of_ble_eq_true rfl) dX6_hashOfView_109 rfl ((fun e D1 P1 hx => absurd (hx.1.2.symm.trans kz) (by decide))) (by first | omega | exact ⟨by omega, by omega⟩) (fun r109 D109 P109 hp109 => ?_) 
  obtain ⟨-, rv109, hF109, rfl⟩ := hp109
  have hri109 : RI D109 P M W := RI_Fs hri96 hF109
  rw [ix_n (by omega)] at rv109
  refine pv_i2l (q := 113) C dX6_hashOfView_112 rfl ?_ 
  refine pv_callSl (q := 116) C hKl (c_X6_hashWith l X D109 P _ _) tw_366 mm_X6_hashWith ⟨rfl, rfl⟩ (by rw [hKR]; exact ⟨Nat.le_of_ble_eq_true rfl, Nat.le_of_ble_eq_true rfl⟩) (by rw [hKR]; exact ⟨by first | exact Nat.le_of_ble_eq_true rfl | (dsimp only; omega), by first | exact Nat.le_of_ble_eq_true rfl | (dsimp only; omega)⟩) rfl rfl rfl (Nat.le_of_ble_eq_true rfl) dX6_hashOfView_113 rfl (fun r113 D113 P113 hp113 => ?_) 
  obtain ⟨hw113, rfl, rfl⟩ := hp113
  exact XK.of (pv_lret C (⟨by rw [hw113, hw100, hw87, hw74, hw61, hw48, hw35, hw22, hw9, hv32, rv18, rv31, rv44, rv57, rv70, rv83, rv96, rv109]; rfl, ((((((((hF3).tr hF18).tr hF31).tr hF44).tr hF57).tr hF70).tr hF83).tr hF96).tr hF109, rfl⟩) (by decide) (by decide) dX6_hashOfView_116)
set_option maxRecDepth 100000 in
set_option maxHeartbeats 4000000 in
theorem c_X6_hashOfGroup (l : Launch) (X : XT) (D : DT) (P : PT) (hfl : l.stackTraces = false) (M : DT) (W : Nat) (h : RI D P M W) (h0 : Int64) (v : Nat) (hv : v < 3) (g : Nat) (hg : g < 4) : XG l X yX6_hashOfGroup (.code yX6_hashOfGroup cX6_hashOfGroup 9 (some .long) :: AW) ({ frames := 8, cells := 4, slots := 24, locals := 288 } : Room) [.ref (X.2.2 0), .long h0, .int (nI v), .int (nI g)] (qL X (fun r D' P' => r = (gH h0 (M 7) v g) ∧ Fs D D' ∧ P = P')) (fun _ _ _ => False) D P 4 24 := by
  refine xg_of (by decide +kernel) (Nat.le_of_ble_eq_true rfl) ?_
  intro K hKl hKR C ht0 Z
  have hfl : K.2.1.stackTraces = false := by rw [hKl]; exact hfl
  refine PV_lv (lv' := [some (.ref (X.2.2 0)), some (.long h0), none, some (.int (nI v)), some (.int (nI g)), none, none, none, none]) rfl ?_
  obtain ⟨⟨G, A, wr, nx, hw, hR, hT, hI, hAM⟩, ⟨s, hs5, hs3, hs0, hsj⟩, hP1, hP2, ⟨hk4, hk01, hkS⟩, n, hn60, hn9, hn1, hnk⟩ := id h
  have kz : kGr (nI v) (nI g) = 0 := kG_iff.mpr ⟨rg2 hv, rg3x hg⟩
  refine pv_aload_n (q := 1) C dX6_hashOfGroup_0 rfl rfl rfl ?_ 
  refine pv_iload_n (q := 2) C dX6_hashOfGroup_1 rfl rfl rfl ?_ 
  refine pv_iload (q := 4) C dX6_hashOfGroup_2 rfl rfl ?_ 
  refine pv_callVrx (q := 7) C Z ht0 hKl (c_X6_heldBy l X D P (hKl ▸ hfl) M W h _ _) tw_557 k0 (by decide) rfl mm_X6_heldBy ⟨rfl, rfl⟩ (by rw [hKR]; exact ⟨Nat.le_of_ble_eq_true rfl, Nat.le_of_ble_eq_true rfl⟩) (by rw [hKR]; exact ⟨by first | exact Nat.le_of_ble_eq_true rfl | (dsimp only; omega), by first | exact Nat.le_of_ble_eq_true rfl | (dsimp only; omega)⟩) rfl rfl rfl (Nat.le_of_ble_eq_true rfl) dX6_hashOfGroup_4 rfl ((fun e D1 P1 hx => absurd (hx.1.2.symm.trans kz) (by decide))) (by first | omega | exact ⟨by omega, by omega⟩) (fun r4 D4 P4 hp4 => ?_) 
  obtain ⟨-, ⟨v2, g2, hv2, hg2, ev, eg, rfl⟩, rfl, rfl⟩ := hp4
  have ev2 := nI_inj (by omega) (by omega) ev
  have eg2 := nI_inj (by omega) (by omega) eg
  subst ev2 eg2
  have kH := kh_all v hv g hg
  obtain ⟨h1, h2, h3⟩ := held_V hR hv hg
  have hhl := VN_le (M 7) v g
  refine pv_astore (q := 9) C dX6_hashOfGroup_7 rfl (Nat.le_of_ble_eq_true rfl) rfl ?_ 
  refine pv_aload_n (q := 10) C dX6_hashOfGroup_9 rfl rfl rfl ?_ 
  refine pv_iload_n (q := 11) C dX6_hashOfGroup_10 rfl rfl rfl ?_ 
  refine pv_iload (q := 13) C dX6_hashOfGroup_11 rfl rfl ?_ 
  refine pv_callVrx (q := 16) C Z ht0 hKl (c_X6_inTable l X D P (hKl ▸ hfl) M W h _ _) tw_565 k0 (by decide) rfl mm_X6_inTable ⟨rfl, rfl⟩ (by rw [hKR]; exact ⟨Nat.le_of_ble_eq_true rfl, Nat.le_of_ble_eq_true rfl⟩) (by rw [hKR]; exact ⟨by first | exact Nat.le_of_ble_eq_true rfl | (dsimp only; omega), by first | exact Nat.le_of_ble_eq_true rfl | (dsimp only; omega)⟩) rfl rfl rfl (Nat.le_of_ble_eq_true rfl) dX6_hashOfGroup_13 rfl ((fun e D1 P1 hx => absurd (hx.1.2.symm.trans kz) (by decide))) (by first | omega | exact ⟨by omega, by omega⟩) (fun r13 D13 P13 hp13 => ?_) 
  obtain ⟨-, rfl, ⟨v3, g3, hv3, hg3, ev3, eg3, tt1, tt2, tt3⟩, hF13, rfl⟩ := hp13
  have ev2 := nI_inj (by omega) (by omega) ev3
  have eg2 := nI_inj (by omega) (by omega) eg3
  subst ev2 eg2
  have k4_ : kd 4 = 0 := rfl
  have ttl := TN_le (M 7) v g
  have hh1 : D13 ((24 + 8 + 1 + 10 * v + 1 + 1 + 2 * g)) 1 = nI (VN (M 7) v g) := by rw [hF13 _ (by omega)]; exact h1
  have hh2 : ∀ j, j < VN (M 7) v g → D13 ((24 + 8 + 1 + 10 * v + 1 + 1 + 2 * g) + 1) j = VF (M 7) v g j := fun j hj => by rw [hF13 _ (by omega)]; exact h2 j hj
  have hh3 : so (D13 ((24 + 8 + 1 + 10 * v + 1 + 1 + 2 * g) + 1)) (VN (M 7) v g) := by rw [hF13 _ (by omega)]; exact h3
  refine pv_astore (q := 18) C dX6_hashOfGroup_16 rfl (Nat.le_of_ble_eq_true rfl) rfl ?_ 
  refine pv_lload_n (q := 19) C dX6_hashOfGroup_18 rfl rfl rfl ?_ 
  refine pv_aload (q := 21) C dX6_hashOfGroup_19 rfl rfl ?_ 
  refine pg_0_1 (q := 24) C kH tw_90 dX6_hashOfGroup_21 rfl ?_ 
  rw [hh1]
  refine pv_i2l (q := 25) C dX6_hashOfGroup_24 rfl ?_ 
  refine pv_callSl (q := 28) C hKl (c_X6_hashWith l X D13 P _ _) tw_366 mm_X6_hashWith ⟨rfl, rfl⟩ (by rw [hKR]; exact ⟨Nat.le_of_ble_eq_true rfl, Nat.le_of_ble_eq_true rfl⟩) (by rw [hKR]; exact ⟨by first | exact Nat.le_of_ble_eq_true rfl | (dsimp only; omega), by first | exact Nat.le_of_ble_eq_true rfl | (dsimp only; omega)⟩) rfl rfl rfl (Nat.le_of_ble_eq_true rfl) dX6_hashOfGroup_25 rfl (fun r25 D25 P25 hp25 => ?_) 
  obtain ⟨hw25, rfl, rfl⟩ := hp25
  refine pv_lstore (q := 30) C dX6_hashOfGroup_28 rfl (Nat.le_of_ble_eq_true rfl) rfl ?_ 
  refine PV_lv (lv' := [some (.ref (X.2.2 0)), some (.long h0), none, some (.int (nI v)), some (.int (nI g)), some (.ref (X.2.2 (24 + 8 + 1 + 10 * v + 1 + 1 + 2 * g))), some (.ref (X.2.2 4)), some (.long r25), none]) rfl ?_
  refine pv_lload (q := 32) C dX6_hashOfGroup_30 rfl rfl ?_ 
  refine pv_aload (q := 34) C dX6_hashOfGroup_32 rfl rfl ?_ 
  refine pv_callVi (q := 37) C hKl (c_X0_total l X D13 P (24 + 8 + 1 + 10 * v + 1 + 1 + 2 * g) (by assumption) (VN (M 7) v g) hh1 hhl) tw_569 kH (by decide) rfl mm_X0_total ⟨rfl, rfl⟩ (by rw [hKR]; exact ⟨Nat.le_of_ble_eq_true rfl, Nat.le_of_ble_eq_true rfl⟩) (by rw [hKR]; exact ⟨by first | exact Nat.le_of_ble_eq_true rfl | (dsimp only; omega), by first | exact Nat.le_of_ble_eq_true rfl | (dsimp only; omega)⟩) rfl rfl rfl (Nat.le_of_ble_eq_true rfl) dX6_hashOfGroup_34 rfl (fun r34 D34 P34 hp34 => ?_) 
  obtain ⟨rt34, rfl, rfl⟩ := hp34
  rw [sm_cong hh2] at rt34
  refine pv_i2l (q := 38) C dX6_hashOfGroup_37 rfl ?_ 
  refine pv_callSl (q := 41) C hKl (c_X6_hashWith l X D13 P _ _) tw_366 mm_X6_hashWith ⟨rfl, rfl⟩ (by rw [hKR]; exact ⟨Nat.le_of_ble_eq_true rfl, Nat.le_of_ble_eq_true rfl⟩) (by rw [hKR]; exact ⟨by first | exact Nat.le_of_ble_eq_true rfl | (dsimp only; omega), by first | exact Nat.le_of_ble_eq_true rfl | (dsimp only; omega)⟩) rfl rfl rfl (Nat.le_of_ble_eq_true rfl) dX6_hashOfGroup_38 rfl (fun r38 D38 P38 hp38 => ?_) 
  obtain ⟨hw38, rfl, rfl⟩ := hp38
  refine pv_lstore (q := 43) C dX6_hashOfGroup_41 rfl (Nat.le_of_ble_eq_true rfl) rfl ?_ 
  refine PV_lv (lv' := [some (.ref (X.2.2 0)), some (.long h0), none, some (.int (nI v)), some (.int (nI g)), some (.ref (X.2.2 (24 + 8 + 1 + 10 * v + 1 + 1 + 2 * g))), some (.ref (X.2.2 4)), some (.long r38), none]) rfl ?_
  refine pv_lload (q := 45) C dX6_hashOfGroup_43 rfl rfl ?_ 
  refine pv_aload (q := 47) C dX6_hashOfGroup_45 rfl rfl ?_ 
  refine pv_callVi (q := 50) C hKl (c_X0_countUnlike l X D13 P (24 + 8 + 1 + 10 * v + 1 + 1 + 2 * g) (by assumption) (VN (M 7) v g) hh1 hhl) tw_570 kH (by decide) rfl mm_X0_countUnlike ⟨rfl, rfl⟩ (by rw [hKR]; exact ⟨Nat.le_of_ble_eq_true rfl, Nat.le_of_ble_eq_true rfl⟩) (by rw [hKR]; exact ⟨by first | exact Nat.le_of_ble_eq_true rfl | (dsimp only; omega), by first | exact Nat.le_of_ble_eq_true rfl | (dsimp only; omega)⟩) rfl rfl rfl (Nat.le_of_ble_eq_true rfl) dX6_hashOfGroup_47 rfl (fun r47 D47 P47 hp47 => ?_) 
  obtain ⟨rt47, rfl, rfl⟩ := hp47
  rw [kn_cong hh2] at rt47
  refine pv_i2l (q := 51) C dX6_hashOfGroup_50 rfl ?_ 
  refine pv_callSl (q := 54) C hKl (c_X6_hashWith l X D13 P _ _) tw_366 mm_X6_hashWith ⟨rfl, rfl⟩ (by rw [hKR]; exact ⟨Nat.le_of_ble_eq_true rfl, Nat.le_of_ble_eq_true rfl⟩) (by rw [hKR]; exact ⟨by first | exact Nat.le_of_ble_eq_true rfl | (dsimp only; omega), by first | exact Nat.le_of_ble_eq_true rfl | (dsimp only; omega)⟩) rfl rfl rfl (Nat.le_of_ble_eq_true rfl) dX6_hashOfGroup_51 rfl (fun r51 D51 P51 hp51 => ?_) 
  obtain ⟨hw51, rfl, rfl⟩ := hp51
  refine pv_lstore (q := 56) C dX6_hashOfGroup_54 rfl (Nat.le_of_ble_eq_true rfl) rfl ?_ 
  refine PV_lv (lv' := [some (.ref (X.2.2 0)), some (.long h0), none, some (.int (nI v)), some (.int (nI g)), some (.ref (X.2.2 (24 + 8 + 1 + 10 * v + 1 + 1 + 2 * g))), some (.ref (X.2.2 4)), some (.long r51), none]) rfl ?_
  refine pv_lload (q := 58) C dX6_hashOfGroup_56 rfl rfl ?_ 
  refine pv_aload (q := 60) C dX6_hashOfGroup_58 rfl rfl ?_ 
  refine pv_iconst (q := 61) (v := 0) C dX6_hashOfGroup_60 rfl (by decide) ?_ 
  refine pv_callVi (q := 64) C hKl (c_X0_countBelow l X D13 P (24 + 8 + 1 + 10 * v + 1 + 1 + 2 * g) (by assumption) (VN (M 7) v g) hh1 hhl _) tw_571 kH (by decide) rfl mm_X0_countBelow ⟨rfl, rfl⟩ (by rw [hKR]; exact ⟨Nat.le_of_ble_eq_true rfl, Nat.le_of_ble_eq_true rfl⟩) (by rw [hKR]; exact ⟨by first | exact Nat.le_of_ble_eq_true rfl | (dsimp only; omega), by first | exact Nat.le_of_ble_eq_true rfl | (dsimp only; omega)⟩) rfl rfl rfl (Nat.le_of_ble_eq_true rfl) dX6_hashOfGroup_61 rfl (fun r61 D61 P61 hp61 => ?_) 
  obtain ⟨⟨kb61, rt61, hfb61⟩, rfl, rfl⟩ := hp61
  rw [fb_V hh3 hfb61 hh2] at rt61
  refine pv_i2l (q := 65) C dX6_hashOfGroup_64 rfl ?_ 
  refine pv_callSl (q := 68) C hKl (c_X6_hashWith l X D13 P _ _) tw_366 mm_X6_hashWith ⟨rfl, rfl⟩ (by rw [hKR]; exact ⟨Nat.le_of_ble_eq_true rfl, Nat.le_of_ble_eq_true rfl⟩) (by rw [hKR]; exact ⟨by first | exact Nat.le_of_ble_eq_true rfl | (dsimp only; omega), by first | exact Nat.le_of_ble_eq_true rfl | (dsimp only; omega)⟩) rfl rfl rfl (Nat.le_of_ble_eq_true rfl) dX6_hashOfGroup_65 rfl (fun r65 D65 P65 hp65 => ?_) 
  obtain ⟨hw65, rfl, rfl⟩ := hp65
  refine pv_lstore (q := 70) C dX6_hashOfGroup_68 rfl (Nat.le_of_ble_eq_true rfl) rfl ?_ 
  refine PV_lv (lv' := [some (.ref (X.2.2 0)), some (.long h0), none, some (.int (nI v)), some (.int (nI g)), some (.ref (X.2.2 (24 + 8 + 1 + 10 * v + 1 + 1 + 2 * g))), some (.ref (X.2.2 4)), some (.long r65), none]) rfl ?_
  refine pv_lload (q := 72) C dX6_hashOfGroup_70 rfl rfl ?_ 
  refine pv_aload (q := 74) C dX6_hashOfGroup_72 rfl rfl ?_ 
  refine pg_0_1 (q := 77) C k4_ tw_90 dX6_hashOfGroup_74 rfl ?_ 
  rw [tt1]
  refine pv_i2l (q := 78) C dX6_hashOfGroup_77 rfl ?_ 
  refine pv_callSl (q := 81) C hKl (c_X6_hashWith l X D13 P _ _) tw_366 mm_X6_hashWith ⟨rfl, rfl⟩ (by rw [hKR]; exact ⟨Nat.le_of_ble_eq_true rfl, Nat.le_of_ble_eq_true rfl⟩) (by rw [hKR]; exact ⟨by first | exact Nat.le_of_ble_eq_true rfl | (dsimp only; omega), by first | exact Nat.le_of_ble_eq_true rfl | (dsimp only; omega)⟩) rfl rfl rfl (Nat.le_of_ble_eq_true rfl) dX6_hashOfGroup_78 rfl (fun r78 D78 P78 hp78 => ?_) 
  obtain ⟨hw78, rfl, rfl⟩ := hp78
  refine pv_lstore (q := 83) C dX6_hashOfGroup_81 rfl (Nat.le_of_ble_eq_true rfl) rfl ?_ 
  refine PV_lv (lv' := [some (.ref (X.2.2 0)), some (.long h0), none, some (.int (nI v)), some (.int (nI g)), some (.ref (X.2.2 (24 + 8 + 1 + 10 * v + 1 + 1 + 2 * g))), some (.ref (X.2.2 4)), some (.long r78), none]) rfl ?_
  refine pv_lload (q := 85) C dX6_hashOfGroup_83 rfl rfl ?_ 
  refine pv_aload (q := 87) C dX6_hashOfGroup_85 rfl rfl ?_ 
  refine pv_callVi (q := 90) C hKl (c_X0_total l X D13 P 4 (by assumption) (TN (M 7) v g) tt1 ttl) tw_569 k4_ (by decide) rfl mm_X0_total ⟨rfl, rfl⟩ (by rw [hKR]; exact ⟨Nat.le_of_ble_eq_true rfl, Nat.le_of_ble_eq_true rfl⟩) (by rw [hKR]; exact ⟨by first | exact Nat.le_of_ble_eq_true rfl | (dsimp only; omega), by first | exact Nat.le_of_ble_eq_true rfl | (dsimp only; omega)⟩) rfl rfl rfl (Nat.le_of_ble_eq_true rfl) dX6_hashOfGroup_87 rfl (fun r87 D87 P87 hp87 => ?_) 
  obtain ⟨rt87, rfl, rfl⟩ := hp87
  rw [sm_cong tt2] at rt87
  refine pv_i2l (q := 91) C dX6_hashOfGroup_90 rfl ?_ 
  refine pv_callSl (q := 94) C hKl (c_X6_hashWith l X D13 P _ _) tw_366 mm_X6_hashWith ⟨rfl, rfl⟩ (by rw [hKR]; exact ⟨Nat.le_of_ble_eq_true rfl, Nat.le_of_ble_eq_true rfl⟩) (by rw [hKR]; exact ⟨by first | exact Nat.le_of_ble_eq_true rfl | (dsimp only; omega), by first | exact Nat.le_of_ble_eq_true rfl | (dsimp only; omega)⟩) rfl rfl rfl (Nat.le_of_ble_eq_true rfl) dX6_hashOfGroup_91 rfl (fun r91 D91 P91 hp91 => ?_) 
  obtain ⟨hw91, rfl, rfl⟩ := hp91
  refine pv_lstore (q := 96) C dX6_hashOfGroup_94 rfl (Nat.le_of_ble_eq_true rfl) rfl ?_ 
  refine PV_lv (lv' := [some (.ref (X.2.2 0)), some (.long h0), none, some (.int (nI v)), some (.int (nI g)), some (.ref (X.2.2 (24 + 8 + 1 + 10 * v + 1 + 1 + 2 * g))), some (.ref (X.2.2 4)), some (.long r91), none]) rfl ?_
  refine pv_lload (q := 98) C dX6_hashOfGroup_96 rfl rfl ?_ 
  refine pv_aload (q := 100) C dX6_hashOfGroup_98 rfl rfl ?_ 
  refine pv_iconst (q := 101) (v := 0) C dX6_hashOfGroup_100 rfl (by decide) ?_ 
  refine pv_callVi (q := 104) C hKl (c_X0_countBelow l X D13 P 4 (by assumption) (TN (M 7) v g) tt1 ttl _) tw_571 k4_ (by decide) rfl mm_X0_countBelow ⟨rfl, rfl⟩ (by rw [hKR]; exact ⟨Nat.le_of_ble_eq_true rfl, Nat.le_of_ble_eq_true rfl⟩) (by rw [hKR]; exact ⟨by first | exact Nat.le_of_ble_eq_true rfl | (dsimp only; omega), by first | exact Nat.le_of_ble_eq_true rfl | (dsimp only; omega)⟩) rfl rfl rfl (Nat.le_of_ble_eq_true rfl) dX6_hashOfGroup_101 rfl (fun r101 D101 P101 hp101 => ?_) 
  obtain ⟨⟨kb101, rt101, hfb101⟩, rfl, rfl⟩ := hp101
  rw [fb_V tt3 hfb101 tt2] at rt101
  refine pv_i2l (q := 105) C dX6_hashOfGroup_104 rfl ?_ 
  refine pv_callSl (q := 108) C hKl (c_X6_hashWith l X D13 P _ _) tw_366 mm_X6_hashWith ⟨rfl, rfl⟩ (by rw [hKR]; exact ⟨Nat.le_of_ble_eq_true rfl, Nat.le_of_ble_eq_true rfl⟩) (by rw [hKR]; exact ⟨by first | exact Nat.le_of_ble_eq_true rfl | (dsimp only; omega), by first | exact Nat.le_of_ble_eq_true rfl | (dsimp only; omega)⟩) rfl rfl rfl (Nat.le_of_ble_eq_true rfl) dX6_hashOfGroup_105 rfl (fun r105 D105 P105 hp105 => ?_) 
  obtain ⟨hw105, rfl, rfl⟩ := hp105
  refine pv_lstore (q := 110) C dX6_hashOfGroup_108 rfl (Nat.le_of_ble_eq_true rfl) rfl ?_ 
  refine PV_lv (lv' := [some (.ref (X.2.2 0)), some (.long h0), none, some (.int (nI v)), some (.int (nI g)), some (.ref (X.2.2 (24 + 8 + 1 + 10 * v + 1 + 1 + 2 * g))), some (.ref (X.2.2 4)), some (.long r105), none]) rfl ?_
  refine pv_aload (q := 112) C dX6_hashOfGroup_110 rfl rfl ?_ 
  refine pg_0_1 (q := 115) C kH tw_90 dX6_hashOfGroup_112 rfl ?_ 
  rw [hh1]
  refine pv_if_leN (q := 118) (tgt := 157) (a := (VN (M 7) v g)) (b := 0) C rfl rfl (by omega) (by omega) dX6_hashOfGroup_115 (by decide) rfl (fun c_115 => ?_) (fun c_115 => ?_) 
  · refine pv_aload (q := 159) C dX6_hashOfGroup_157 rfl rfl ?_
    refine pg_0_1 (q := 162) C k4_ tw_90 dX6_hashOfGroup_159 rfl ?_ 
    rw [tt1]
    refine pv_if_leN (q := 165) (tgt := 178) (a := (TN (M 7) v g)) (b := 0) C rfl rfl (by omega) (by omega) dX6_hashOfGroup_162 (by decide) rfl (fun c_162 => ?_) (fun c_162 => ?_) 
    · refine pv_lload (q := 180) C dX6_hashOfGroup_178 rfl rfl ?_
      exact XK.of (pv_lret C (⟨by
          unfold gH gH4 gH5 gH6
          rw [if_pos (by omega), if_pos (by omega), hw105, hw91, hw78, hw65, hw51, hw38, hw25, rt34, rt47, rt61, rt87, rt101], hF13, rfl⟩) (by decide) (by decide) dX6_hashOfGroup_180)
    · refine pv_lload (q := 167) C dX6_hashOfGroup_165 rfl rfl ?_
      refine pv_aload (q := 169) C dX6_hashOfGroup_167 rfl rfl ?_ 
      refine pv_callVi (q := 172) C hKl (c_X0_middle l X D13 P 4 (by assumption) (TN (M 7) v g) tt1 ttl) tw_577 k4_ (by decide) rfl mm_X0_middle ⟨rfl, rfl⟩ (by rw [hKR]; exact ⟨Nat.le_of_ble_eq_true rfl, Nat.le_of_ble_eq_true rfl⟩) (by rw [hKR]; exact ⟨by first | exact Nat.le_of_ble_eq_true rfl | (dsimp only; omega), by first | exact Nat.le_of_ble_eq_true rfl | (dsimp only; omega)⟩) rfl rfl rfl (Nat.le_of_ble_eq_true rfl) dX6_hashOfGroup_169 rfl (fun r169 D169 P169 hp169 => ?_) 
      obtain ⟨rt169, rfl, rfl⟩ := hp169
      unfold at0 at rt169
      rw [if_neg (by omega), tt2 _ (by omega)] at rt169
      refine pv_i2l (q := 173) C dX6_hashOfGroup_172 rfl ?_ 
      refine pv_callSl (q := 176) C hKl (c_X6_hashWith l X D13 P _ _) tw_366 mm_X6_hashWith ⟨rfl, rfl⟩ (by rw [hKR]; exact ⟨Nat.le_of_ble_eq_true rfl, Nat.le_of_ble_eq_true rfl⟩) (by rw [hKR]; exact ⟨by first | exact Nat.le_of_ble_eq_true rfl | (dsimp only; omega), by first | exact Nat.le_of_ble_eq_true rfl | (dsimp only; omega)⟩) rfl rfl rfl (Nat.le_of_ble_eq_true rfl) dX6_hashOfGroup_173 rfl (fun r173 D173 P173 hp173 => ?_) 
      obtain ⟨hw173, rfl, rfl⟩ := hp173
      refine pv_lstore (q := 178) C dX6_hashOfGroup_176 rfl (Nat.le_of_ble_eq_true rfl) rfl ?_ 
      refine PV_lv (lv' := [some (.ref (X.2.2 0)), some (.long h0), none, some (.int (nI v)), some (.int (nI g)), some (.ref (X.2.2 (24 + 8 + 1 + 10 * v + 1 + 1 + 2 * g))), some (.ref (X.2.2 4)), some (.long r173), none]) rfl ?_
      refine pv_lload (q := 180) C dX6_hashOfGroup_178 rfl rfl ?_ 
      exact XK.of (pv_lret C (⟨by
          unfold gH gH4 gH5 gH6
          rw [if_neg (by omega), if_pos (by omega), hw173, hw105, hw91, hw78, hw65, hw51, hw38, hw25, rt34, rt47, rt61, rt87, rt101, rt169], hF13, rfl⟩) (by decide) (by decide) dX6_hashOfGroup_180)
  · refine pv_lload (q := 120) C dX6_hashOfGroup_118 rfl rfl ?_
    refine pv_aload (q := 122) C dX6_hashOfGroup_120 rfl rfl ?_ 
    refine pv_callVi (q := 125) C hKl (c_X0_first l X D13 P (24 + 8 + 1 + 10 * v + 1 + 1 + 2 * g) (by assumption) (VN (M 7) v g) hh1 hhl) tw_575 kH (by decide) rfl mm_X0_first ⟨rfl, rfl⟩ (by rw [hKR]; exact ⟨Nat.le_of_ble_eq_true rfl, Nat.le_of_ble_eq_true rfl⟩) (by rw [hKR]; exact ⟨by first | exact Nat.le_of_ble_eq_true rfl | (dsimp only; omega), by first | exact Nat.le_of_ble_eq_true rfl | (dsimp only; omega)⟩) rfl rfl rfl (Nat.le_of_ble_eq_true rfl) dX6_hashOfGroup_122 rfl (fun r122 D122 P122 hp122 => ?_) 
    obtain ⟨rt122, rfl, rfl⟩ := hp122
    unfold at0 at rt122
    rw [if_neg (by omega), hh2 _ (by omega)] at rt122
    refine pv_i2l (q := 126) C dX6_hashOfGroup_125 rfl ?_ 
    refine pv_callSl (q := 129) C hKl (c_X6_hashWith l X D13 P _ _) tw_366 mm_X6_hashWith ⟨rfl, rfl⟩ (by rw [hKR]; exact ⟨Nat.le_of_ble_eq_true rfl, Nat.le_of_ble_eq_true rfl⟩) (by rw [hKR]; exact ⟨by first | exact Nat.le_of_ble_eq_true rfl | (dsimp only; omega), by first | exact Nat.le_of_ble_eq_true rfl | (dsimp only; omega)⟩) rfl rfl rfl (Nat.le_of_ble_eq_true rfl) dX6_hashOfGroup_126 rfl (fun r126 D126 P126 hp126 => ?_) 
    obtain ⟨hw126, rfl, rfl⟩ := hp126
    refine pv_lstore (q := 131) C dX6_hashOfGroup_129 rfl (Nat.le_of_ble_eq_true rfl) rfl ?_ 
    refine PV_lv (lv' := [some (.ref (X.2.2 0)), some (.long h0), none, some (.int (nI v)), some (.int (nI g)), some (.ref (X.2.2 (24 + 8 + 1 + 10 * v + 1 + 1 + 2 * g))), some (.ref (X.2.2 4)), some (.long r126), none]) rfl ?_
    refine pv_lload (q := 133) C dX6_hashOfGroup_131 rfl rfl ?_ 
    refine pv_aload (q := 135) C dX6_hashOfGroup_133 rfl rfl ?_ 
    refine pv_callVi (q := 138) C hKl (c_X0_last l X D13 P (24 + 8 + 1 + 10 * v + 1 + 1 + 2 * g) (by assumption) (VN (M 7) v g) hh1 hhl) tw_576 kH (by decide) rfl mm_X0_last ⟨rfl, rfl⟩ (by rw [hKR]; exact ⟨Nat.le_of_ble_eq_true rfl, Nat.le_of_ble_eq_true rfl⟩) (by rw [hKR]; exact ⟨by first | exact Nat.le_of_ble_eq_true rfl | (dsimp only; omega), by first | exact Nat.le_of_ble_eq_true rfl | (dsimp only; omega)⟩) rfl rfl rfl (Nat.le_of_ble_eq_true rfl) dX6_hashOfGroup_135 rfl (fun r135 D135 P135 hp135 => ?_) 
    obtain ⟨rt135, rfl, rfl⟩ := hp135
    unfold at0 at rt135
    rw [if_neg (by omega), hh2 _ (by omega)] at rt135
    refine pv_i2l (q := 139) C dX6_hashOfGroup_138 rfl ?_ 
    refine pv_callSl (q := 142) C hKl (c_X6_hashWith l X D13 P _ _) tw_366 mm_X6_hashWith ⟨rfl, rfl⟩ (by rw [hKR]; exact ⟨Nat.le_of_ble_eq_true rfl, Nat.le_of_ble_eq_true rfl⟩) (by rw [hKR]; exact ⟨by first | exact Nat.le_of_ble_eq_true rfl | (dsimp only; omega), by first | exact Nat.le_of_ble_eq_true rfl | (dsimp only; omega)⟩) rfl rfl rfl (Nat.le_of_ble_eq_true rfl) dX6_hashOfGroup_139 rfl (fun r139 D139 P139 hp139 => ?_) 
    obtain ⟨hw139, rfl, rfl⟩ := hp139
    refine pv_lstore (q := 144) C dX6_hashOfGroup_142 rfl (Nat.le_of_ble_eq_true rfl) rfl ?_ 
    refine PV_lv (lv' := [some (.ref (X.2.2 0)), some (.long h0), none, some (.int (nI v)), some (.int (nI g)), some (.ref (X.2.2 (24 + 8 + 1 + 10 * v + 1 + 1 + 2 * g))), some (.ref (X.2.2 4)), some (.long r139), none]) rfl ?_
    refine pv_lload (q := 146) C dX6_hashOfGroup_144 rfl rfl ?_ 
    refine pv_aload (q := 148) C dX6_hashOfGroup_146 rfl rfl ?_ 
    refine pv_callVi (q := 151) C hKl (c_X0_middle l X D13 P (24 + 8 + 1 + 10 * v + 1 + 1 + 2 * g) (by assumption) (VN (M 7) v g) hh1 hhl) tw_577 kH (by decide) rfl mm_X0_middle ⟨rfl, rfl⟩ (by rw [hKR]; exact ⟨Nat.le_of_ble_eq_true rfl, Nat.le_of_ble_eq_true rfl⟩) (by rw [hKR]; exact ⟨by first | exact Nat.le_of_ble_eq_true rfl | (dsimp only; omega), by first | exact Nat.le_of_ble_eq_true rfl | (dsimp only; omega)⟩) rfl rfl rfl (Nat.le_of_ble_eq_true rfl) dX6_hashOfGroup_148 rfl (fun r148 D148 P148 hp148 => ?_) 
    obtain ⟨rt148, rfl, rfl⟩ := hp148
    unfold at0 at rt148
    rw [if_neg (by omega), hh2 _ (by omega)] at rt148
    refine pv_i2l (q := 152) C dX6_hashOfGroup_151 rfl ?_ 
    refine pv_callSl (q := 155) C hKl (c_X6_hashWith l X D13 P _ _) tw_366 mm_X6_hashWith ⟨rfl, rfl⟩ (by rw [hKR]; exact ⟨Nat.le_of_ble_eq_true rfl, Nat.le_of_ble_eq_true rfl⟩) (by rw [hKR]; exact ⟨by first | exact Nat.le_of_ble_eq_true rfl | (dsimp only; omega), by first | exact Nat.le_of_ble_eq_true rfl | (dsimp only; omega)⟩) rfl rfl rfl (Nat.le_of_ble_eq_true rfl) dX6_hashOfGroup_152 rfl (fun r152 D152 P152 hp152 => ?_) 
    obtain ⟨hw152, rfl, rfl⟩ := hp152
    refine pv_lstore (q := 157) C dX6_hashOfGroup_155 rfl (Nat.le_of_ble_eq_true rfl) rfl ?_ 
    refine PV_lv (lv' := [some (.ref (X.2.2 0)), some (.long h0), none, some (.int (nI v)), some (.int (nI g)), some (.ref (X.2.2 (24 + 8 + 1 + 10 * v + 1 + 1 + 2 * g))), some (.ref (X.2.2 4)), some (.long r152), none]) rfl ?_
    refine pv_aload (q := 159) C dX6_hashOfGroup_157 rfl rfl ?_ 
    refine pg_0_1 (q := 162) C k4_ tw_90 dX6_hashOfGroup_159 rfl ?_ 
    rw [tt1]
    refine pv_if_leN (q := 165) (tgt := 178) (a := (TN (M 7) v g)) (b := 0) C rfl rfl (by omega) (by omega) dX6_hashOfGroup_162 (by decide) rfl (fun c_162 => ?_) (fun c_162 => ?_) 
    · refine pv_lload (q := 180) C dX6_hashOfGroup_178 rfl rfl ?_
      exact XK.of (pv_lret C (⟨by
          unfold gH gH4 gH5 gH6
          rw [if_pos (by omega), if_neg (by omega), hw152, hw139, hw126, hw105, hw91, hw78, hw65, hw51, hw38, hw25, rt34, rt47, rt61, rt87, rt101, rt122, rt135, rt148], hF13, rfl⟩) (by decide) (by decide) dX6_hashOfGroup_180)
    · refine pv_lload (q := 167) C dX6_hashOfGroup_165 rfl rfl ?_
      refine pv_aload (q := 169) C dX6_hashOfGroup_167 rfl rfl ?_ 
      refine pv_callVi (q := 172) C hKl (c_X0_middle l X D13 P 4 (by assumption) (TN (M 7) v g) tt1 ttl) tw_577 k4_ (by decide) rfl mm_X0_middle ⟨rfl, rfl⟩ (by rw [hKR]; exact ⟨Nat.le_of_ble_eq_true rfl, Nat.le_of_ble_eq_true rfl⟩) (by rw [hKR]; exact ⟨by first | exact Nat.le_of_ble_eq_true rfl | (dsimp only; omega), by first | exact Nat.le_of_ble_eq_true rfl | (dsimp only; omega)⟩) rfl rfl rfl (Nat.le_of_ble_eq_true rfl) dX6_hashOfGroup_169 rfl (fun r169 D169 P169 hp169 => ?_) 
      obtain ⟨rt169, rfl, rfl⟩ := hp169
      unfold at0 at rt169
      rw [if_neg (by omega), tt2 _ (by omega)] at rt169
      refine pv_i2l (q := 173) C dX6_hashOfGroup_172 rfl ?_ 
      refine pv_callSl (q := 176) C hKl (c_X6_hashWith l X D13 P _ _) tw_366 mm_X6_hashWith ⟨rfl, rfl⟩ (by rw [hKR]; exact ⟨Nat.le_of_ble_eq_true rfl, Nat.le_of_ble_eq_true rfl⟩) (by rw [hKR]; exact ⟨by first | exact Nat.le_of_ble_eq_true rfl | (dsimp only; omega), by first | exact Nat.le_of_ble_eq_true rfl | (dsimp only; omega)⟩) rfl rfl rfl (Nat.le_of_ble_eq_true rfl) dX6_hashOfGroup_173 rfl (fun r173 D173 P173 hp173 => ?_) 
      obtain ⟨hw173, rfl, rfl⟩ := hp173
      refine pv_lstore (q := 178) C dX6_hashOfGroup_176 rfl (Nat.le_of_ble_eq_true rfl) rfl ?_ 
      refine PV_lv (lv' := [some (.ref (X.2.2 0)), some (.long h0), none, some (.int (nI v)), some (.int (nI g)), some (.ref (X.2.2 (24 + 8 + 1 + 10 * v + 1 + 1 + 2 * g))), some (.ref (X.2.2 4)), some (.long r173), none]) rfl ?_
      refine pv_lload (q := 180) C dX6_hashOfGroup_178 rfl rfl ?_ 
      exact XK.of (pv_lret C (⟨by
          unfold gH gH4 gH5 gH6
          rw [if_neg (by omega), if_neg (by omega), hw173, hw152, hw139, hw126, hw105, hw91, hw78, hw65, hw51, hw38, hw25, rt34, rt47, rt61, rt87, rt101, rt122, rt135, rt148, rt169], hF13, rfl⟩) (by decide) (by decide) dX6_hashOfGroup_180)
set_option maxRecDepth 100000 in
set_option maxHeartbeats 4000000 in
theorem c_X2_hashOfSigns (l : Launch) (X : XT) (D : DT) (P : PT) (hfl : l.stackTraces = false) (h0 : Int64) (n : Nat) (hn : D 2 1 = nI n) (hn60 : n ≤ 60) : XG l X yX2_hashOfSigns (.code yX2_hashOfSigns cX2_hashOfSigns 6 (some .long) :: AW) ({ frames := 1, cells := 0, slots := 0, locals := 36 } : Room) [.ref (X.2.2 2), .long h0] (qL X (fun r D' P' => r = dT (D 3) h0 n ∧ D = D' ∧ P = P')) (fun _ _ _ => False) D P 0 0 := by
  refine xg_of (by decide +kernel) (Nat.le_of_ble_eq_true rfl) ?_
  intro K hKl hKR C ht0 Z
  have hfl : K.2.1.stackTraces = false := by rw [hKl]; exact hfl
  refine PV_lv (lv' := [some (.ref (X.2.2 2)), some (.long h0), none, none, none, none]) rfl ?_
  refine pv_lload_n (q := 1) C dX2_hashOfSigns_0 rfl rfl rfl ?_ 
  refine pv_lstore_n (q := 2) C dX2_hashOfSigns_1 rfl rfl (Nat.le_of_ble_eq_true rfl) rfl ?_ 
  refine pv_iconst (q := 3) (v := 0) C dX2_hashOfSigns_2 rfl (by decide) ?_ 
  refine pv_istore (q := 5) C dX2_hashOfSigns_3 rfl (Nat.le_of_ble_eq_true rfl) rfl ?_ 
  have loop_5 : ∀ (nn : Nat) (i : Nat) (x : Int64), (61 ≤ i + nn) → i ≤ n → x = dT (D 3) h0 i → PV K X (XK K X (qL X (fun r D' P' => r = dT (D 3) h0 n ∧ D = D' ∧ P = P')) (fun _ _ _ => False) 0 0) (0) (0) 5 [some (.ref (X.2.2 2)), some (.long h0), none, some (.long x), none, some (.int (nI i))] [] D P := by
    intro nn
    induction nn with
    | zero =>
      intro i x hfuel hi hx
      exact absurd hfuel (by omega)
    | succ nn ih =>
      intro i x hfuel hi hx
      refine pv_iload (q := 7) C dX2_hashOfSigns_5 rfl rfl ?_ 
      refine pv_aload_n (q := 8) C dX2_hashOfSigns_7 rfl rfl rfl ?_ 
      refine pg_2_1 (q := 11) C k2 tw_169 dX2_hashOfSigns_8 rfl ?_ 
      rw [hn]
      refine pv_icmp_geN (q := 14) (tgt := 43) (a := i) (b := n) C rfl rfl (by omega) (by omega) dX2_hashOfSigns_11 (by decide) rfl (fun c_11 => ?_) (fun c_11 => ?_) 
      · refine pv_lload_n (q := 44) C dX2_hashOfSigns_43 rfl rfl rfl ?_
        exact XK.of (pv_lret C (⟨by rw [hx, show i = n by omega], rfl, rfl⟩) (by decide) (by decide) dX2_hashOfSigns_44)
      · refine pv_iload (q := 16) C dX2_hashOfSigns_14 rfl rfl ?_
        refine pv_aload_n (q := 17) C dX2_hashOfSigns_16 rfl rfl rfl ?_ 
        refine pg_2_0 (q := 20) C k2 tw_168 dX2_hashOfSigns_17 rfl (fun k17 => ?_) 
        refine pv_alen_8 (q := 21) C k17 dX2_hashOfSigns_20 rfl ?_ 
        refine pv_icmp_geN (q := 24) (tgt := 43) (a := i) (b := 60) C rfl rfl (by omega) (by omega) dX2_hashOfSigns_21 (by decide) rfl (fun c_21 => ?_) (fun c_21 => ?_) 
        · refine pv_lload_n (q := 44) C dX2_hashOfSigns_43 rfl rfl rfl ?_
          exact XK.of (pv_lret C (⟨by rw [hx, show i = n by omega], rfl, rfl⟩) (by decide) (by decide) dX2_hashOfSigns_44)
        · refine pv_lload_n (q := 25) C dX2_hashOfSigns_24 rfl rfl rfl ?_
          refine pv_aload_n (q := 26) C dX2_hashOfSigns_25 rfl rfl rfl ?_ 
          refine pg_2_0 (q := 29) C k2 tw_168 dX2_hashOfSigns_26 rfl (fun k26 => ?_) 
          refine pv_iload (q := 31) C dX2_hashOfSigns_29 rfl rfl ?_ 
          refine pv_cald (q := 32) (j := i) C k26 rfl (by omega) dX2_hashOfSigns_31 rfl ?_ 
          refine pv_i2l (q := 33) C dX2_hashOfSigns_32 rfl ?_ 
          refine pv_nestSl (q := 36) C hKl (c_X6_hashWith l X D P _ _) (Z.2 _ (List.mem_cons_self)) mm_X6_hashWith ⟨rfl, rfl⟩ (by rw [hKR]; exact ⟨Nat.le_of_ble_eq_true rfl, Nat.le_of_ble_eq_true rfl⟩) (by rw [hKR]; exact ⟨Nat.le_of_ble_eq_true rfl, Nat.le_of_ble_eq_true rfl⟩) rfl rfl rfl (Nat.le_of_ble_eq_true rfl) dX2_hashOfSigns_33 rfl (fun r33 D33 P33 hp33 => ?_) 
          obtain ⟨rfl, rfl, rfl⟩ := hp33
          refine pv_lstore_n (q := 37) C dX2_hashOfSigns_36 rfl rfl (Nat.le_of_ble_eq_true rfl) rfl ?_ 
          refine pv_iinc (q := 40) (v := nI (i + 1)) C dX2_hashOfSigns_37 rfl rfl (nI_add _ _) rfl ?_ 
          refine pv_goto (tgt := 5) C dX2_hashOfSigns_40 (by decide) ?_ 
          exact ih (i + 1) _ (by omega) (by omega) (by rw [hx]; rfl)
  exact loop_5 61 0 _ (by omega) (by omega) rfl
