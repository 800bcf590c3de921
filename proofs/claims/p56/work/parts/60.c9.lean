def Fs4 (D D' : DT) : Prop := ∀ i, i ≠ 4 → i ≠ 5 → D' i = D i
theorem Fs4_s {D D' : DT} (h : Fs4 D D') : Fs D D' := fun i hi => h i (by omega) (by omega)
theorem like_sym {f g : Nat → Int32} {n m : Nat} (h : like f n g m) : like g m f n := by
  obtain ⟨rfl, a, b, c⟩ := h
  exact ⟨rfl, a.symm, b.symm, c.imp id (fun z => ⟨z.1.symm, z.2.1.symm, z.2.2.symm⟩)⟩
set_option maxRecDepth 100000 in
set_option maxHeartbeats 4000000 in
theorem c_X6_hashWith (l : Launch) (X : XT) (D : DT) (P : PT) (a b : Int64) : CG l X yX6_hashWith (.code yX6_hashWith cX6_hashWith 4 (some .long) :: AW) ({ frames := 0, cells := 0, slots := 0, locals := 0 } : Room) [.long a, .long b] (qL X (fun r D' P' => r = hmx a b ∧ D = D' ∧ P = P')) D P 0 0 := by
  refine cg_of (by decide +kernel) (Nat.le_of_ble_eq_true rfl) ?_
  intro K hKl hKR C
  refine PV_lv (lv' := [some (.long a), none, some (.long b), none]) rfl ?_
  refine pv_ldc2 (q := 3) C dX6_hashWith_0 rfl tw_369 ?_ 
  refine pv_lload_n (q := 4) C dX6_hashWith_3 rfl rfl rfl ?_ 
  refine pv_lmul (q := 5) C dX6_hashWith_4 rfl ?_ 
  refine pv_lload_n (q := 6) C dX6_hashWith_5 rfl rfl rfl ?_ 
  refine pv_ladd (q := 7) C dX6_hashWith_6 rfl ?_ 
  exact pv_lret C (⟨rfl, rfl, rfl⟩) (by decide) (by decide) dX6_hashWith_7
set_option maxRecDepth 100000 in
set_option maxHeartbeats 4000000 in
theorem c_X6_bit (l : Launch) (X : XT) (D : DT) (P : PT) (b : Int32) (hb : b = 0 ∨ b = 1) : CG l X yX6_bit (.code yX6_bit cX6_bit 1 (some .long) :: AW) ({ frames := 0, cells := 0, slots := 0, locals := 0 } : Room) [.int b] (qL X (fun r D' P' => r = b.toInt64 ∧ D = D' ∧ P = P')) D P 0 0 := by
  refine cg_of (by decide +kernel) (Nat.le_of_ble_eq_true rfl) ?_
  intro K hKl hKR C
  refine PV_lv (lv' := [some (.int b)]) rfl ?_
  refine pv_iload_n (q := 1) C dX6_bit_0 rfl rfl rfl ?_ 
  refine pv_if_eq (q := 4) (tgt := 8) C dX6_bit_1 (by decide) rfl (fun c_1 => ?_) (fun c_1 => ?_) 
  · refine pv_lconst (q := 9) (v := 0) C dX6_bit_8 rfl (by decide) ?_
    exact pv_lret C (⟨by rw [c_1]; rfl, rfl, rfl⟩) (by decide) (by decide) dX6_bit_9
  · refine pv_lconst (q := 5) (v := 1) C dX6_bit_4 rfl (by decide) ?_
    refine pv_goto (tgt := 9) C dX6_bit_5 (by decide) ?_ 
    exact pv_lret C (⟨by rw [hb.resolve_left c_1]; rfl, rfl, rfl⟩) (by decide) (by decide) dX6_bit_9
set_option maxRecDepth 100000 in
set_option maxHeartbeats 4000000 in
theorem c_X6_unlikeMaskV (l : Launch) (X : XT) (D : DT) (P : PT) (M : DT) (W : Nat) (h : RI D P M W) (v : Nat) (hv : v < 3) (hkv : kd (24 + 8 + 1 + 10 * v) = 5) : CG l X yX6_unlikeMask (.code yX6_unlikeMask cX6_unlikeMask 4 (some .int) :: AW) ({ frames := 3, cells := 0, slots := 0, locals := 108 } : Room) [.ref (X.2.2 0), .ref (X.2.2 (24 + 8 + 1 + 10 * v))] (qI X (fun r D' P' => r = umN (M 7) v 4 ∧ Fs4 D D' ∧ P = P')) D P 0 0 := by
  refine cg_of (by decide +kernel) (Nat.le_of_ble_eq_true rfl) ?_
  intro K hKl hKR C
  refine PV_lv (lv' := [some (.ref (X.2.2 0)), some (.ref (X.2.2 (24 + 8 + 1 + 10 * v))), none, none]) rfl ?_
  obtain ⟨⟨G, A, wr, nx, hw, hR, hT, hI, hAM⟩, ⟨s, hs5, hs3, hs0, hsj⟩, hP1, hP2, ⟨hk4, hk01, hkS⟩, n, hn60, hn9, hn1, hnk⟩ := id h
  refine pv_iconst (q := 1) (v := 0) C dX6_unlikeMask_0 rfl (by decide) ?_ 
  refine pv_istore_n (q := 2) C dX6_unlikeMask_1 rfl rfl (Nat.le_of_ble_eq_true rfl) rfl ?_ 
  refine pv_iconst (q := 3) (v := 0) C dX6_unlikeMask_2 rfl (by decide) ?_ 
  refine pv_istore_n (q := 4) C dX6_unlikeMask_3 rfl rfl (Nat.le_of_ble_eq_true rfl) rfl ?_ 
  have loop_4 : ∀ (nn : Nat) (g : Nat) (m : Int32) (D1 : DT), (5 ≤ g + nn) → g ≤ 4 → m = umN (M 7) v g → Fs4 D D1 → PV K X (MK K X (qI X (fun r D' P' => r = umN (M 7) v 4 ∧ Fs4 D D' ∧ P = P')) 0 0) (0) (0) 4 [some (.ref (X.2.2 0)), some (.ref (X.2.2 (24 + 8 + 1 + 10 * v))), some (.int m), some (.int (nI g))] [] D1 P := by
    intro nn
    induction nn with
    | zero =>
      intro g m D1 hfuel hg hm hF
      exact absurd hfuel (by omega)
    | succ nn ih =>
      intro g m D1 hfuel hg hm hF
      refine pv_iload_n (q := 5) C dX6_unlikeMask_4 rfl rfl rfl ?_ 
      refine pv_iconst (q := 6) (v := 4) C dX6_unlikeMask_5 rfl (by decide) ?_ 
      refine pv_icmp_geN (q := 9) (tgt := 56) (a := g) (b := 4) C rfl rfl (by omega) (by omega) dX6_unlikeMask_6 (by decide) rfl (fun c_6 => ?_) (fun c_6 => ?_) 
      · refine pv_iload_n (q := 57) C dX6_unlikeMask_56 rfl rfl rfl ?_
        exact pv_iret C (⟨by rw [hm, show g = 4 by omega], hF, rfl⟩) (by decide) (by decide) dX6_unlikeMask_57
      · refine pv_aload_n (q := 10) C dX6_unlikeMask_9 rfl rfl rfl ?_
        refine pg_6_6 (q := 13) C k0 tw_207 dX6_unlikeMask_10 rfl (fun k10 => ?_) 
        refine pv_aload_n (q := 14) C dX6_unlikeMask_13 rfl rfl rfl ?_ 
        refine pg_6_0 (q := 17) C k0 tw_201 dX6_unlikeMask_14 rfl (fun k14 => ?_) 
        refine pg_3_0 (q := 20) C k14 tw_129 dX6_unlikeMask_17 rfl (fun k17 => ?_) 
        refine pv_iload_n (q := 21) C dX6_unlikeMask_20 rfl rfl rfl ?_ 
        refine pv_aload_n (q := 22) C dX6_unlikeMask_21 rfl rfl rfl ?_ 
        refine pg_5_1 (q := 25) C hkv tw_99 dX6_unlikeMask_22 rfl ?_ 
        rw [show D1 (24 + 8 + 1 + 10 * v) 1 = M 7 (32 + 38 * v + 34) by rw [hF _ (by omega) (by omega)]; exact (Rp_fld hR hv).1]
        refine pv_callVv (q := 28) C hKl (c_X0_takeFrom l X D1 P 4 (24 + 1) rfl (by assumption) _ _) tw_499 k10 (by decide) rfl mm_X0_takeFrom ⟨rfl, rfl⟩ (by rw [hKR]; exact ⟨Nat.le_of_ble_eq_true rfl, Nat.le_of_ble_eq_true rfl⟩) (by rw [hKR]; exact ⟨Nat.le_of_ble_eq_true rfl, Nat.le_of_ble_eq_true rfl⟩) rfl rfl rfl (Nat.le_of_ble_eq_true rfl) dX6_unlikeMask_25 rfl (fun D25 P25 hp25 => ?_) 
        obtain ⟨⟨f, kk, hkk, hE, hsl⟩, rfl⟩ := hp25
        have hF2 : Fs4 D D25 := fun i a b => by rw [hE, setA_o _ _ _ a b]; exact hF i a b
        rw [hF (24 + 1 + 1) (by decide) (by decide), hF (24 + 1 + 2) (by decide) (by decide)] at hsl
        obtain ⟨z1, z2⟩ := SL_V (row := M 7) (fr := 0) (by omega) (TR_gr hT) hsl
        subst z1
        obtain ⟨y1, y2, y4⟩ := held_V hR hv (show g < 4 by omega)
        have hlk2 : like (D25 (4 + 1)) (TN (M 7) v g) (D25 (24 + 8 + 1 + 10 * v + 1 + 1 + 2 * g + 1)) (VN (M 7) v g) ↔ like (VF (M 7) v g) (VN (M 7) v g) (TF (M 7) v g) (TN (M 7) v g) := ⟨fun q => like_sym (like_cg (by rw [hE, setA_r]; exact z2) (fun j hj => by rw [hF2 _ (by omega) (by omega)]; exact y2 j hj) q), fun q => like_cg (fun j hj => by rw [hE, setA_r]; exact (z2 j hj).symm) (fun j hj => by rw [hF2 _ (by omega) (by omega)]; exact (y2 j hj).symm) (like_sym q)⟩
        refine pv_aload_n (q := 29) C dX6_unlikeMask_28 rfl rfl rfl ?_ 
        refine pg_6_6 (q := 32) C k0 tw_207 dX6_unlikeMask_29 rfl (fun k29 => ?_) 
        refine pv_aload_n (q := 33) C dX6_unlikeMask_32 rfl rfl rfl ?_ 
        refine pg_5_0 (q := 36) C hkv tw_97 dX6_unlikeMask_33 rfl (fun k33 => ?_) 
        refine pv_iload_n (q := 37) C dX6_unlikeMask_36 rfl rfl rfl ?_ 
        refine pv_aald_10 (q := 38) (j := g) C k33 rfl (by omega) dX6_unlikeMask_37 rfl (fun k37 => ?_) 
        refine pv_callVi (q := 41) C hKl (c_X0_tellsLike l X D25 P 4 rfl (TN (M 7) v g) (by rw [hE]; exact setA_c _ _ _ _) hkk (24 + 8 + 1 + 10 * v + 1 + 1 + 2 * g) (by assumption) (VN (M 7) v g) (by rw [hF2 _ (by omega) (by omega)]; exact y1) (VN_le _ _ _)) tw_507 k29 (by decide) rfl mm_X0_tellsLike ⟨rfl, rfl⟩ (by rw [hKR]; exact ⟨Nat.le_of_ble_eq_true rfl, Nat.le_of_ble_eq_true rfl⟩) (by rw [hKR]; exact ⟨Nat.le_of_ble_eq_true rfl, Nat.le_of_ble_eq_true rfl⟩) rfl rfl rfl (Nat.le_of_ble_eq_true rfl) dX6_unlikeMask_38 rfl (fun r38 D38 P38 hp38 => ?_) 
        rcases hp38 with ⟨⟨hlk, rfl⟩ | ⟨hlk, rfl⟩, rfl, rfl⟩
        · refine pv_if_ne (q := 44) (tgt := 50) C dX6_unlikeMask_41 (by decide) rfl (fun _ => ?_) (fun h => absurd h (by decide))
          refine pv_iinc (q := 53) (v := nI (g + 1)) C dX6_unlikeMask_50 rfl rfl (nI_add _ _) rfl ?_ 
          refine pv_goto (tgt := 4) C dX6_unlikeMask_53 (by decide) ?_ 
          exact ih (g + 1) m D25 (by omega) (by omega) (by show m = umN (M 7) v g ||| _; rw [lkI_y (hlk2.mp hlk), ← hm, Int32.or_zero]) hF2
        · refine pv_if_ne (q := 44) (tgt := 50) C dX6_unlikeMask_41 (by decide) rfl (fun h => absurd h (by decide)) (fun _ => ?_)
          refine pv_iload_n (q := 45) C dX6_unlikeMask_44 rfl rfl rfl ?_ 
          refine pv_iconst (q := 46) (v := 1) C dX6_unlikeMask_45 rfl (by decide) ?_ 
          refine pv_iload_n (q := 47) C dX6_unlikeMask_46 rfl rfl rfl ?_ 
          refine pv_ishl (q := 48) C dX6_unlikeMask_47 rfl ?_ 
          refine pv_ior (q := 49) C dX6_unlikeMask_48 rfl ?_ 
          refine pv_istore_n (q := 50) C dX6_unlikeMask_49 rfl rfl (Nat.le_of_ble_eq_true rfl) rfl ?_ 
          refine pv_iinc (q := 53) (v := nI (g + 1)) C dX6_unlikeMask_50 rfl rfl (nI_add _ _) rfl ?_ 
          refine pv_goto (tgt := 4) C dX6_unlikeMask_53 (by decide) ?_ 
          exact ih (g + 1) _ D25 (by omega) (by omega) (by show _ = umN (M 7) v g ||| _; rw [lkI_n (fun q => hlk (hlk2.mpr q)), ← hm]) hF2
  exact loop_4 5 0 0 D (by omega) (by omega) rfl (fun _ _ _ => rfl)
set_option maxRecDepth 100000 in
set_option maxHeartbeats 4000000 in
theorem c_X6_unlikeMask0 (l : Launch) (X : XT) (D : DT) (P : PT) (M : DT) (W : Nat) (h : RI D P M W) (lo : Int32) (hf : D 14 1 = lo) (hS : ∀ g, g < 4 → ∃ n, n ≤ 16 ∧ D (14 + 1 + 1 + 2 * g) 1 = nI n ∧ SL (D (14 + 1 + 1 + 2 * g + 1)) n (fun a => vcn (M 7) 0 g lo a)) : CG l X yX6_unlikeMask (.code yX6_unlikeMask cX6_unlikeMask 4 (some .int) :: AW) ({ frames := 3, cells := 0, slots := 0, locals := 108 } : Room) [.ref (X.2.2 0), .ref (X.2.2 14)] (qI X (fun r D' P' => r = 0 ∧ Fs4 D D' ∧ P = P')) D P 0 0 := by
  refine cg_of (by decide +kernel) (Nat.le_of_ble_eq_true rfl) ?_
  intro K hKl hKR C
  refine PV_lv (lv' := [some (.ref (X.2.2 0)), some (.ref (X.2.2 14)), none, none]) rfl ?_
  obtain ⟨⟨G, A, wr, nx, hw, hR, hT, hI, hAM⟩, ⟨s, hs5, hs3, hs0, hsj⟩, hP1, hP2, ⟨hk4, hk01, hkS⟩, n, hn60, hn9, hn1, hnk⟩ := id h
  refine pv_iconst (q := 1) (v := 0) C dX6_unlikeMask_0 rfl (by decide) ?_ 
  refine pv_istore_n (q := 2) C dX6_unlikeMask_1 rfl rfl (Nat.le_of_ble_eq_true rfl) rfl ?_ 
  refine pv_iconst (q := 3) (v := 0) C dX6_unlikeMask_2 rfl (by decide) ?_ 
  refine pv_istore_n (q := 4) C dX6_unlikeMask_3 rfl rfl (Nat.le_of_ble_eq_true rfl) rfl ?_ 
  have loop_4 : ∀ (nn : Nat) (g : Nat) (m : Int32) (D1 : DT), (5 ≤ g + nn) → g ≤ 4 → m = 0 → Fs4 D D1 → PV K X (MK K X (qI X (fun r D' P' => r = 0 ∧ Fs4 D D' ∧ P = P')) 0 0) (0) (0) 4 [some (.ref (X.2.2 0)), some (.ref (X.2.2 14)), some (.int m), some (.int (nI g))] [] D1 P := by
    intro nn
    induction nn with
    | zero =>
      intro g m D1 hfuel hg hm hF
      exact absurd hfuel (by omega)
    | succ nn ih =>
      intro g m D1 hfuel hg hm hF
      refine pv_iload_n (q := 5) C dX6_unlikeMask_4 rfl rfl rfl ?_ 
      refine pv_iconst (q := 6) (v := 4) C dX6_unlikeMask_5 rfl (by decide) ?_ 
      refine pv_icmp_geN (q := 9) (tgt := 56) (a := g) (b := 4) C rfl rfl (by omega) (by omega) dX6_unlikeMask_6 (by decide) rfl (fun c_6 => ?_) (fun c_6 => ?_) 
      · refine pv_iload_n (q := 57) C dX6_unlikeMask_56 rfl rfl rfl ?_
        exact pv_iret C (⟨hm, hF, rfl⟩) (by decide) (by decide) dX6_unlikeMask_57
      · refine pv_aload_n (q := 10) C dX6_unlikeMask_9 rfl rfl rfl ?_
        refine pg_6_6 (q := 13) C k0 tw_207 dX6_unlikeMask_10 rfl (fun k10 => ?_) 
        refine pv_aload_n (q := 14) C dX6_unlikeMask_13 rfl rfl rfl ?_ 
        refine pg_6_0 (q := 17) C k0 tw_201 dX6_unlikeMask_14 rfl (fun k14 => ?_) 
        refine pg_3_0 (q := 20) C k14 tw_129 dX6_unlikeMask_17 rfl (fun k17 => ?_) 
        refine pv_iload_n (q := 21) C dX6_unlikeMask_20 rfl rfl rfl ?_ 
        refine pv_aload_n (q := 22) C dX6_unlikeMask_21 rfl rfl rfl ?_ 
        refine pg_5_1 (q := 25) C (by rfl) tw_99 dX6_unlikeMask_22 rfl ?_ 
        rw [show D1 14 1 = lo by rw [hF _ (by decide) (by decide)]; exact hf]
        refine pv_callVv (q := 28) C hKl (c_X0_takeFrom l X D1 P 4 (24 + 1) rfl (by assumption) _ _) tw_499 k10 (by decide) rfl mm_X0_takeFrom ⟨rfl, rfl⟩ (by rw [hKR]; exact ⟨Nat.le_of_ble_eq_true rfl, Nat.le_of_ble_eq_true rfl⟩) (by rw [hKR]; exact ⟨Nat.le_of_ble_eq_true rfl, Nat.le_of_ble_eq_true rfl⟩) rfl rfl rfl (Nat.le_of_ble_eq_true rfl) dX6_unlikeMask_25 rfl (fun D25 P25 hp25 => ?_) 
        obtain ⟨⟨f, kk, hkk, hE, hsl⟩, rfl⟩ := hp25
        have hF2 : Fs4 D D25 := fun i a b => by rw [hE, setA_o _ _ _ a b]; exact hF i a b
        rw [hF (24 + 1 + 1) (by decide) (by decide), hF (24 + 1 + 2) (by decide) (by decide)] at hsl
        obtain ⟨z1, z2⟩ := SL_V (row := M 7) (fr := 0) (by omega) (TR_gr hT) hsl
        subst z1
        obtain ⟨n1, y3, y1, y2⟩ := hS g (by omega)
        obtain ⟨y4, y5⟩ := vF_u y2
        have hlk2 : like (D25 (4 + 1)) (vN (M 7) 0 g lo) (D25 (14 + 1 + 1 + 2 * g + 1)) n1 := like_of y4.symm (fun j hj => by rw [hF2 (14 + 1 + 1 + 2 * g + 1) (by omega) (by omega), show D25 (4 + 1) j = vF (M 7) 0 g lo j from (by rw [hE, setA_r]; exact z2 j hj), y5 j (by omega)])
        refine pv_aload_n (q := 29) C dX6_unlikeMask_28 rfl rfl rfl ?_ 
        refine pg_6_6 (q := 32) C k0 tw_207 dX6_unlikeMask_29 rfl (fun k29 => ?_) 
        refine pv_aload_n (q := 33) C dX6_unlikeMask_32 rfl rfl rfl ?_ 
        refine pg_5_0 (q := 36) C (by rfl) tw_97 dX6_unlikeMask_33 rfl (fun k33 => ?_) 
        refine pv_iload_n (q := 37) C dX6_unlikeMask_36 rfl rfl rfl ?_ 
        refine pv_aald_10 (q := 38) (j := g) C k33 rfl (by omega) dX6_unlikeMask_37 rfl (fun k37 => ?_) 
        refine pv_callVi (q := 41) C hKl (c_X0_tellsLike l X D25 P 4 rfl _ (by rw [hE]; exact setA_c _ _ _ _) hkk (14 + 1 + 1 + 2 * g) (by assumption) n1 (by rw [hF2 _ (by omega) (by omega)]; exact y1) y3) tw_507 k29 (by decide) rfl mm_X0_tellsLike ⟨rfl, rfl⟩ (by rw [hKR]; exact ⟨Nat.le_of_ble_eq_true rfl, Nat.le_of_ble_eq_true rfl⟩) (by rw [hKR]; exact ⟨Nat.le_of_ble_eq_true rfl, Nat.le_of_ble_eq_true rfl⟩) rfl rfl rfl (Nat.le_of_ble_eq_true rfl) dX6_unlikeMask_38 rfl (fun r38 D38 P38 hp38 => ?_) 
        rcases hp38 with ⟨⟨hlk, rfl⟩ | ⟨hlk, rfl⟩, rfl, rfl⟩
        · refine pv_if_ne (q := 44) (tgt := 50) C dX6_unlikeMask_41 (by decide) rfl (fun _ => ?_) (fun h => absurd h (by decide))
          refine pv_iinc (q := 53) (v := nI (g + 1)) C dX6_unlikeMask_50 rfl rfl (nI_add _ _) rfl ?_ 
          refine pv_goto (tgt := 4) C dX6_unlikeMask_53 (by decide) ?_ 
          exact ih (g + 1) m D25 (by omega) (by omega) hm hF2
        · refine pv_if_ne (q := 44) (tgt := 50) C dX6_unlikeMask_41 (by decide) rfl (fun h => absurd h (by decide)) (fun _ => ?_)
          refine pv_iload_n (q := 45) C dX6_unlikeMask_44 rfl rfl rfl ?_ 
          refine pv_iconst (q := 46) (v := 1) C dX6_unlikeMask_45 rfl (by decide) ?_ 
          refine pv_iload_n (q := 47) C dX6_unlikeMask_46 rfl rfl rfl ?_ 
          refine pv_ishl (q := 48) C dX6_unlikeMask_47 rfl ?_ 
          refine pv_ior (q := 49) C dX6_unlikeMask_48 rfl ?_ 
          refine pv_istore_n (q := 50) C dX6_unlikeMask_49 rfl rfl (Nat.le_of_ble_eq_true rfl) rfl ?_ 
          refine pv_iinc (q := 53) (v := nI (g + 1)) C dX6_unlikeMask_50 rfl rfl (nI_add _ _) rfl ?_ 
          refine pv_goto (tgt := 4) C dX6_unlikeMask_53 (by decide) ?_ 
          exfalso
          exact hlk hlk2
  exact loop_4 5 0 0 D (by omega) (by omega) rfl (fun _ _ _ => rfl)
set_option maxRecDepth 100000 in
set_option maxHeartbeats 4000000 in
theorem c_X6_unlikeGroups (l : Launch) (X : XT) (D : DT) (P : PT) (hfl : l.stackTraces = false) (M : DT) (W : Nat) (h : RI D P M W) (view : Int32) : XG l X yX6_unlikeGroups (.code yX6_unlikeGroups cX6_unlikeGroups 2 (some .int) :: AW) ({ frames := 7, cells := 1, slots := 6, locals := 252 } : Room) [.ref (X.2.2 0), .int view] (qI X (fun r D' P' => (kView view) = 0 ∧ r = (umN (M 7) (ix view) 4) ∧ Fs D D' ∧ P = P')) (fun e D' P' => ((e = eIOE ∧ (kView view) = 1)) ∧ Fs D D' ∧ P = P') D P 1 6 := by
  refine xg_of (by decide +kernel) (Nat.le_of_ble_eq_true rfl) ?_
  intro K hKl hKR C ht0 Z
  have hfl : K.2.1.stackTraces = false := by rw [hKl]; exact hfl
  refine PV_lv (lv' := [some (.ref (X.2.2 0)), some (.int view)]) rfl ?_
  obtain ⟨⟨G, A, wr, nx, hw, hR, hT, hI, hAM⟩, ⟨s, hs5, hs3, hs0, hsj⟩, hP1, hP2, ⟨hk4, hk01, hkS⟩, n, hn60, hn9, hn1, hnk⟩ := id h
  refine pv_iload_n (q := 1) C dX6_unlikeGroups_0 rfl rfl rfl ?_ 
  refine pv_callSvx (q := 4) C Z ht0 hKl (c_X6_requireView l X D P (hKl ▸ hfl) _) tw_460 mm_X6_requireView ⟨rfl, rfl⟩ (by rw [hKR]; exact ⟨Nat.le_of_ble_eq_true rfl, Nat.le_of_ble_eq_true rfl⟩) (by rw [hKR]; exact ⟨by first | exact Nat.le_of_ble_eq_true rfl | (dsimp only; omega), by first | exact Nat.le_of_ble_eq_true rfl | (dsimp only; omega)⟩) rfl rfl rfl (Nat.le_of_ble_eq_true rfl) dX6_unlikeGroups_1 rfl (fun e D1 P1 hx => ⟨⟨hx.1, by unfold kView; rw [if_neg hx.2.1]⟩, hx.2.2.1 ▸ Fs_rf _, hx.2.2.2⟩) (by first | omega | exact ⟨by omega, by omega⟩) (fun D1 P1 hp1 => ?_) 
  obtain ⟨hy1, rfl, rfl⟩ := hp1
  obtain ⟨v, hv, rfl⟩ := rg3 hy1
  obtain ⟨f1, f2, f3, f4, f5, f6, f7⟩ := Rp_fld hR hv
  have f8 := (hR.2.2.2.2.1 v hv).2.2.2.2.2.2.2.1
  refine pv_aload_n (q := 5) C dX6_unlikeGroups_4 rfl rfl rfl ?_ 
  refine pv_aload_n (q := 6) C dX6_unlikeGroups_5 rfl rfl rfl ?_ 
  refine pg_6_0 (q := 9) C k0 tw_201 dX6_unlikeGroups_6 rfl (fun k6 => ?_) 
  refine pg_3_2 (q := 12) C k6 tw_133 dX6_unlikeGroups_9 rfl (fun k9 => ?_) 
  refine pv_iload_n (q := 13) C dX6_unlikeGroups_12 rfl rfl rfl ?_ 
  refine pv_aald_12 (q := 14) (j := v) C k9 rfl (by omega) dX6_unlikeGroups_13 rfl (fun k13 => ?_) 
  refine pv_callVi (q := 17) C hKl (c_X6_unlikeMaskV l X D P M W h v hv (by assumption)) tw_495 k0 (by decide) rfl mm_X6_unlikeMask ⟨rfl, rfl⟩ (by rw [hKR]; exact ⟨Nat.le_of_ble_eq_true rfl, Nat.le_of_ble_eq_true rfl⟩) (by rw [hKR]; exact ⟨by first | exact Nat.le_of_ble_eq_true rfl | (dsimp only; omega), by first | exact Nat.le_of_ble_eq_true rfl | (dsimp only; omega)⟩) rfl rfl rfl (Nat.le_of_ble_eq_true rfl) dX6_unlikeGroups_14 rfl (fun r14 D14 P14 hp14 => ?_) 
  obtain ⟨hr14, hF4, rfl⟩ := hp14
  exact XK.of (pv_iret C (⟨by unfold kView; rw [if_pos hy1], by rw [ix_n (by omega)]; exact hr14, Fs4_s hF4, rfl⟩) (by decide) (by decide) dX6_unlikeGroups_17)
set_option maxRecDepth 100000 in
set_option maxHeartbeats 4000000 in
theorem c_X6_unlikeIfWoken (l : Launch) (X : XT) (D : DT) (P : PT) (hfl : l.stackTraces = false) (M : DT) (W : Nat) (h : RI D P M W) (view : Int32) : XG l X yX6_unlikeIfWoken (.code yX6_unlikeIfWoken cX6_unlikeIfWoken 2 (some .int) :: AW) ({ frames := 7, cells := 1, slots := 6, locals := 252 } : Room) [.ref (X.2.2 0), .int view] (qI X (fun r D' P' => (kView view) = 0 ∧ r = (0) ∧ Fs D D' ∧ P = P')) (fun e D' P' => ((e = eIOE ∧ (kView view) = 1)) ∧ Fs D D' ∧ P = P') D P 1 6 := by
  refine xg_of (by decide +kernel) (Nat.le_of_ble_eq_true rfl) ?_
  intro K hKl hKR C ht0 Z
  have hfl : K.2.1.stackTraces = false := by rw [hKl]; exact hfl
  refine PV_lv (lv' := [some (.ref (X.2.2 0)), some (.int view)]) rfl ?_
  obtain ⟨⟨G, A, wr, nx, hw, hR, hT, hI, hAM⟩, ⟨s, hs5, hs3, hs0, hsj⟩, hP1, hP2, ⟨hk4, hk01, hkS⟩, n, hn60, hn9, hn1, hnk⟩ := id h
  refine pv_iload_n (q := 1) C dX6_unlikeIfWoken_0 rfl rfl rfl ?_ 
  refine pv_callSvx (q := 4) C Z ht0 hKl (c_X6_requireView l X D P (hKl ▸ hfl) _) tw_460 mm_X6_requireView ⟨rfl, rfl⟩ (by rw [hKR]; exact ⟨Nat.le_of_ble_eq_true rfl, Nat.le_of_ble_eq_true rfl⟩) (by rw [hKR]; exact ⟨by first | exact Nat.le_of_ble_eq_true rfl | (dsimp only; omega), by first | exact Nat.le_of_ble_eq_true rfl | (dsimp only; omega)⟩) rfl rfl rfl (Nat.le_of_ble_eq_true rfl) dX6_unlikeIfWoken_1 rfl (fun e D1 P1 hx => ⟨⟨hx.1, by unfold kView; rw [if_neg hx.2.1]⟩, hx.2.2.1 ▸ Fs_rf _, hx.2.2.2⟩) (by first | omega | exact ⟨by omega, by omega⟩) (fun D1 P1 hp1 => ?_) 
  obtain ⟨hy1, rfl, rfl⟩ := hp1
  obtain ⟨v, hv, rfl⟩ := rg3 hy1
  obtain ⟨f1, f2, f3, f4, f5, f6, f7⟩ := Rp_fld hR hv
  have f8 := (hR.2.2.2.2.1 v hv).2.2.2.2.2.2.2.1
  refine pv_aload_n (q := 5) C dX6_unlikeIfWoken_4 rfl rfl rfl ?_ 
  refine pg_6_0 (q := 8) C k0 tw_201 dX6_unlikeIfWoken_5 rfl (fun k5 => ?_) 
  refine pg_3_2 (q := 11) C k5 tw_133 dX6_unlikeIfWoken_8 rfl (fun k8 => ?_) 
  refine pv_iload_n (q := 12) C dX6_unlikeIfWoken_11 rfl rfl rfl ?_ 
  refine pv_aald_12 (q := 13) (j := v) C k8 rfl (by omega) dX6_unlikeIfWoken_12 rfl (fun k12 => ?_) 
  refine pg_5_4 (q := 16) C k12 tw_107 dX6_unlikeIfWoken_13 rfl ?_ 
  rw [f4]
  refine pv_if_ne (q := 19) (tgt := 21) C dX6_unlikeIfWoken_16 (by decide) rfl (fun c_16 => ?_) (fun c_16 => ?_) 
  · refine pv_aload_n (q := 22) C dX6_unlikeIfWoken_21 rfl rfl rfl ?_
    refine pg_6_7 (q := 25) C k0 tw_208 dX6_unlikeIfWoken_22 rfl (fun k22 => ?_) 
    refine pv_aload_n (q := 26) C dX6_unlikeIfWoken_25 rfl rfl rfl ?_ 
    refine pg_6_0 (q := 29) C k0 tw_201 dX6_unlikeIfWoken_26 rfl (fun k26 => ?_) 
    refine pg_3_2 (q := 32) C k26 tw_133 dX6_unlikeIfWoken_29 rfl (fun k29 => ?_) 
    refine pv_iload_n (q := 33) C dX6_unlikeIfWoken_32 rfl rfl rfl ?_ 
    refine pv_aald_12 (q := 34) (j := v) C k29 rfl (by omega) dX6_unlikeIfWoken_33 rfl (fun k33 => ?_) 
    refine pv_callVv (q := 37) C hKl (c_X5_copyFrom l X D P 14 (24 + 8 + 1 + 10 * v) rfl (by assumption) (by omega) (by rw [f4]; exact f8)) tw_539 k22 (by decide) rfl mm_X5_copyFrom ⟨rfl, rfl⟩ (by rw [hKR]; exact ⟨Nat.le_of_ble_eq_true rfl, Nat.le_of_ble_eq_true rfl⟩) (by rw [hKR]; exact ⟨by first | exact Nat.le_of_ble_eq_true rfl | (dsimp only; omega), by first | exact Nat.le_of_ble_eq_true rfl | (dsimp only; omega)⟩) rfl rfl rfl (Nat.le_of_ble_eq_true rfl) dX6_unlikeIfWoken_34 rfl (fun D34 P34 hp34 => ?_) 
    obtain ⟨s1, s2, s3, rfl⟩ := hp34
    refine pv_aload_n (q := 38) C dX6_unlikeIfWoken_37 rfl rfl rfl ?_ 
    refine pg_6_7 (q := 41) C k0 tw_208 dX6_unlikeIfWoken_38 rfl (fun k38 => ?_) 
    refine pv_aload_n (q := 42) C dX6_unlikeIfWoken_41 rfl rfl rfl ?_ 
    refine pg_6_0 (q := 45) C k0 tw_201 dX6_unlikeIfWoken_42 rfl (fun k42 => ?_) 
    refine pg_3_1 (q := 48) C k42 tw_131 dX6_unlikeIfWoken_45 rfl (fun k45 => ?_) 
    refine pv_callVv (q := 51) C hKl (c_X5_seeWaiting l X D34 P 14 (24 + 4) rfl (by assumption) (nx v) wr (by rw [s2 6 (by decide) (by decide)]; exact (hR.2.2.2.2.1 v hv).1) (by rw [s1 _ (by omega)]; exact hR.1) (hR.2.2.2.2.1 v hv).2.2.1 (by have := hR.2.2.1; omega) G A (fun d a b => LSt_cong ((hR.2.2.2.2.1 v hv).2.2.2.2.2.2.2.2.1 d a b).1 (by rw [s1 _ (by omega)]) (by rw [s1 _ (by omega)]) (by rw [s1 _ (by omega)]) rfl rfl rfl rfl) (fun g hg => by
      obtain ⟨n2, n3, n4, n5⟩ := (hR.2.2.2.2.1 v hv).2.2.2.2.2.2.2.2.2.1 g hg
      exact ⟨n2, n3, (s3 g hg).1.trans n4, by rw [s2 1 (by decide) (by decide)]; exact SL_cong n5 (fun j hj => (s3 g hg).2 j (by omega)) (fun _ => rfl)⟩)) tw_540 k38 (by decide) rfl mm_X5_seeWaiting ⟨rfl, rfl⟩ (by rw [hKR]; exact ⟨Nat.le_of_ble_eq_true rfl, Nat.le_of_ble_eq_true rfl⟩) (by rw [hKR]; exact ⟨by first | exact Nat.le_of_ble_eq_true rfl | (dsimp only; omega), by first | exact Nat.le_of_ble_eq_true rfl | (dsimp only; omega)⟩) rfl rfl rfl (Nat.le_of_ble_eq_true rfl) dX6_unlikeIfWoken_48 rfl (fun D48 P48 hp48 => ?_) 
    obtain ⟨w1, w2, w3, w4, rfl⟩ := hp48
    have hFw : Fs D D48 := fun i hi => by rw [w1 i (by omega), s1 i (by omega)]
    have hRw : RI D48 P M W := RI_Fs h hFw
    refine pv_aload_n (q := 52) C dX6_unlikeIfWoken_51 rfl rfl rfl ?_ 
    refine pv_aload_n (q := 53) C dX6_unlikeIfWoken_52 rfl rfl rfl ?_ 
    refine pg_6_7 (q := 56) C k0 tw_208 dX6_unlikeIfWoken_53 rfl (fun k53 => ?_) 
    refine pv_callVi (q := 59) C hKl (c_X6_unlikeMask0 l X D48 P M W hRw (M 7 (32 + 38 * v + 34)) (by rw [w2 1 (by decide), s2 1 (by decide) (by decide)]; exact f1) (fun g hg => by
      obtain ⟨n2, n3, n4, n5⟩ := w4 g hg
      refine ⟨n2, n3, n4, SL_cong n5 (fun _ _ => rfl) (fun a => ?_)⟩
      rw [w2 1 (by decide), s2 1 (by decide) (by decide), f1]
      exact (tcn_vcn hg (fun p hp => by
        obtain ⟨q1, q2, -⟩ := hR.2.2.2.1 p hp
        rw [Nat.zero_add, Nat.zero_add, q1, Int32.sub_add_cancel]
        exact ⟨rfl, fun z => (q2 z).symm⟩)).symm)) tw_495 k0 (by decide) rfl mm_X6_unlikeMask ⟨rfl, rfl⟩ (by rw [hKR]; exact ⟨Nat.le_of_ble_eq_true rfl, Nat.le_of_ble_eq_true rfl⟩) (by rw [hKR]; exact ⟨by first | exact Nat.le_of_ble_eq_true rfl | (dsimp only; omega), by first | exact Nat.le_of_ble_eq_true rfl | (dsimp only; omega)⟩) rfl rfl rfl (Nat.le_of_ble_eq_true rfl) dX6_unlikeIfWoken_56 rfl (fun r56 D56 P56 hp56 => ?_) 
    obtain ⟨rfl, hF4, rfl⟩ := hp56
    exact XK.of (pv_iret C (⟨by unfold kView; rw [if_pos hy1], rfl, hFw.tr (Fs4_s hF4), rfl⟩) (by decide) (by decide) dX6_unlikeIfWoken_59)
  · refine pv_iconst (q := 20) (v := 0) C dX6_unlikeIfWoken_19 rfl (by decide) ?_
    exact XK.of (pv_iret C (⟨by unfold kView; rw [if_pos hy1], rfl, Fs_rf D, rfl⟩) (by decide) (by decide) dX6_unlikeIfWoken_20)
set_option maxRecDepth 100000 in
set_option maxHeartbeats 4000000 in
theorem c_X6_behindShare (l : Launch) (X : XT) (D : DT) (P : PT) (M : DT) (W : Nat) (h : RI D P M W)  : CG l X yX6_behindShare (.code yX6_behindShare cX6_behindShare 3 (some .double) :: AW) ({ frames := 1, cells := 0, slots := 0, locals := 36 } : Room) [.ref (X.2.2 0)] (qD X (fun r D' P' => r = (shr (M 7)) ∧ D = D' ∧ P = P')) D P 0 0 := by
  refine cg_of (by decide +kernel) (Nat.le_of_ble_eq_true rfl) ?_
  intro K hKl hKR C
  refine PV_lv (lv' := [some (.ref (X.2.2 0)), none, none]) rfl ?_
  obtain ⟨⟨G, A, wr, nx, hw, hR, hT, hI, hAM⟩, ⟨s, hs5, hs3, hs0, hsj⟩, hP1, hP2, ⟨hk4, hk01, hkS⟩, n, hn60, hn9, hn1, hnk⟩ := id h
  have hsk := Rp_shK hR
  refine pv_aload_n (q := 1) C dX6_behindShare_0 rfl rfl rfl ?_ 
  refine pg_6_0 (q := 4) C k0 tw_201 dX6_behindShare_1 rfl (fun k1 => ?_) 
  refine pg_3_1 (q := 7) C k1 tw_131 dX6_behindShare_4 rfl (fun k4 => ?_) 
  refine pg_1_3 (q := 10) C k4 tw_64 dX6_behindShare_7 rfl ?_ 
  rw [show D (24 + 4) 3 = M 7 178 from hR.1.trans hR.2.1.symm]
  refine pv_if_ne (q := 13) (tgt := 15) C dX6_behindShare_10 (by decide) rfl (fun c_10 => ?_) (fun c_10 => ?_) 
  · refine pv_iconst (q := 16) (v := 0) C dX6_behindShare_15 rfl (by decide) ?_
    refine pv_istore_n (q := 17) C dX6_behindShare_16 rfl rfl (Nat.le_of_ble_eq_true rfl) rfl ?_ 
    refine pv_iconst (q := 18) (v := 0) C dX6_behindShare_17 rfl (by decide) ?_ 
    refine pv_istore_n (q := 19) C dX6_behindShare_18 rfl rfl (Nat.le_of_ble_eq_true rfl) rfl ?_ 
    have loop_19 : ∀ (nn : Nat) (v : Nat) (x : Int32), (4 ≤ v + nn) → v ≤ 3 → x = bsum (M 7) v → PV K X (MK K X (qD X (fun r D' P' => r = (shr (M 7)) ∧ D = D' ∧ P = P')) 0 0) (0) (0) 19 [some (.ref (X.2.2 0)), some (.int x), some (.int (nI v))] [] D P := by
      intro nn
      induction nn with
      | zero =>
        intro v x hfuel hv3 hx
        exact absurd hfuel (by omega)
      | succ nn ih =>
        intro v x hfuel hv3 hx
        refine pv_iload_n (q := 20) C dX6_behindShare_19 rfl rfl rfl ?_ 
        refine pv_iconst (q := 21) (v := 3) C dX6_behindShare_20 rfl (by decide) ?_ 
        refine pv_icmp_geN (q := 24) (tgt := 52) (a := v) (b := 3) C rfl rfl (by omega) (by omega) dX6_behindShare_21 (by decide) rfl (fun c_21 => ?_) (fun c_21 => ?_) 
        · refine pv_iload_n (q := 53) C dX6_behindShare_52 rfl rfl rfl ?_
          refine pv_i2d (q := 54) C dX6_behindShare_53 rfl ?_ 
          refine pv_ldc2d (q := 57) C dX6_behindShare_54 rfl tw_586 ?_ 
          refine pv_aload_n (q := 58) C dX6_behindShare_57 rfl rfl rfl ?_ 
          refine pg_6_0 (q := 61) C k0 tw_201 dX6_behindShare_58 rfl (fun k58 => ?_) 
          refine pg_3_1 (q := 64) C k58 tw_131 dX6_behindShare_61 rfl (fun k61 => ?_) 
          refine pg_1_3 (q := 67) C k61 tw_64 dX6_behindShare_64 rfl ?_ 
          rw [show D (24 + 4) 3 = M 7 178 from hR.1.trans hR.2.1.symm]
          refine pv_i2d (q := 68) C dX6_behindShare_67 rfl ?_ 
          refine pv_dmul (q := 69) C dX6_behindShare_68 rfl (shr_mul hsk c_10).2 ?_ 
          rw [(shr_mul hsk c_10).1]
          refine pv_ddiv (q := 70) C dX6_behindShare_69 rfl (by rw [hx, show v = 3 by omega, bsum_3]; exact shr_vf hsk c_10) ?_ 
          exact pv_dret C (⟨by unfold shr; rw [if_neg c_10, hx, show v = 3 by omega, bsum_3], rfl, rfl⟩) (by decide) (by decide) dX6_behindShare_70
        · refine pv_iload_n (q := 25) C dX6_behindShare_24 rfl rfl rfl ?_
          refine pv_aload_n (q := 26) C dX6_behindShare_25 rfl rfl rfl ?_ 
          refine pg_6_0 (q := 29) C k0 tw_201 dX6_behindShare_26 rfl (fun k26 => ?_) 
          refine pg_3_2 (q := 32) C k26 tw_133 dX6_behindShare_29 rfl (fun k29 => ?_) 
          refine pv_iload_n (q := 33) C dX6_behindShare_32 rfl rfl rfl ?_ 
          refine pv_aald_12 (q := 34) (j := v) C k29 rfl (by omega) dX6_behindShare_33 rfl (fun k33 => ?_) 
          refine pv_aload_n (q := 35) C dX6_behindShare_34 rfl rfl rfl ?_ 
          refine pg_6_0 (q := 38) C k0 tw_201 dX6_behindShare_35 rfl (fun k35 => ?_) 
          refine pg_3_1 (q := 41) C k35 tw_131 dX6_behindShare_38 rfl (fun k38 => ?_) 
          refine pv_callVi (q := 44) C hKl (c_X5_countWaiting l X D P (24 + 8 + 1 + 10 * v) (24 + 4) (by assumption) (by assumption)) tw_394 k33 (by decide) rfl mm_X5_countWaiting ⟨rfl, rfl⟩ (by rw [hKR]; exact ⟨Nat.le_of_ble_eq_true rfl, Nat.le_of_ble_eq_true rfl⟩) (by rw [hKR]; exact ⟨Nat.le_of_ble_eq_true rfl, Nat.le_of_ble_eq_true rfl⟩) rfl rfl rfl (Nat.le_of_ble_eq_true rfl) dX6_behindShare_41 rfl (fun r41 D41 P41 hp41 => ?_) 
          obtain ⟨rfl, rfl, rfl⟩ := hp41
          rw [Rp_wt hR (by omega)]
          refine pv_iadd (q := 45) C dX6_behindShare_44 rfl ?_ 
          refine pv_istore_n (q := 46) C dX6_behindShare_45 rfl rfl (Nat.le_of_ble_eq_true rfl) rfl ?_ 
          refine pv_iinc (q := 49) (v := nI (v + 1)) C dX6_behindShare_46 rfl rfl (nI_add _ _) rfl ?_ 
          refine pv_goto (tgt := 19) C dX6_behindShare_49 (by decide) ?_ 
          exact ih (v + 1) _ (by omega) (by omega) (by show _ = bsum (M 7) v + wt (M 7) v; rw [← hx])
    exact loop_19 4 0 0 (by omega) (by omega) rfl
  · refine pv_dconst0 (q := 14) C dX6_behindShare_13 rfl ?_
    exact pv_dret C (⟨by unfold shr; rw [if_pos (by assumption)], rfl, rfl⟩) (by decide) (by decide) dX6_behindShare_14
