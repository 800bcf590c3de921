theorem c_X6_bitsOfShare (l : Launch) (X : XT) (D : DT) (P : PT) (x : UInt64) (hx : shO x) : CG l X yX6_bitsOfShare (.code yX6_bitsOfShare cX6_bitsOfShare 8 (some .long) :: AW) ({ frames := 0, cells := 0, slots := 0, locals := 0 } : Room) [.double x] (qL X (fun r D' P' => r = x.toInt64 ∧ D = D' ∧ P = P')) D P 0 0 := by
  rcases hx with rfl | ⟨c, q, hz, rfl⟩
  · exact c_X6_bitsOfShare0 l X D P
  · exact c_X6_bitsOfShareP l X D P c q hz
set_option maxRecDepth 100000 in
set_option maxHeartbeats 4000000 in
theorem c_X6_digest (l : Launch) (X : XT) (D : DT) (P : PT) (hfl : l.stackTraces = false) (M : DT) (W : Nat) (h : RI D P M W) (n0 : Nat) (hn0 : M 6 9 = nI n0) (hn60 : n0 ≤ 60) : XG l X yX6_digest (.code yX6_digest cX6_digest 5 (some .long) :: AW) ({ frames := 9, cells := 171, slots := 1026, locals := 324 } : Room) [.ref (X.2.2 0)] (qL X (fun r D' P' => r = (dgs (M 7) (M 12) n0 (M 6 3)) ∧ Fs D D' ∧ P = P')) (fun _ _ _ => False) D P 171 1026 := by
  refine xg_of (by decide +kernel) (Nat.le_of_ble_eq_true rfl) ?_
  intro K hKl hKR C ht0 Z
  have hfl : K.2.1.stackTraces = false := by rw [hKl]; exact hfl
  refine PV_lv (lv' := [some (.ref (X.2.2 0)), none, none, none, none]) rfl ?_
  obtain ⟨⟨G, A, wr, nx, hw, hR, hT, hI, hAM⟩, ⟨s, hs5, hs3, hs0, hsj⟩, hP1, hP2, ⟨hk4, hk01, hkS⟩, n, hn61, hn9, hn1, hnk⟩ := id h
  obtain rfl := nI_inj (by omega) (by omega) (hn0.symm.trans hn9)
  refine pv_aload_n (q := 1) C dX6_digest_0 rfl rfl rfl ?_ 
  refine pv_ldc2 (q := 4) C dX6_digest_1 rfl tw_360 ?_ 
  refine pv_callVl (q := 7) C hKl (c_X6_hashOfNumbers l X D P M W h _) tw_361 k0 (by decide) rfl mm_X6_hashOfNumbers ⟨rfl, rfl⟩ (by rw [hKR]; exact ⟨Nat.le_of_ble_eq_true rfl, Nat.le_of_ble_eq_true rfl⟩) (by rw [hKR]; exact ⟨Nat.le_of_ble_eq_true rfl, Nat.le_of_ble_eq_true rfl⟩) rfl rfl rfl (Nat.le_of_ble_eq_true rfl) dX6_digest_4 rfl (fun r4 D4 P4 hp4 => ?_) 
  obtain ⟨rfl, rfl, rfl⟩ := hp4
  refine pv_lstore_n (q := 8) C dX6_digest_7 rfl rfl (Nat.le_of_ble_eq_true rfl) rfl ?_ 
  refine pv_iconst (q := 9) (v := 0) C dX6_digest_8 rfl (by decide) ?_ 
  refine pv_istore_n (q := 10) C dX6_digest_9 rfl rfl (Nat.le_of_ble_eq_true rfl) rfl ?_ 
  have loop_10 : ∀ (nn : Nat) (p : Nat) (x : Int64) (D1 : DT), (17 ≤ p + nn) → p ≤ 16 → x = dP (M 7) (dN (M 7) (M 6 3)) p → Fs D D1 → PV K X (XK K X (qL X (fun r D' P' => r = (dgs (M 7) (M 12) n0 (M 6 3)) ∧ Fs D D' ∧ P = P')) (fun _ _ _ => False) 171 1026) (6 * p) (36 * p) 10 [some (.ref (X.2.2 0)), some (.long x), none, some (.int (nI p)), none] [] D1 P := by
    intro nn
    induction nn with
    | zero =>
      intro p x D1 hfuel hp hx hF1
      exact absurd hfuel (by omega)
    | succ nn ih =>
      intro p x D1 hfuel hp hx hF1
      have hri : RI D1 P M W := RI_Fs h hF1
      refine pv_iload_n (q := 11) C dX6_digest_10 rfl rfl rfl ?_ 
      refine pv_bipush (q := 13) (v := 16) C dX6_digest_11 rfl (by decide) ?_ 
      refine pv_icmp_geN (q := 16) (tgt := 29) (a := p) (b := 16) C rfl rfl (by omega) (by omega) dX6_digest_13 (by decide) rfl (fun c_13 => ?_) (fun c_13 => ?_) 
      · refine pv_iconst (q := 30) (v := 0) C dX6_digest_29 rfl (by decide) ?_
        refine pv_istore_n (q := 31) C dX6_digest_30 rfl rfl (Nat.le_of_ble_eq_true rfl) rfl ?_ 
        have loop_31 : ∀ (nn : Nat) (v : Nat) (x : Int64) (DV : DT), (4 ≤ v + nn) → v ≤ 3 → x = dV (M 7) (dP (M 7) (dN (M 7) (M 6 3)) 16) v → Fs D DV → PV K X (XK K X (qL X (fun r D' P' => r = (dgs (M 7) (M 12) n0 (M 6 3)) ∧ Fs D D' ∧ P = P')) (fun _ _ _ => False) 171 1026) (96 + 25 * v) (576 + 150 * v) 31 [some (.ref (X.2.2 0)), some (.long x), none, some (.int (nI v)), none] [] DV P := by
          intro nn
          induction nn with
          | zero =>
            intro v x DV hfuel hv hx hFv
            exact absurd hfuel (by omega)
          | succ nn ih =>
            intro v x DV hfuel hv hx hFv
            have hrv : RI DV P M W := RI_Fs h hFv
            refine pv_iload_n (q := 32) C dX6_digest_31 rfl rfl rfl ?_ 
            refine pv_iconst (q := 33) (v := 3) C dX6_digest_32 rfl (by decide) ?_ 
            refine pv_icmp_geN (q := 36) (tgt := 73) (a := v) (b := 3) C rfl rfl (by omega) (by omega) dX6_digest_33 (by decide) rfl (fun c_33 => ?_) (fun c_33 => ?_) 
            · refine pv_lload_n (q := 74) C dX6_digest_73 rfl rfl rfl ?_
              refine pv_aload_n (q := 75) C dX6_digest_74 rfl rfl rfl ?_ 
              refine pv_callVi (q := 78) C hKl (c_X6_hasStopped l X DV P M W hrv) tw_578 k0 (by decide) rfl mm_X6_hasStopped ⟨rfl, rfl⟩ (by rw [hKR]; exact ⟨Nat.le_of_ble_eq_true rfl, Nat.le_of_ble_eq_true rfl⟩) (by rw [hKR]; exact ⟨by first | exact Nat.le_of_ble_eq_true rfl | (dsimp only; omega), by first | exact Nat.le_of_ble_eq_true rfl | (dsimp only; omega)⟩) rfl rfl rfl (Nat.le_of_ble_eq_true rfl) dX6_digest_75 rfl (fun r75 D75 P75 hp75 => ?_) 
              obtain ⟨rv75, rfl, rfl⟩ := hp75
              have hb0 : r75 = 0 ∨ r75 = 1 := by rw [rv75]; split <;> simp
              refine pv_callSl (q := 81) C hKl (c_X6_bit l X DV P _ (by assumption)) tw_436 mm_X6_bit ⟨rfl, rfl⟩ (by rw [hKR]; exact ⟨Nat.le_of_ble_eq_true rfl, Nat.le_of_ble_eq_true rfl⟩) (by rw [hKR]; exact ⟨by first | exact Nat.le_of_ble_eq_true rfl | (dsimp only; omega), by first | exact Nat.le_of_ble_eq_true rfl | (dsimp only; omega)⟩) rfl rfl rfl (Nat.le_of_ble_eq_true rfl) dX6_digest_78 rfl (fun r78 D78 P78 hp78 => ?_) 
              obtain ⟨rfl, rfl, rfl⟩ := hp78
              refine pv_callSl (q := 84) C hKl (c_X6_hashWith l X DV P _ _) tw_366 mm_X6_hashWith ⟨rfl, rfl⟩ (by rw [hKR]; exact ⟨Nat.le_of_ble_eq_true rfl, Nat.le_of_ble_eq_true rfl⟩) (by rw [hKR]; exact ⟨by first | exact Nat.le_of_ble_eq_true rfl | (dsimp only; omega), by first | exact Nat.le_of_ble_eq_true rfl | (dsimp only; omega)⟩) rfl rfl rfl (Nat.le_of_ble_eq_true rfl) dX6_digest_81 rfl (fun r81 D81 P81 hp81 => ?_) 
              obtain ⟨rfl, rfl, rfl⟩ := hp81
              refine pv_lstore_n (q := 85) C dX6_digest_84 rfl rfl (Nat.le_of_ble_eq_true rfl) rfl ?_ 
              refine pv_aload_n (q := 86) C dX6_digest_85 rfl rfl rfl ?_ 
              refine pv_callVi (q := 89) C hKl (c_X6_hasStopped l X DV P M W hrv) tw_578 k0 (by decide) rfl mm_X6_hasStopped ⟨rfl, rfl⟩ (by rw [hKR]; exact ⟨Nat.le_of_ble_eq_true rfl, Nat.le_of_ble_eq_true rfl⟩) (by rw [hKR]; exact ⟨by first | exact Nat.le_of_ble_eq_true rfl | (dsimp only; omega), by first | exact Nat.le_of_ble_eq_true rfl | (dsimp only; omega)⟩) rfl rfl rfl (Nat.le_of_ble_eq_true rfl) dX6_digest_86 rfl (fun r86 D86 P86 hp86 => ?_) 
              obtain ⟨rv86, rfl, rfl⟩ := hp86
              refine pv_if_eq (q := 92) (tgt := 105) C dX6_digest_89 (by decide) rfl (fun c_89 => ?_) (fun c_89 => ?_) 
              · refine pv_lload_n (q := 106) C dX6_digest_105 rfl rfl rfl ?_
                refine pv_aload_n (q := 107) C dX6_digest_106 rfl rfl rfl ?_ 
                refine pv_callVd (q := 110) C hKl (c_X6_behindShare l X DV P M W hrv) tw_582 k0 (by decide) rfl mm_X6_behindShare ⟨rfl, rfl⟩ (by rw [hKR]; exact ⟨Nat.le_of_ble_eq_true rfl, Nat.le_of_ble_eq_true rfl⟩) (by rw [hKR]; exact ⟨by first | exact Nat.le_of_ble_eq_true rfl | (dsimp only; omega), by first | exact Nat.le_of_ble_eq_true rfl | (dsimp only; omega)⟩) rfl rfl rfl (Nat.le_of_ble_eq_true rfl) dX6_digest_107 rfl (fun r107 D107 P107 hp107 => ?_) 
                obtain ⟨rfl, rfl, rfl⟩ := hp107
                refine pv_callSl (q := 113) C hKl (c_X6_bitsOfShare l X DV P _ (shr_O (Rp_shK hR))) tw_587 mm_X6_bitsOfShare ⟨rfl, rfl⟩ (by rw [hKR]; exact ⟨Nat.le_of_ble_eq_true rfl, Nat.le_of_ble_eq_true rfl⟩) (by rw [hKR]; exact ⟨by first | exact Nat.le_of_ble_eq_true rfl | (dsimp only; omega), by first | exact Nat.le_of_ble_eq_true rfl | (dsimp only; omega)⟩) rfl rfl rfl (Nat.le_of_ble_eq_true rfl) dX6_digest_110 rfl (fun r110 D110 P110 hp110 => ?_) 
                obtain ⟨rfl, rfl, rfl⟩ := hp110
                refine pv_callSl (q := 116) C hKl (c_X6_hashWith l X DV P _ _) tw_366 mm_X6_hashWith ⟨rfl, rfl⟩ (by rw [hKR]; exact ⟨Nat.le_of_ble_eq_true rfl, Nat.le_of_ble_eq_true rfl⟩) (by rw [hKR]; exact ⟨by first | exact Nat.le_of_ble_eq_true rfl | (dsimp only; omega), by first | exact Nat.le_of_ble_eq_true rfl | (dsimp only; omega)⟩) rfl rfl rfl (Nat.le_of_ble_eq_true rfl) dX6_digest_113 rfl (fun r113 D113 P113 hp113 => ?_) 
                obtain ⟨rfl, rfl, rfl⟩ := hp113
                refine pv_lstore_n (q := 117) C dX6_digest_116 rfl rfl (Nat.le_of_ble_eq_true rfl) rfl ?_ 
                refine pv_aload_n (q := 118) C dX6_digest_117 rfl rfl rfl ?_ 
                refine pg_6_5 (q := 121) C k0 tw_206 dX6_digest_118 rfl (fun k118 => ?_) 
                refine pv_lload_n (q := 122) C dX6_digest_121 rfl rfl rfl ?_ 
                refine pv_aload_n (q := 123) C dX6_digest_122 rfl rfl rfl ?_ 
                refine pg_6_5 (q := 126) C k0 tw_206 dX6_digest_123 rfl (fun k123 => ?_) 
                refine pg_2_1 (q := 129) C k123 tw_170 dX6_digest_126 rfl ?_ 
                rw [hFv 2 (by omega), hn1]
                refine pv_i2l (q := 130) C dX6_digest_129 rfl ?_ 
                refine pv_callSl (q := 133) C hKl (c_X6_hashWith l X DV P _ _) tw_366 mm_X6_hashWith ⟨rfl, rfl⟩ (by rw [hKR]; exact ⟨Nat.le_of_ble_eq_true rfl, Nat.le_of_ble_eq_true rfl⟩) (by rw [hKR]; exact ⟨by first | exact Nat.le_of_ble_eq_true rfl | (dsimp only; omega), by first | exact Nat.le_of_ble_eq_true rfl | (dsimp only; omega)⟩) rfl rfl rfl (Nat.le_of_ble_eq_true rfl) dX6_digest_130 rfl (fun r130 D130 P130 hp130 => ?_) 
                obtain ⟨rfl, rfl, rfl⟩ := hp130
                refine pv_callVlx (q := 136) C Z ht0 hKl (c_X2_hashOfSigns l X DV P (hKl ▸ hfl) _ n0 (by rw [hFv 2 (by omega)]; exact hn1) hn60) tw_593 k118 (by decide) rfl mm_X2_hashOfSigns ⟨rfl, rfl⟩ (by rw [hKR]; exact ⟨Nat.le_of_ble_eq_true rfl, Nat.le_of_ble_eq_true rfl⟩) (by rw [hKR]; exact ⟨by first | exact Nat.le_of_ble_eq_true rfl | (dsimp only; omega), by first | exact Nat.le_of_ble_eq_true rfl | (dsimp only; omega)⟩) rfl rfl rfl (Nat.le_of_ble_eq_true rfl) dX6_digest_133 rfl (fun _ _ _ h => h) (by first | omega | exact ⟨by omega, by omega⟩) (fun r133 D133 P133 hp133 => ?_) 
                obtain ⟨rv133, rfl, rfl⟩ := hp133
                exact XK.of (pv_lret C (⟨by
                    have he : M 7 183 = -1 := Classical.byContradiction (fun z => absurd ((show r86 = 1 by rw [rv86, if_neg z]).symm.trans c_89) (by decide))
                    rw [rv133, hFv 3 (by omega), hx, show v = 3 by omega, rv75, if_pos he, dT_cong _ hnk]
                    unfold dgs dS
                    rw [if_pos he]
                    rfl, hFv, rfl⟩) (by omega) (by omega) dX6_digest_136)
              · refine pv_lload_n (q := 93) C dX6_digest_92 rfl rfl rfl ?_
                refine pv_aload_n (q := 94) C dX6_digest_93 rfl rfl rfl ?_ 
                refine pg_6_0 (q := 97) C k0 tw_201 dX6_digest_94 rfl (fun k94 => ?_) 
                refine pg_3_7 (q := 100) C k94 tw_143 dX6_digest_97 rfl ?_ 
                rw [hFv 24 (by omega), hR.2.2.2.2.2 7 (by omega) (by omega)]
                refine pv_i2l (q := 101) C dX6_digest_100 rfl ?_ 
                refine pv_callSl (q := 104) C hKl (c_X6_hashWith l X DV P _ _) tw_366 mm_X6_hashWith ⟨rfl, rfl⟩ (by rw [hKR]; exact ⟨Nat.le_of_ble_eq_true rfl, Nat.le_of_ble_eq_true rfl⟩) (by rw [hKR]; exact ⟨by first | exact Nat.le_of_ble_eq_true rfl | (dsimp only; omega), by first | exact Nat.le_of_ble_eq_true rfl | (dsimp only; omega)⟩) rfl rfl rfl (Nat.le_of_ble_eq_true rfl) dX6_digest_101 rfl (fun r101 D101 P101 hp101 => ?_) 
                obtain ⟨rfl, rfl, rfl⟩ := hp101
                refine pv_lstore_n (q := 105) C dX6_digest_104 rfl rfl (Nat.le_of_ble_eq_true rfl) rfl ?_ 
                refine pv_lload_n (q := 106) C dX6_digest_105 rfl rfl rfl ?_ 
                refine pv_aload_n (q := 107) C dX6_digest_106 rfl rfl rfl ?_ 
                refine pv_callVd (q := 110) C hKl (c_X6_behindShare l X DV P M W hrv) tw_582 k0 (by decide) rfl mm_X6_behindShare ⟨rfl, rfl⟩ (by rw [hKR]; exact ⟨Nat.le_of_ble_eq_true rfl, Nat.le_of_ble_eq_true rfl⟩) (by rw [hKR]; exact ⟨by first | exact Nat.le_of_ble_eq_true rfl | (dsimp only; omega), by first | exact Nat.le_of_ble_eq_true rfl | (dsimp only; omega)⟩) rfl rfl rfl (Nat.le_of_ble_eq_true rfl) dX6_digest_107 rfl (fun r107 D107 P107 hp107 => ?_) 
                obtain ⟨rfl, rfl, rfl⟩ := hp107
                refine pv_callSl (q := 113) C hKl (c_X6_bitsOfShare l X DV P _ (shr_O (Rp_shK hR))) tw_587 mm_X6_bitsOfShare ⟨rfl, rfl⟩ (by rw [hKR]; exact ⟨Nat.le_of_ble_eq_true rfl, Nat.le_of_ble_eq_true rfl⟩) (by rw [hKR]; exact ⟨by first | exact Nat.le_of_ble_eq_true rfl | (dsimp only; omega), by first | exact Nat.le_of_ble_eq_true rfl | (dsimp only; omega)⟩) rfl rfl rfl (Nat.le_of_ble_eq_true rfl) dX6_digest_110 rfl (fun r110 D110 P110 hp110 => ?_) 
                obtain ⟨rfl, rfl, rfl⟩ := hp110
                refine pv_callSl (q := 116) C hKl (c_X6_hashWith l X DV P _ _) tw_366 mm_X6_hashWith ⟨rfl, rfl⟩ (by rw [hKR]; exact ⟨Nat.le_of_ble_eq_true rfl, Nat.le_of_ble_eq_true rfl⟩) (by rw [hKR]; exact ⟨by first | exact Nat.le_of_ble_eq_true rfl | (dsimp only; omega), by first | exact Nat.le_of_ble_eq_true rfl | (dsimp only; omega)⟩) rfl rfl rfl (Nat.le_of_ble_eq_true rfl) dX6_digest_113 rfl (fun r113 D113 P113 hp113 => ?_) 
                obtain ⟨rfl, rfl, rfl⟩ := hp113
                refine pv_lstore_n (q := 117) C dX6_digest_116 rfl rfl (Nat.le_of_ble_eq_true rfl) rfl ?_ 
                refine pv_aload_n (q := 118) C dX6_digest_117 rfl rfl rfl ?_ 
                refine pg_6_5 (q := 121) C k0 tw_206 dX6_digest_118 rfl (fun k118 => ?_) 
                refine pv_lload_n (q := 122) C dX6_digest_121 rfl rfl rfl ?_ 
                refine pv_aload_n (q := 123) C dX6_digest_122 rfl rfl rfl ?_ 
                refine pg_6_5 (q := 126) C k0 tw_206 dX6_digest_123 rfl (fun k123 => ?_) 
                refine pg_2_1 (q := 129) C k123 tw_170 dX6_digest_126 rfl ?_ 
                rw [hFv 2 (by omega), hn1]
                refine pv_i2l (q := 130) C dX6_digest_129 rfl ?_ 
                refine pv_callSl (q := 133) C hKl (c_X6_hashWith l X DV P _ _) tw_366 mm_X6_hashWith ⟨rfl, rfl⟩ (by rw [hKR]; exact ⟨Nat.le_of_ble_eq_true rfl, Nat.le_of_ble_eq_true rfl⟩) (by rw [hKR]; exact ⟨by first | exact Nat.le_of_ble_eq_true rfl | (dsimp only; omega), by first | exact Nat.le_of_ble_eq_true rfl | (dsimp only; omega)⟩) rfl rfl rfl (Nat.le_of_ble_eq_true rfl) dX6_digest_130 rfl (fun r130 D130 P130 hp130 => ?_) 
                obtain ⟨rfl, rfl, rfl⟩ := hp130
                refine pv_callVlx (q := 136) C Z ht0 hKl (c_X2_hashOfSigns l X DV P (hKl ▸ hfl) _ n0 (by rw [hFv 2 (by omega)]; exact hn1) hn60) tw_593 k118 (by decide) rfl mm_X2_hashOfSigns ⟨rfl, rfl⟩ (by rw [hKR]; exact ⟨Nat.le_of_ble_eq_true rfl, Nat.le_of_ble_eq_true rfl⟩) (by rw [hKR]; exact ⟨by first | exact Nat.le_of_ble_eq_true rfl | (dsimp only; omega), by first | exact Nat.le_of_ble_eq_true rfl | (dsimp only; omega)⟩) rfl rfl rfl (Nat.le_of_ble_eq_true rfl) dX6_digest_133 rfl (fun _ _ _ h => h) (by first | omega | exact ⟨by omega, by omega⟩) (fun r133 D133 P133 hp133 => ?_) 
                obtain ⟨rv133, rfl, rfl⟩ := hp133
                exact XK.of (pv_lret C (⟨by
                    have he : ¬ M 7 183 = -1 := fun z => c_89 (by rw [rv86, if_pos z])
                    rw [rv133, hFv 3 (by omega), hx, show v = 3 by omega, rv75, if_neg he, dT_cong _ hnk]
                    unfold dgs dS
                    rw [if_neg he]
                    rfl, hFv, rfl⟩) (by omega) (by omega) dX6_digest_136)
            · refine pv_aload_n (q := 37) C dX6_digest_36 rfl rfl rfl ?_
              refine pv_lload_n (q := 38) C dX6_digest_37 rfl rfl rfl ?_ 
              refine pv_iload_n (q := 39) C dX6_digest_38 rfl rfl rfl ?_ 
              refine pv_callVlx (q := 42) C Z ht0 hKl (c_X6_hashOfView l X DV P (hKl ▸ hfl) M W hrv x v (by omega)) tw_452 k0 (by decide) rfl mm_X6_hashOfView ⟨rfl, rfl⟩ (by rw [hKR]; exact ⟨Nat.le_of_ble_eq_true rfl, Nat.le_of_ble_eq_true rfl⟩) (by rw [hKR]; exact ⟨by first | exact Nat.le_of_ble_eq_true rfl | (dsimp only; omega), by first | exact Nat.le_of_ble_eq_true rfl | (dsimp only; omega)⟩) rfl rfl rfl (Nat.le_of_ble_eq_true rfl) dX6_digest_39 rfl (fun _ _ _ h => h) (by first | omega | exact ⟨by omega, by omega⟩) (fun r39 D39 P39 hp39 => ?_) 
              obtain ⟨rv39, hF39, rfl⟩ := hp39
              have ihv := ih
              have hfuelv := hfuel
              refine pv_lstore_n (q := 43) C dX6_digest_42 rfl rfl (Nat.le_of_ble_eq_true rfl) rfl ?_ 
              refine pv_iconst (q := 44) (v := 0) C dX6_digest_43 rfl (by decide) ?_ 
              refine pv_istore (q := 46) C dX6_digest_44 rfl (Nat.le_of_ble_eq_true rfl) rfl ?_ 
              have loop_46 : ∀ (nn : Nat) (g : Nat) (y : Int64) (DG : DT), (5 ≤ g + nn) → g ≤ 4 → y = vH x (M 7) v g → Fs D DG → PV K X (XK K X (qL X (fun r D' P' => r = (dgs (M 7) (M 12) n0 (M 6 3)) ∧ Fs D D' ∧ P = P')) (fun _ _ _ => False) 171 1026) (105 + 25 * v + 4 * g) (630 + 150 * v + 24 * g) 46 [some (.ref (X.2.2 0)), some (.long y), none, some (.int (nI v)), some (.int (nI g))] [] DG P := by
                intro nn
                induction nn with
                | zero =>
                  intro g y DG hfuel hg hy hFg
                  exact absurd hfuel (by omega)
                | succ nn ih =>
                  intro g y DG hfuel hg hy hFg
                  have hrg : RI DG P M W := RI_Fs h hFg
                  refine pv_iload (q := 48) C dX6_digest_46 rfl rfl ?_ 
                  refine pv_iconst (q := 49) (v := 4) C dX6_digest_48 rfl (by decide) ?_ 
                  refine pv_icmp_geN (q := 52) (tgt := 67) (a := g) (b := 4) C rfl rfl (by omega) (by omega) dX6_digest_49 (by decide) rfl (fun c_49 => ?_) (fun c_49 => ?_) 
                  · refine pv_iinc (q := 70) (v := nI (v + 1)) C dX6_digest_67 rfl rfl (nI_add _ _) rfl ?_
                    refine pv_goto (tgt := 31) C dX6_digest_70 (by decide) ?_ 
                    exact PV_le (PV_widen (by omega) (by omega) (ihv (v + 1) _ DG (by omega) (by omega) (by rw [hy, show g = 4 by omega, hx]; rfl) hFg)) ⟨Or.inr rfl, Or.inr rfl, Or.inl rfl, Or.inr rfl, Or.inl rfl, trivial⟩
                  · refine pv_aload_n (q := 53) C dX6_digest_52 rfl rfl rfl ?_
                    refine pv_lload_n (q := 54) C dX6_digest_53 rfl rfl rfl ?_ 
                    refine pv_iload_n (q := 55) C dX6_digest_54 rfl rfl rfl ?_ 
                    refine pv_iload (q := 57) C dX6_digest_55 rfl rfl ?_ 
                    refine pv_callVlx (q := 60) C Z ht0 hKl (c_X6_hashOfGroup l X DG P (hKl ▸ hfl) M W hrg y v (by omega) g (by omega)) tw_553 k0 (by decide) rfl mm_X6_hashOfGroup ⟨rfl, rfl⟩ (by rw [hKR]; exact ⟨Nat.le_of_ble_eq_true rfl, Nat.le_of_ble_eq_true rfl⟩) (by rw [hKR]; exact ⟨by first | exact Nat.le_of_ble_eq_true rfl | (dsimp only; omega), by first | exact Nat.le_of_ble_eq_true rfl | (dsimp only; omega)⟩) rfl rfl rfl (Nat.le_of_ble_eq_true rfl) dX6_digest_57 rfl (fun _ _ _ h => h) (by first | omega | exact ⟨by omega, by omega⟩) (fun r57 D57 P57 hp57 => ?_) 
                    obtain ⟨rv57, hF57, rfl⟩ := hp57
                    refine pv_lstore_n (q := 61) C dX6_digest_60 rfl rfl (Nat.le_of_ble_eq_true rfl) rfl ?_ 
                    refine pv_iinc (q := 64) (v := nI (g + 1)) C dX6_digest_61 rfl rfl (nI_add _ _) rfl ?_ 
                    refine pv_goto (tgt := 46) C dX6_digest_64 (by decide) ?_ 
                    exact PV_widen (by omega) (by omega) (ih (g + 1) _ D57 (by omega) (by omega) (by rw [rv57, hy]; rfl) (hFg.tr hF57))
              exact PV_widen (by omega) (by omega) (loop_46 5 0 _ D39 (by omega) (by omega) (by rw [rv39]; rfl) (hFv.tr hF39))
        exact PV_widen (by omega) (by omega) (loop_31 4 0 _ D1 (by omega) (by omega) (by rw [hx, show p = 16 by omega]; rfl) hF1)
      · refine pv_aload_n (q := 17) C dX6_digest_16 rfl rfl rfl ?_
        refine pv_lload_n (q := 18) C dX6_digest_17 rfl rfl rfl ?_ 
        refine pv_iload_n (q := 19) C dX6_digest_18 rfl rfl rfl ?_ 
        refine pv_callVlx (q := 22) C Z ht0 hKl (c_X6_hashOfPlace l X D1 P (hKl ▸ hfl) M W hri x p (by omega)) tw_405 k0 (by decide) rfl mm_X6_hashOfPlace ⟨rfl, rfl⟩ (by rw [hKR]; exact ⟨Nat.le_of_ble_eq_true rfl, Nat.le_of_ble_eq_true rfl⟩) (by rw [hKR]; exact ⟨by first | exact Nat.le_of_ble_eq_true rfl | (dsimp only; omega), by first | exact Nat.le_of_ble_eq_true rfl | (dsimp only; omega)⟩) rfl rfl rfl (Nat.le_of_ble_eq_true rfl) dX6_digest_19 rfl (fun _ _ _ h => h) (by first | omega | exact ⟨by omega, by omega⟩) (fun r19 D19 P19 hp19 => ?_) 
        obtain ⟨rv19, hF19, rfl⟩ := hp19
        refine pv_lstore_n (q := 23) C dX6_digest_22 rfl rfl (Nat.le_of_ble_eq_true rfl) rfl ?_ 
        refine pv_iinc (q := 26) (v := nI (p + 1)) C dX6_digest_23 rfl rfl (nI_add _ _) rfl ?_ 
        refine pv_goto (tgt := 10) C dX6_digest_26 (by decide) ?_ 
        exact PV_widen (by omega) (by omega) (ih (p + 1) _ D19 (by omega) (by omega) (by rw [rv19, hx]; rfl) (hF1.tr hF19))
  exact PV_widen (by omega) (by omega) (loop_10 17 0 _ D (by omega) (by omega) rfl (Fs_rf D))
