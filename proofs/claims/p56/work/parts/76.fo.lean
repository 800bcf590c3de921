theorem rg1_30 {n : Nat} (h1 : 1 ≤ n) (h2 : n ≤ 30) : rg (nI n) 1 30 := ⟨(nI_leI (a := 1) (by decide) (by omega)).mpr h1, (nI_leI (b := 30) (by omega) (by decide)).mpr h2⟩
theorem l_s1 {n : Nat} (h : n < 2 ^ 30) : (nI (n + 1)).toInt64 = (nI n).toInt64 + 1 := by rw [nI_l (by omega), nI_l (by omega), lN_1]
theorem l_rem50 {x : Nat} (h : x < 2 ^ 31) : (nI x).toInt64 - (nI x).toInt64 / 50 * 50 = (nI (x % 50)).toInt64 := l_rem (k := 50) h (by omega) (by omega)
theorem l_rem4 {x : Nat} (h : x < 2 ^ 31) : (nI x).toInt64 - (nI x).toInt64 / 4 * 4 = (nI (x % 4)).toInt64 := l_rem (k := 4) h (by omega) (by omega)
theorem lf_n {a b : Nat} (h : lf a b ≠ 1) : a + (lf a b - 1) < b := by
  unfold lf at h ⊢
  by_cases e : b - a < 1
  · rw [if_pos e] at h; exact absurd rfl h
  · rw [if_neg e]; omega
theorem g1_ne {g : Nat} (h : g < 4) : ¬ nI g + 1 = 0 := by rw [nI_1]; exact nI_ne0 (by omega) (by omega)
set_option maxRecDepth 100000 in
set_option maxHeartbeats 16000000 in
theorem fo_v {l : Launch} {K : KT} {X : XT} {w0 : Cond} {Q : State → Prop} {R0 T0 : Nat → Int32} {t0 : Int32} {W V x : Nat} (hW : W + 60000 < 2 ^ 29) (hx : x < 2 ^ 31) (hJ : JJ R0 V) (L : LK l K X cL_follows RL w0 15 (some .boolean) ({ frames := 10, cells := 700, slots := 4200, locals := 360 } : Room)) {cb : Nat} (hc : cb + 90 ≤ 700) (k : ∀ (D : DT) (P : PT) (N : DT), FI R0 T0 t0 N → RI D P N (W + 3600) → PV K X Q (cb + 90) (6 * (cb + 90)) 393 [some (.ref (X.2.2 0)), some (.int (nI x)), some (.int 1), none, none, none, none, none, none, none, none, none, none, none, none] [] D P) : ∀ (nn v : Nat) (D : DT) (P : PT) (N : DT), FI R0 T0 t0 N → RI D P N (W + 1200 * v) → 4 ≤ v + nn → v ≤ 3 → PV K X Q (cb + 30 * v) (6 * (cb + 30 * v)) 19 [some (.ref (X.2.2 0)), some (.int (nI x)), some (.int 1), some (.int (nI v)), none, none, none, none, none, none, none, none, none, none, none] [] D P := by
  obtain ⟨hKl, hKR, C, Z, hNC, hfl⟩ := id L
  intro nn
  induction nn with
  | zero =>
    intro v D P N hF h hfu hv4
    exact absurd hfu (by omega)
  | succ nn ih =>
    intro v D P N hF h hfu hv4
    refine pv_iload_n (q := 20) C dL_follows_19 rfl rfl rfl ?_
    refine pv_iconst (q := 21) (v := 3) C dL_follows_20 rfl (by decide) ?_
    refine pv_icmp_ge (q := 24) (tgt := 393) C dL_follows_21 (by decide) rfl (fun cL => ?_) (fun cL => ?_)
    ·
      obtain rfl : v = 3 := by
        have := (nI_leI (a := 3) (b := v) (by decide) (by omega)).mp cL
        omega
      exact PV_widen (by omega) (by omega) (PV_le (k D P N hF (RI_W h (by omega))) ⟨Or.inr rfl, Or.inr rfl, Or.inr rfl, Or.inl rfl, Or.inl rfl, Or.inl rfl, Or.inl rfl, Or.inl rfl, Or.inl rfl, Or.inl rfl, Or.inl rfl, Or.inl rfl, Or.inl rfl, Or.inl rfl, Or.inl rfl, trivial⟩)
    ·
      have hv : v < 3 := by
        rcases Nat.lt_or_ge v 3 with z | z
        · exact z
        · exact absurd ((nI_leI (a := 3) (b := v) (by decide) (by omega)).mpr z) cL
      have hS0 := h.1
      rw [hF.1] at hS0
      obtain ⟨j1, ⟨a, ha, j2⟩, ⟨b, hb1, hb2, j3⟩, j4, j5⟩ := hJ.2.1 v hv
      have hl1 : 1 ≤ lf a b := by unfold lf; split <;> omega
      have hl2 : lf a b ≤ 30 := by unfold lf; split <;> omega
      refine pv_iload_n (q := 25) C dL_follows_24 rfl rfl rfl ?_
      refine pv_if_eq (q := 28) (tgt := 393) C dL_follows_25 (by decide) rfl (fun c25_2 => absurd c25_2 (by decide)) (fun _ => ?_)
      refine pv_aload_n (q := 29) C dL_follows_28 rfl rfl rfl ?_
      refine pv_iload_n (q := 30) C dL_follows_29 rfl rfl rfl ?_
      refine pv_callLl (q := 33) (rest := []) C Z hNC hKl (c_L_waiting l X D P hfl N (W + 1200 * v) h (nI v)) tw_797 mw_L_waiting ⟨rfl, rfl⟩ (by rw [hKR]; exact ⟨Nat.le_of_ble_eq_true rfl, Nat.le_of_ble_eq_true rfl⟩) (by rw [hKR]; constructor <;> (dsimp only; omega)) rfl rfl rfl (Nat.le_of_ble_eq_true rfl) dL_follows_30 rfl (fun r3 D3 P3 q3 => ?_)
      obtain ⟨e3, hR3⟩ := q3
      obtain rfl : r3 = (((wt (R0) v) : Int32).toInt64) := e3.trans (by rw [hF.1, wv_0 (kView_0 hv), ix_n (by omega)])
      refine pv_lstore (q := 35) C dL_follows_33 rfl (Nat.le_of_ble_eq_true rfl) rfl ?_
      refine pv_aload_n (q := 36) C dL_follows_35 rfl rfl rfl ?_
      refine pv_callVi (q := 39) (rest := []) C hKl (c_X6_deltas l X D3 P3 N (W + 1200 * v) hR3) tw_901 (show kd 0 = 6 from rfl) (by decide) rfl mm_X6_deltas ⟨rfl, rfl⟩ (by rw [hKR]; exact ⟨Nat.le_of_ble_eq_true rfl, Nat.le_of_ble_eq_true rfl⟩) (by rw [hKR]; constructor <;> (dsimp only; omega)) rfl rfl rfl (Nat.le_of_ble_eq_true rfl) dL_follows_36 rfl (fun r4 D4 P4 q4 => ?_)
      obtain ⟨rfl, rfl, rfl⟩ := q4
      have hR4 := hR3
      rw [hF.1]
      refine pv_istore (q := 41) C dL_follows_39 rfl (Nat.le_of_ble_eq_true rfl) rfl ?_
      refine pv_aload_n (q := 42) C dL_follows_41 rfl rfl rfl ?_
      refine pv_callVi (q := 45) (rest := []) C hKl (c_X6_wakings l X D3 P3 N (W + 1200 * v) hR4) tw_898 (show kd 0 = 6 from rfl) (by decide) rfl mm_X6_wakings ⟨rfl, rfl⟩ (by rw [hKR]; exact ⟨Nat.le_of_ble_eq_true rfl, Nat.le_of_ble_eq_true rfl⟩) (by rw [hKR]; constructor <;> (dsimp only; omega)) rfl rfl rfl (Nat.le_of_ble_eq_true rfl) dL_follows_42 rfl (fun r5 D5 P5 q5 => ?_)
      obtain ⟨rfl, rfl, rfl⟩ := q5
      have hR5 := hR4
      rw [hF.1]
      refine pv_istore (q := 47) C dL_follows_45 rfl (Nat.le_of_ble_eq_true rfl) rfl ?_
      refine pv_aload_n (q := 48) C dL_follows_47 rfl rfl rfl ?_
      refine pv_callVi (q := 51) (rest := []) C hKl (c_X6_refreshes l X D3 P3 N (W + 1200 * v) hR5) tw_937 (show kd 0 = 6 from rfl) (by decide) rfl mm_X6_refreshes ⟨rfl, rfl⟩ (by rw [hKR]; exact ⟨Nat.le_of_ble_eq_true rfl, Nat.le_of_ble_eq_true rfl⟩) (by rw [hKR]; constructor <;> (dsimp only; omega)) rfl rfl rfl (Nat.le_of_ble_eq_true rfl) dL_follows_48 rfl (fun r6 D6 P6 q6 => ?_)
      obtain ⟨rfl, rfl, rfl⟩ := q6
      have hR6 := hR5
      rw [hF.1]
      refine pv_istore (q := 53) C dL_follows_51 rfl (Nat.le_of_ble_eq_true rfl) rfl ?_
      refine pv_aload_n (q := 54) C dL_follows_53 rfl rfl rfl ?_
      refine pv_iload_n (q := 55) C dL_follows_54 rfl rfl rfl ?_
      refine pv_callLl (q := 58) (rest := []) C Z hNC hKl (c_L_napping l X D3 P3 hfl N (W + 1200 * v) hR6 (nI v)) tw_793 mw_L_napping ⟨rfl, rfl⟩ (by rw [hKR]; exact ⟨Nat.le_of_ble_eq_true rfl, Nat.le_of_ble_eq_true rfl⟩) (by rw [hKR]; constructor <;> (dsimp only; omega)) rfl rfl rfl (Nat.le_of_ble_eq_true rfl) dL_follows_55 rfl (fun r7 D7 P7 q7 => ?_)
      obtain ⟨e7, hR7⟩ := q7
      obtain rfl : r7 = (((if R0 (32 + 38 * v + 32) = 1 then 1 else 0) : Int32).toInt64) := e7.trans (by rw [hF.1, wv_0 (kView_0 hv), ix_n (by omega)])
      refine pv_lconst (q := 59) (v := 1) C dL_follows_58 rfl (by decide) ?_
      refine pv_lcmp (q := 60) C dL_follows_59 rfl ?_
      refine pv_if_ne (q := 63) (tgt := 67) C dL_follows_60 (by decide) rfl (fun c => ?_) (fun c => ?_)
      ·
        have hn0 := f10 c
        have hz : R0 (32 + 38 * v + 32) = 0 := j1.resolve_right hn0
        have hw0 : wt R0 v = 0 := by
          obtain ⟨wr, nx, w1, w2, w3, w4, w5, w6, w7⟩ := SB_wt hS0 hv
          rw [w5, w7 hz, Nat.sub_self]; rfl
        refine pv_iconst (q := 68) (v := 0) C dL_follows_67 rfl (by decide) ?_
        refine pv_istore (q := 70) C dL_follows_68 rfl (Nat.le_of_ble_eq_true rfl) rfl ?_
        refine pv_aload_n (q := 71) C dL_follows_70 rfl rfl rfl ?_
        refine pv_iload_n (q := 72) C dL_follows_71 rfl rfl rfl ?_
        refine pv_callLl (q := 75) (rest := []) C Z hNC hKl (c_L_napOf l X D7 P7 hfl N (W + 1200 * v) hR7 (nI v)) tw_903 mw_L_napOf ⟨rfl, rfl⟩ (by rw [hKR]; exact ⟨Nat.le_of_ble_eq_true rfl, Nat.le_of_ble_eq_true rfl⟩) (by rw [hKR]; constructor <;> (dsimp only; omega)) rfl rfl rfl (Nat.le_of_ble_eq_true rfl) dL_follows_72 rfl (fun r9 D9 P9 q9 => ?_)
        obtain ⟨e9, hR9⟩ := q9
        obtain rfl : r9 = (((R0 (32 + 38 * v + 33)) : Int32).toInt64) := e9.trans (by rw [hF.1, wv_0 (kView_0 hv), ix_n (by omega)])
        refine pv_lstore (q := 77) C dL_follows_75 rfl (Nat.le_of_ble_eq_true rfl) rfl ?_
        refine pv_aload_n (q := 78) C dL_follows_77 rfl rfl rfl ?_
        refine pv_iload_n (q := 79) C dL_follows_78 rfl rfl rfl ?_
        refine pv_callLl (q := 82) (rest := []) C Z hNC hKl (c_L_unlikeGroups l X D9 P9 hfl N (W + 1200 * v) hR9 (nI v)) tw_830 mw_L_unlikeGroups ⟨rfl, rfl⟩ (by rw [hKR]; exact ⟨Nat.le_of_ble_eq_true rfl, Nat.le_of_ble_eq_true rfl⟩) (by rw [hKR]; constructor <;> (dsimp only; omega)) rfl rfl rfl (Nat.le_of_ble_eq_true rfl) dL_follows_79 rfl (fun r10 D10 P10 q10 => ?_)
        obtain ⟨e10, hR10⟩ := q10
        obtain rfl : r10 = (((umN (R0) v 4) : Int32).toInt64) := e10.trans (by rw [hF.1, wv_0 (kView_0 hv), ix_n (by omega)])
        refine pv_lstore (q := 84) C dL_follows_82 rfl (Nat.le_of_ble_eq_true rfl) rfl ?_
        refine pv_aload_n (q := 85) C dL_follows_84 rfl rfl rfl ?_
        refine pv_iload_n (q := 86) C dL_follows_85 rfl rfl rfl ?_
        refine pv_callLl (q := 89) (rest := []) C Z hNC hKl (c_L_refresh l X D10 P10 hfl N (W + 1200 * v) hR10 (by omega) (nI v)) tw_710 mw_L_refresh ⟨rfl, rfl⟩ (by rw [hKR]; exact ⟨Nat.le_of_ble_eq_true rfl, Nat.le_of_ble_eq_true rfl⟩) (by rw [hKR]; constructor <;> (dsimp only; omega)) rfl rfl rfl (Nat.le_of_ble_eq_true rfl) dL_follows_86 rfl (fun r11 D11 P11 q11 => ?_)
        obtain ⟨e11, hR11⟩ := QE.ok q11 (kView_0 hv)
        obtain rfl : r11 = ((wt R0 v : Int32).toInt64) := e11.trans (by rw [hF.1, ix_n (by omega)])
        obtain ⟨E_r, hE_r⟩ : ∃ E, E = va_up (m_save (clr N)) 7 (m_ref (N 7) (ix (nI v))) := ⟨_, rfl⟩
        rw [← hE_r] at hR11
        obtain ⟨z7_r, s_r, s5_r, s3_r, s0_r, un_r⟩ := und_FI hF hE_r
        have e7_r : E_r 7 = m_ref R0 v := z7_r.trans (by rw [hF.1, ix_n (by omega)])
        have hS_r := hR11.1
        rw [e7_r] at hS_r
        refine pv_lload (q := 91) C dL_follows_89 rfl rfl ?_
        refine pv_lcmp (q := 92) C dL_follows_91 rfl ?_
        refine pv_if_ne (q := 95) (tgt := 170) C dL_follows_92 (by decide) rfl (fun c92_12 => False.elim (c92_12 ((lg_cmp_eq _ _).mpr (rfl)))) (fun _ => ?_)
        refine pv_aload_n (q := 96) C dL_follows_95 rfl rfl rfl ?_
        refine pv_iload_n (q := 97) C dL_follows_96 rfl rfl rfl ?_
        refine pv_callLl (q := 100) (rest := []) C Z hNC hKl (c_L_unlikeGroups l X D11 P11 hfl E_r (W + 1200 * v + 130) hR11 (nI v)) tw_830 mw_L_unlikeGroups ⟨rfl, rfl⟩ (by rw [hKR]; exact ⟨Nat.le_of_ble_eq_true rfl, Nat.le_of_ble_eq_true rfl⟩) (by rw [hKR]; constructor <;> (dsimp only; omega)) rfl rfl rfl (Nat.le_of_ble_eq_true rfl) dL_follows_97 rfl (fun r13 D13 P13 q13 => ?_)
        obtain ⟨e13, hR13⟩ := q13
        obtain rfl : r13 = (((umN ((m_ref R0 v)) v 4) : Int32).toInt64) := e13.trans (by rw [e7_r, wv_0 (kView_0 hv), ix_n (by omega)])
        refine pv_lconst (q := 101) (v := 0) C dL_follows_100 rfl (by decide) ?_
        refine pv_lcmp (q := 102) C dL_follows_101 rfl ?_
        refine pv_if_ne (q := 105) (tgt := 170) C dL_follows_102 (by decide) rfl (fun c102_14 => False.elim (c102_14 ((lg_cmp_eq _ _).mpr (by rw [um_low hS_r hv (wgt_z (mref_o R0 hv).2.2.2)]; rfl)))) (fun _ => ?_)
        refine pv_aload_n (q := 106) C dL_follows_105 rfl rfl rfl ?_
        refine pv_iload_n (q := 107) C dL_follows_106 rfl rfl rfl ?_
        refine pv_callLl (q := 110) (rest := []) C Z hNC hKl (c_L_waiting l X D13 P13 hfl E_r (W + 1200 * v + 130) hR13 (nI v)) tw_797 mw_L_waiting ⟨rfl, rfl⟩ (by rw [hKR]; exact ⟨Nat.le_of_ble_eq_true rfl, Nat.le_of_ble_eq_true rfl⟩) (by rw [hKR]; constructor <;> (dsimp only; omega)) rfl rfl rfl (Nat.le_of_ble_eq_true rfl) dL_follows_107 rfl (fun r15 D15 P15 q15 => ?_)
        obtain ⟨e15, hR15⟩ := q15
        obtain rfl : r15 = (((wt ((m_ref R0 v)) v) : Int32).toInt64) := e15.trans (by rw [e7_r, wv_0 (kView_0 hv), ix_n (by omega)])
        refine pv_lconst (q := 111) (v := 0) C dL_follows_110 rfl (by decide) ?_
        refine pv_lcmp (q := 112) C dL_follows_111 rfl ?_
        refine pv_if_ne (q := 115) (tgt := 170) C dL_follows_112 (by decide) rfl (fun c112_16 => False.elim (c112_16 ((lg_cmp_eq _ _).mpr (by rw [wt_z (mref_o R0 hv).2.2.2]; rfl)))) (fun _ => ?_)
        refine pv_aload_n (q := 116) C dL_follows_115 rfl rfl rfl ?_
        refine pv_iload_n (q := 117) C dL_follows_116 rfl rfl rfl ?_
        refine pv_callLl (q := 120) (rest := []) C Z hNC hKl (c_L_napOf l X D15 P15 hfl E_r (W + 1200 * v + 130) hR15 (nI v)) tw_903 mw_L_napOf ⟨rfl, rfl⟩ (by rw [hKR]; exact ⟨Nat.le_of_ble_eq_true rfl, Nat.le_of_ble_eq_true rfl⟩) (by rw [hKR]; constructor <;> (dsimp only; omega)) rfl rfl rfl (Nat.le_of_ble_eq_true rfl) dL_follows_117 rfl (fun r17 D17 P17 q17 => ?_)
        obtain ⟨e17, hR17⟩ := q17
        obtain rfl : r17 = ((((m_ref R0 v) (32 + 38 * v + 33)) : Int32).toInt64) := e17.trans (by rw [e7_r, wv_0 (kView_0 hv), ix_n (by omega)])
        refine pv_lload (q := 122) C dL_follows_120 rfl rfl ?_
        refine pv_lcmp (q := 123) C dL_follows_122 rfl ?_
        refine pv_if_ne (q := 126) (tgt := 170) C dL_follows_123 (by decide) rfl (fun c123_18 => False.elim (c123_18 ((lg_cmp_eq _ _).mpr (by rw [(mref_o R0 hv).1])))) (fun _ => ?_)
        refine pv_aload_n (q := 127) C dL_follows_126 rfl rfl rfl ?_
        refine pv_callVi (q := 130) (rest := []) C hKl (c_X6_refreshes l X D17 P17 E_r (W + 1200 * v + 130) hR17) tw_937 (show kd 0 = 6 from rfl) (by decide) rfl mm_X6_refreshes ⟨rfl, rfl⟩ (by rw [hKR]; exact ⟨Nat.le_of_ble_eq_true rfl, Nat.le_of_ble_eq_true rfl⟩) (by rw [hKR]; constructor <;> (dsimp only; omega)) rfl rfl rfl (Nat.le_of_ble_eq_true rfl) dL_follows_127 rfl (fun r19 D19 P19 q19 => ?_)
        obtain ⟨rfl, rfl, rfl⟩ := q19
        have hR19 := hR17
        rw [e7_r]
        refine pv_iload (q := 132) C dL_follows_130 rfl rfl ?_
        refine pv_iconst (q := 133) (v := 1) C dL_follows_132 rfl (by decide) ?_
        refine pv_iadd (q := 134) C dL_follows_133 rfl ?_
        refine pv_icmp_ne (q := 137) (tgt := 170) C dL_follows_134 (by decide) rfl (fun c134_20 => False.elim (c134_20 ((mref_o R0 hv).2.2.1))) (fun _ => ?_)
        refine pv_aload_n (q := 138) C dL_follows_137 rfl rfl rfl ?_
        refine pv_callVi (q := 141) (rest := []) C hKl (c_X6_deltas l X D17 P17 E_r (W + 1200 * v + 130) hR19) tw_901 (show kd 0 = 6 from rfl) (by decide) rfl mm_X6_deltas ⟨rfl, rfl⟩ (by rw [hKR]; exact ⟨Nat.le_of_ble_eq_true rfl, Nat.le_of_ble_eq_true rfl⟩) (by rw [hKR]; constructor <;> (dsimp only; omega)) rfl rfl rfl (Nat.le_of_ble_eq_true rfl) dL_follows_138 rfl (fun r21 D21 P21 q21 => ?_)
        obtain ⟨rfl, rfl, rfl⟩ := q21
        have hR21 := hR19
        rw [e7_r]
        refine pv_iload (q := 143) C dL_follows_141 rfl rfl ?_
        refine pv_icmp_ne (q := 146) (tgt := 170) C dL_follows_143 (by decide) rfl (fun c143_22 => False.elim (c143_22 ((mref_o R0 hv).2.1))) (fun _ => ?_)
        refine pv_aload_n (q := 147) C dL_follows_146 rfl rfl rfl ?_
        refine pv_callLl (q := 150) (rest := []) C Z hNC hKl (c_L_undo l X D17 P17 hfl E_r (W + 1200 * v + 130) hR21 (by omega) s_r s5_r s3_r) tw_938 mw_L_undo ⟨rfl, rfl⟩ (by rw [hKR]; exact ⟨Nat.le_of_ble_eq_true rfl, Nat.le_of_ble_eq_true rfl⟩) (by rw [hKR]; constructor <;> (dsimp only; omega)) rfl rfl rfl (Nat.le_of_ble_eq_true rfl) dL_follows_147 rfl (fun r23 D23 P23 q23 => ?_)
        obtain ⟨e23, hR23⟩ := QE.ok q23 (if_neg s0_r)
        obtain rfl : r23 = ((nI (s_r - 1)).toInt64) := e23.trans (rfl)
        obtain ⟨N_1, hF, hRn_1⟩ := un_r _ _ _ hR23
        refine pv_lconst (q := 151) (v := 0) C dL_follows_150 rfl (by decide) ?_
        refine pv_lcmp (q := 152) C dL_follows_151 rfl ?_
        refine pv_if_lt (q := 155) (tgt := 170) C dL_follows_152 (by decide) rfl (fun c152_24 => False.elim (Int64.not_le.mpr ((lg_cmp_lt _ _).mp c152_24) (l_p (n := 0) (by omega) (by omega) (Nat.zero_le _)))) (fun _ => ?_)
        refine pv_aload_n (q := 156) C dL_follows_155 rfl rfl rfl ?_
        refine pv_iload_n (q := 157) C dL_follows_156 rfl rfl rfl ?_
        refine pv_callLl (q := 160) (rest := []) C Z hNC hKl (c_L_unlikeGroups l X D23 P23 hfl N_1 (W + 1200 * v + 130 + 130) hRn_1 (nI v)) tw_830 mw_L_unlikeGroups ⟨rfl, rfl⟩ (by rw [hKR]; exact ⟨Nat.le_of_ble_eq_true rfl, Nat.le_of_ble_eq_true rfl⟩) (by rw [hKR]; constructor <;> (dsimp only; omega)) rfl rfl rfl (Nat.le_of_ble_eq_true rfl) dL_follows_157 rfl (fun r25 D25 P25 q25 => ?_)
        obtain ⟨e25, hR25⟩ := q25
        obtain rfl : r25 = (((umN (R0) v 4) : Int32).toInt64) := e25.trans (by rw [hF.1, wv_0 (kView_0 hv), ix_n (by omega)])
        refine pv_lload (q := 162) C dL_follows_160 rfl rfl ?_
        refine pv_lcmp (q := 163) C dL_follows_162 rfl ?_
        refine pv_if_ne (q := 166) (tgt := 170) C dL_follows_163 (by decide) rfl (fun c163_26 => False.elim (c163_26 ((lg_cmp_eq _ _).mpr (rfl)))) (fun _ => ?_)
        refine pv_iconst (q := 167) (v := 1) C dL_follows_166 rfl (by decide) ?_
        refine pv_goto (tgt := 171) C dL_follows_167 (by decide) ?_
        refine pv_istore_n (q := 172) C dL_follows_171 rfl rfl (Nat.le_of_ble_eq_true rfl) rfl ?_
        refine pv_iload_n (q := 173) C dL_follows_172 rfl rfl rfl ?_
        refine pv_if_eq (q := 176) (tgt := 348) C dL_follows_173 (by decide) rfl (fun c173_27 => absurd c173_27 (by decide)) (fun _ => ?_)
        refine pv_iload (q := 178) C dL_follows_176 rfl rfl ?_
        refine pv_if_eq (q := 181) (tgt := 348) C dL_follows_178 (by decide) rfl (fun _ => ?_) (fun c178_28 => absurd rfl c178_28)
        refine pv_iload_n (q := 349) C dL_follows_348 rfl rfl rfl ?_
        refine pv_if_eq (q := 352) (tgt := 387) C dL_follows_349 (by decide) rfl (fun c349_29 => absurd c349_29 (by decide)) (fun _ => ?_)
        refine pv_aload_n (q := 353) C dL_follows_352 rfl rfl rfl ?_
        refine pv_iload_n (q := 354) C dL_follows_353 rfl rfl rfl ?_
        refine pv_callLl (q := 357) (rest := []) C Z hNC hKl (c_L_nap l X D25 P25 hfl N_1 (W + 1200 * v + 130 + 130) hR25 (by omega) (nI v)) tw_685 mw_L_nap ⟨rfl, rfl⟩ (by rw [hKR]; exact ⟨Nat.le_of_ble_eq_true rfl, Nat.le_of_ble_eq_true rfl⟩) (by rw [hKR]; constructor <;> (dsimp only; omega)) rfl rfl rfl (Nat.le_of_ble_eq_true rfl) dL_follows_354 rfl (fun r30 D30 P30 q30 => ?_)
        obtain ⟨e30, hR30⟩ := QE.ok q30 (by unfold kNap; rw [if_pos (rg_v hv), ix_n (by omega), hF.1, if_neg hn0])
        obtain rfl : r30 = ((nI (nps (m_nap R0 v))).toInt64) := e30.trans (by rw [hF.1, ix_n (by omega)])
        obtain ⟨E_n, hE_n⟩ : ∃ E, E = va_up (m_save (clr N_1)) 7 (m_nap (N_1 7) (ix (nI v))) := ⟨_, rfl⟩
        rw [← hE_n] at hR30
        obtain ⟨z7_n, s_n, s5_n, s3_n, s0_n, un_n⟩ := und_FI hF hE_n
        have e7_n : E_n 7 = m_nap R0 v := z7_n.trans (by rw [hF.1, ix_n (by omega)])
        have hS_n := hR30.1
        rw [e7_n] at hS_n
        refine pv_lconst (q := 358) (v := 0) C dL_follows_357 rfl (by decide) ?_
        refine pv_lcmp (q := 359) C dL_follows_358 rfl ?_
        refine pv_if_le (q := 362) (tgt := 385) C dL_follows_359 (by decide) rfl (fun c359_31 => False.elim (Int64.not_le.mpr (l_pl (n := 0) (by omega) (by have := (mnap_o R0 hv).2.2; omega) (mnap_o R0 hv).2.1) ((lg_cmp_le _ _).mp c359_31))) (fun _ => ?_)
        refine pv_aload_n (q := 363) C dL_follows_362 rfl rfl rfl ?_
        refine pv_iload_n (q := 364) C dL_follows_363 rfl rfl rfl ?_
        refine pv_callLl (q := 367) (rest := []) C Z hNC hKl (c_L_waiting l X D30 P30 hfl E_n (W + 1200 * v + 130 + 130 + 130) hR30 (nI v)) tw_797 mw_L_waiting ⟨rfl, rfl⟩ (by rw [hKR]; exact ⟨Nat.le_of_ble_eq_true rfl, Nat.le_of_ble_eq_true rfl⟩) (by rw [hKR]; constructor <;> (dsimp only; omega)) rfl rfl rfl (Nat.le_of_ble_eq_true rfl) dL_follows_364 rfl (fun r32 D32 P32 q32 => ?_)
        obtain ⟨e32, hR32⟩ := q32
        obtain rfl : r32 = (((wt ((m_nap R0 v)) v) : Int32).toInt64) := e32.trans (by rw [e7_n, wv_0 (kView_0 hv), ix_n (by omega)])
        refine pv_lconst (q := 368) (v := 0) C dL_follows_367 rfl (by decide) ?_
        refine pv_lcmp (q := 369) C dL_follows_368 rfl ?_
        refine pv_if_ne (q := 372) (tgt := 385) C dL_follows_369 (by decide) rfl (fun c369_33 => False.elim (c369_33 ((lg_cmp_eq _ _).mpr (by rw [(mnap_o R0 hv).1, hw0]; rfl)))) (fun _ => ?_)
        refine pv_aload_n (q := 373) C dL_follows_372 rfl rfl rfl ?_
        refine pv_callLl (q := 376) (rest := []) C Z hNC hKl (c_L_undo l X D32 P32 hfl E_n (W + 1200 * v + 130 + 130 + 130) hR32 (by omega) s_n s5_n s3_n) tw_938 mw_L_undo ⟨rfl, rfl⟩ (by rw [hKR]; exact ⟨Nat.le_of_ble_eq_true rfl, Nat.le_of_ble_eq_true rfl⟩) (by rw [hKR]; constructor <;> (dsimp only; omega)) rfl rfl rfl (Nat.le_of_ble_eq_true rfl) dL_follows_373 rfl (fun r34 D34 P34 q34 => ?_)
        obtain ⟨e34, hR34⟩ := QE.ok q34 (if_neg s0_n)
        obtain rfl : r34 = ((nI (s_n - 1)).toInt64) := e34.trans (rfl)
        obtain ⟨N_5, hF, hRn_5⟩ := un_n _ _ _ hR34
        refine pv_lconst (q := 377) (v := 0) C dL_follows_376 rfl (by decide) ?_
        refine pv_lcmp (q := 378) C dL_follows_377 rfl ?_
        refine pv_if_lt (q := 381) (tgt := 385) C dL_follows_378 (by decide) rfl (fun c378_35 => False.elim (Int64.not_le.mpr ((lg_cmp_lt _ _).mp c378_35) (l_p (n := 0) (by omega) (by omega) (Nat.zero_le _)))) (fun _ => ?_)
        refine pv_iconst (q := 382) (v := 1) C dL_follows_381 rfl (by decide) ?_
        refine pv_goto (tgt := 386) C dL_follows_382 (by decide) ?_
        refine pv_istore_n (q := 387) C dL_follows_386 rfl rfl (Nat.le_of_ble_eq_true rfl) rfl ?_
        refine pv_iinc (q := 390) (v := nI (v + 1)) C dL_follows_387 rfl rfl (nI_add _ _) rfl ?_
        refine pv_goto (tgt := 19) C dL_follows_390 (by decide) ?_
        exact PV_widen (by omega) (by omega) (PV_le (ih (v + 1) D34 P34 N_5 hF (RI_W hRn_5 (by omega)) (by omega) (by omega)) ⟨Or.inr rfl, Or.inr rfl, Or.inr rfl, Or.inr rfl, Or.inl rfl, Or.inl rfl, Or.inl rfl, Or.inl rfl, Or.inl rfl, Or.inl rfl, Or.inl rfl, Or.inl rfl, Or.inl rfl, Or.inl rfl, Or.inl rfl, trivial⟩)
      ·
        have hn1 := f11 c
        refine pv_iconst (q := 64) (v := 1) C dL_follows_63 rfl (by decide) ?_
        refine pv_goto (tgt := 68) C dL_follows_64 (by decide) ?_
        refine pv_istore (q := 70) C dL_follows_68 rfl (Nat.le_of_ble_eq_true rfl) rfl ?_
        refine pv_aload_n (q := 71) C dL_follows_70 rfl rfl rfl ?_
        refine pv_iload_n (q := 72) C dL_follows_71 rfl rfl rfl ?_
        refine pv_callLl (q := 75) (rest := []) C Z hNC hKl (c_L_napOf l X D7 P7 hfl N (W + 1200 * v) hR7 (nI v)) tw_903 mw_L_napOf ⟨rfl, rfl⟩ (by rw [hKR]; exact ⟨Nat.le_of_ble_eq_true rfl, Nat.le_of_ble_eq_true rfl⟩) (by rw [hKR]; constructor <;> (dsimp only; omega)) rfl rfl rfl (Nat.le_of_ble_eq_true rfl) dL_follows_72 rfl (fun r36 D36 P36 q36 => ?_)
        obtain ⟨e36, hR36⟩ := q36
        obtain rfl : r36 = (((R0 (32 + 38 * v + 33)) : Int32).toInt64) := e36.trans (by rw [hF.1, wv_0 (kView_0 hv), ix_n (by omega)])
        refine pv_lstore (q := 77) C dL_follows_75 rfl (Nat.le_of_ble_eq_true rfl) rfl ?_
        refine pv_aload_n (q := 78) C dL_follows_77 rfl rfl rfl ?_
        refine pv_iload_n (q := 79) C dL_follows_78 rfl rfl rfl ?_
        refine pv_callLl (q := 82) (rest := []) C Z hNC hKl (c_L_unlikeGroups l X D36 P36 hfl N (W + 1200 * v) hR36 (nI v)) tw_830 mw_L_unlikeGroups ⟨rfl, rfl⟩ (by rw [hKR]; exact ⟨Nat.le_of_ble_eq_true rfl, Nat.le_of_ble_eq_true rfl⟩) (by rw [hKR]; constructor <;> (dsimp only; omega)) rfl rfl rfl (Nat.le_of_ble_eq_true rfl) dL_follows_79 rfl (fun r37 D37 P37 q37 => ?_)
        obtain ⟨e37, hR37⟩ := q37
        obtain rfl : r37 = (((umN (R0) v 4) : Int32).toInt64) := e37.trans (by rw [hF.1, wv_0 (kView_0 hv), ix_n (by omega)])
        refine pv_lstore (q := 84) C dL_follows_82 rfl (Nat.le_of_ble_eq_true rfl) rfl ?_
        refine pv_aload_n (q := 85) C dL_follows_84 rfl rfl rfl ?_
        refine pv_iload_n (q := 86) C dL_follows_85 rfl rfl rfl ?_
        refine pv_callLl (q := 89) (rest := []) C Z hNC hKl (c_L_refresh l X D37 P37 hfl N (W + 1200 * v) hR37 (by omega) (nI v)) tw_710 mw_L_refresh ⟨rfl, rfl⟩ (by rw [hKR]; exact ⟨Nat.le_of_ble_eq_true rfl, Nat.le_of_ble_eq_true rfl⟩) (by rw [hKR]; constructor <;> (dsimp only; omega)) rfl rfl rfl (Nat.le_of_ble_eq_true rfl) dL_follows_86 rfl (fun r38 D38 P38 q38 => ?_)
        obtain ⟨e38, hR38⟩ := QE.ok q38 (kView_0 hv)
        obtain rfl : r38 = ((wt R0 v : Int32).toInt64) := e38.trans (by rw [hF.1, ix_n (by omega)])
        obtain ⟨E_r, hE_r⟩ : ∃ E, E = va_up (m_save (clr N)) 7 (m_ref (N 7) (ix (nI v))) := ⟨_, rfl⟩
        rw [← hE_r] at hR38
        obtain ⟨z7_r, s_r, s5_r, s3_r, s0_r, un_r⟩ := und_FI hF hE_r
        have e7_r : E_r 7 = m_ref R0 v := z7_r.trans (by rw [hF.1, ix_n (by omega)])
        have hS_r := hR38.1
        rw [e7_r] at hS_r
        refine pv_lload (q := 91) C dL_follows_89 rfl rfl ?_
        refine pv_lcmp (q := 92) C dL_follows_91 rfl ?_
        refine pv_if_ne (q := 95) (tgt := 170) C dL_follows_92 (by decide) rfl (fun c92_39 => False.elim (c92_39 ((lg_cmp_eq _ _).mpr (rfl)))) (fun _ => ?_)
        refine pv_aload_n (q := 96) C dL_follows_95 rfl rfl rfl ?_
        refine pv_iload_n (q := 97) C dL_follows_96 rfl rfl rfl ?_
        refine pv_callLl (q := 100) (rest := []) C Z hNC hKl (c_L_unlikeGroups l X D38 P38 hfl E_r (W + 1200 * v + 130) hR38 (nI v)) tw_830 mw_L_unlikeGroups ⟨rfl, rfl⟩ (by rw [hKR]; exact ⟨Nat.le_of_ble_eq_true rfl, Nat.le_of_ble_eq_true rfl⟩) (by rw [hKR]; constructor <;> (dsimp only; omega)) rfl rfl rfl (Nat.le_of_ble_eq_true rfl) dL_follows_97 rfl (fun r40 D40 P40 q40 => ?_)
        obtain ⟨e40, hR40⟩ := q40
        obtain rfl : r40 = (((umN ((m_ref R0 v)) v 4) : Int32).toInt64) := e40.trans (by rw [e7_r, wv_0 (kView_0 hv), ix_n (by omega)])
        refine pv_lconst (q := 101) (v := 0) C dL_follows_100 rfl (by decide) ?_
        refine pv_lcmp (q := 102) C dL_follows_101 rfl ?_
        refine pv_if_ne (q := 105) (tgt := 170) C dL_follows_102 (by decide) rfl (fun c102_41 => False.elim (c102_41 ((lg_cmp_eq _ _).mpr (by rw [um_low hS_r hv (wgt_z (mref_o R0 hv).2.2.2)]; rfl)))) (fun _ => ?_)
        refine pv_aload_n (q := 106) C dL_follows_105 rfl rfl rfl ?_
        refine pv_iload_n (q := 107) C dL_follows_106 rfl rfl rfl ?_
        refine pv_callLl (q := 110) (rest := []) C Z hNC hKl (c_L_waiting l X D40 P40 hfl E_r (W + 1200 * v + 130) hR40 (nI v)) tw_797 mw_L_waiting ⟨rfl, rfl⟩ (by rw [hKR]; exact ⟨Nat.le_of_ble_eq_true rfl, Nat.le_of_ble_eq_true rfl⟩) (by rw [hKR]; constructor <;> (dsimp only; omega)) rfl rfl rfl (Nat.le_of_ble_eq_true rfl) dL_follows_107 rfl (fun r42 D42 P42 q42 => ?_)
        obtain ⟨e42, hR42⟩ := q42
        obtain rfl : r42 = (((wt ((m_ref R0 v)) v) : Int32).toInt64) := e42.trans (by rw [e7_r, wv_0 (kView_0 hv), ix_n (by omega)])
        refine pv_lconst (q := 111) (v := 0) C dL_follows_110 rfl (by decide) ?_
        refine pv_lcmp (q := 112) C dL_follows_111 rfl ?_
        refine pv_if_ne (q := 115) (tgt := 170) C dL_follows_112 (by decide) rfl (fun c112_43 => False.elim (c112_43 ((lg_cmp_eq _ _).mpr (by rw [wt_z (mref_o R0 hv).2.2.2]; rfl)))) (fun _ => ?_)
        refine pv_aload_n (q := 116) C dL_follows_115 rfl rfl rfl ?_
        refine pv_iload_n (q := 117) C dL_follows_116 rfl rfl rfl ?_
        refine pv_callLl (q := 120) (rest := []) C Z hNC hKl (c_L_napOf l X D42 P42 hfl E_r (W + 1200 * v + 130) hR42 (nI v)) tw_903 mw_L_napOf ⟨rfl, rfl⟩ (by rw [hKR]; exact ⟨Nat.le_of_ble_eq_true rfl, Nat.le_of_ble_eq_true rfl⟩) (by rw [hKR]; constructor <;> (dsimp only; omega)) rfl rfl rfl (Nat.le_of_ble_eq_true rfl) dL_follows_117 rfl (fun r44 D44 P44 q44 => ?_)
        obtain ⟨e44, hR44⟩ := q44
        obtain rfl : r44 = ((((m_ref R0 v) (32 + 38 * v + 33)) : Int32).toInt64) := e44.trans (by rw [e7_r, wv_0 (kView_0 hv), ix_n (by omega)])
        refine pv_lload (q := 122) C dL_follows_120 rfl rfl ?_
        refine pv_lcmp (q := 123) C dL_follows_122 rfl ?_
        refine pv_if_ne (q := 126) (tgt := 170) C dL_follows_123 (by decide) rfl (fun c123_45 => False.elim (c123_45 ((lg_cmp_eq _ _).mpr (by rw [(mref_o R0 hv).1])))) (fun _ => ?_)
        refine pv_aload_n (q := 127) C dL_follows_126 rfl rfl rfl ?_
        refine pv_callVi (q := 130) (rest := []) C hKl (c_X6_refreshes l X D44 P44 E_r (W + 1200 * v + 130) hR44) tw_937 (show kd 0 = 6 from rfl) (by decide) rfl mm_X6_refreshes ⟨rfl, rfl⟩ (by rw [hKR]; exact ⟨Nat.le_of_ble_eq_true rfl, Nat.le_of_ble_eq_true rfl⟩) (by rw [hKR]; constructor <;> (dsimp only; omega)) rfl rfl rfl (Nat.le_of_ble_eq_true rfl) dL_follows_127 rfl (fun r46 D46 P46 q46 => ?_)
        obtain ⟨rfl, rfl, rfl⟩ := q46
        have hR46 := hR44
        rw [e7_r]
        refine pv_iload (q := 132) C dL_follows_130 rfl rfl ?_
        refine pv_iconst (q := 133) (v := 1) C dL_follows_132 rfl (by decide) ?_
        refine pv_iadd (q := 134) C dL_follows_133 rfl ?_
        refine pv_icmp_ne (q := 137) (tgt := 170) C dL_follows_134 (by decide) rfl (fun c134_47 => False.elim (c134_47 ((mref_o R0 hv).2.2.1))) (fun _ => ?_)
        refine pv_aload_n (q := 138) C dL_follows_137 rfl rfl rfl ?_
        refine pv_callVi (q := 141) (rest := []) C hKl (c_X6_deltas l X D44 P44 E_r (W + 1200 * v + 130) hR46) tw_901 (show kd 0 = 6 from rfl) (by decide) rfl mm_X6_deltas ⟨rfl, rfl⟩ (by rw [hKR]; exact ⟨Nat.le_of_ble_eq_true rfl, Nat.le_of_ble_eq_true rfl⟩) (by rw [hKR]; constructor <;> (dsimp only; omega)) rfl rfl rfl (Nat.le_of_ble_eq_true rfl) dL_follows_138 rfl (fun r48 D48 P48 q48 => ?_)
        obtain ⟨rfl, rfl, rfl⟩ := q48
        have hR48 := hR46
        rw [e7_r]
        refine pv_iload (q := 143) C dL_follows_141 rfl rfl ?_
        refine pv_icmp_ne (q := 146) (tgt := 170) C dL_follows_143 (by decide) rfl (fun c143_49 => False.elim (c143_49 ((mref_o R0 hv).2.1))) (fun _ => ?_)
        refine pv_aload_n (q := 147) C dL_follows_146 rfl rfl rfl ?_
        refine pv_callLl (q := 150) (rest := []) C Z hNC hKl (c_L_undo l X D44 P44 hfl E_r (W + 1200 * v + 130) hR48 (by omega) s_r s5_r s3_r) tw_938 mw_L_undo ⟨rfl, rfl⟩ (by rw [hKR]; exact ⟨Nat.le_of_ble_eq_true rfl, Nat.le_of_ble_eq_true rfl⟩) (by rw [hKR]; constructor <;> (dsimp only; omega)) rfl rfl rfl (Nat.le_of_ble_eq_true rfl) dL_follows_147 rfl (fun r50 D50 P50 q50 => ?_)
        obtain ⟨e50, hR50⟩ := QE.ok q50 (if_neg s0_r)
        obtain rfl : r50 = ((nI (s_r - 1)).toInt64) := e50.trans (rfl)
        obtain ⟨N_1, hF, hRn_1⟩ := un_r _ _ _ hR50
        refine pv_lconst (q := 151) (v := 0) C dL_follows_150 rfl (by decide) ?_
        refine pv_lcmp (q := 152) C dL_follows_151 rfl ?_
        refine pv_if_lt (q := 155) (tgt := 170) C dL_follows_152 (by decide) rfl (fun c152_51 => False.elim (Int64.not_le.mpr ((lg_cmp_lt _ _).mp c152_51) (l_p (n := 0) (by omega) (by omega) (Nat.zero_le _)))) (fun _ => ?_)
        refine pv_aload_n (q := 156) C dL_follows_155 rfl rfl rfl ?_
        refine pv_iload_n (q := 157) C dL_follows_156 rfl rfl rfl ?_
        refine pv_callLl (q := 160) (rest := []) C Z hNC hKl (c_L_unlikeGroups l X D50 P50 hfl N_1 (W + 1200 * v + 130 + 130) hRn_1 (nI v)) tw_830 mw_L_unlikeGroups ⟨rfl, rfl⟩ (by rw [hKR]; exact ⟨Nat.le_of_ble_eq_true rfl, Nat.le_of_ble_eq_true rfl⟩) (by rw [hKR]; constructor <;> (dsimp only; omega)) rfl rfl rfl (Nat.le_of_ble_eq_true rfl) dL_follows_157 rfl (fun r52 D52 P52 q52 => ?_)
        obtain ⟨e52, hR52⟩ := q52
        obtain rfl : r52 = (((umN (R0) v 4) : Int32).toInt64) := e52.trans (by rw [hF.1, wv_0 (kView_0 hv), ix_n (by omega)])
        refine pv_lload (q := 162) C dL_follows_160 rfl rfl ?_
        refine pv_lcmp (q := 163) C dL_follows_162 rfl ?_
        refine pv_if_ne (q := 166) (tgt := 170) C dL_follows_163 (by decide) rfl (fun c163_53 => False.elim (c163_53 ((lg_cmp_eq _ _).mpr (rfl)))) (fun _ => ?_)
        refine pv_iconst (q := 167) (v := 1) C dL_follows_166 rfl (by decide) ?_
        refine pv_goto (tgt := 171) C dL_follows_167 (by decide) ?_
        refine pv_istore_n (q := 172) C dL_follows_171 rfl rfl (Nat.le_of_ble_eq_true rfl) rfl ?_
        refine pv_iload_n (q := 173) C dL_follows_172 rfl rfl rfl ?_
        refine pv_if_eq (q := 176) (tgt := 348) C dL_follows_173 (by decide) rfl (fun c173_54 => absurd c173_54 (by decide)) (fun _ => ?_)
        refine pv_iload (q := 178) C dL_follows_176 rfl rfl ?_
        refine pv_if_eq (q := 181) (tgt := 348) C dL_follows_178 (by decide) rfl (fun c178_55 => absurd c178_55 (by decide)) (fun _ => ?_)
        refine pv_aload_n (q := 182) C dL_follows_181 rfl rfl rfl ?_
        refine pv_iload_n (q := 183) C dL_follows_182 rfl rfl rfl ?_
        refine pv_callLl (q := 186) (rest := []) C Z hNC hKl (c_L_wakesIn l X D52 P52 hfl N_1 (W + 1200 * v + 130 + 130) hR52 (nI v)) tw_838 mw_L_wakesIn ⟨rfl, rfl⟩ (by rw [hKR]; exact ⟨Nat.le_of_ble_eq_true rfl, Nat.le_of_ble_eq_true rfl⟩) (by rw [hKR]; constructor <;> (dsimp only; omega)) rfl rfl rfl (Nat.le_of_ble_eq_true rfl) dL_follows_183 rfl (fun r56 D56 P56 q56 => ?_)
        obtain ⟨e56, hR56⟩ := q56
        obtain rfl : r56 = (((wks (R0) v) : Int32).toInt64) := e56.trans (by rw [hF.1, wv_0 (kView_0 hv), ix_n (by omega)])
        refine pv_l2i (q := 187) C dL_follows_186 rfl rfl ?_
        rw [l_ii, wks_lf hn1 j2 j3 ha hb2]
        refine pv_istore (q := 189) C dL_follows_187 rfl (Nat.le_of_ble_eq_true rfl) rfl ?_
        refine pv_aload_n (q := 190) C dL_follows_189 rfl rfl rfl ?_
        refine pv_iload_n (q := 191) C dL_follows_190 rfl rfl rfl ?_
        refine pv_callLl (q := 194) (rest := []) C Z hNC hKl (c_L_wake l X D56 P56 hfl N_1 (W + 1200 * v + 130 + 130) hR56 (by omega) (nI v)) tw_701 mw_L_wake ⟨rfl, rfl⟩ (by rw [hKR]; exact ⟨Nat.le_of_ble_eq_true rfl, Nat.le_of_ble_eq_true rfl⟩) (by rw [hKR]; constructor <;> (dsimp only; omega)) rfl rfl rfl (Nat.le_of_ble_eq_true rfl) dL_follows_191 rfl (fun r57 D57 P57 q57 => ?_)
        obtain ⟨e57, hR57⟩ := QE.ok q57 (by unfold kWak; rw [if_pos (rg_v hv), ix_n (by omega), hF.1, if_pos hn1])
        obtain rfl : r57 = ((wt R0 v : Int32).toInt64) := e57.trans (by rw [hF.1, ix_n (by omega)])
        obtain ⟨E_w, hE_w⟩ : ∃ E, E = va_up (m_save (clr N_1)) 7 (m_wake (N_1 7) (ix (nI v))) := ⟨_, rfl⟩
        rw [← hE_w] at hR57
        obtain ⟨z7_w, s_w, s5_w, s3_w, s0_w, un_w⟩ := und_FI hF hE_w
        have e7_w : E_w 7 = m_wake R0 v := z7_w.trans (by rw [hF.1, ix_n (by omega)])
        have hS_w := hR57.1
        rw [e7_w] at hS_w
        refine pv_lload (q := 196) C dL_follows_194 rfl rfl ?_
        refine pv_lcmp (q := 197) C dL_follows_196 rfl ?_
        refine pv_if_ne (q := 200) (tgt := 343) C dL_follows_197 (by decide) rfl (fun c197_58 => False.elim (c197_58 ((lg_cmp_eq _ _).mpr (rfl)))) (fun _ => ?_)
        refine pv_aload_n (q := 201) C dL_follows_200 rfl rfl rfl ?_
        refine pv_iload_n (q := 202) C dL_follows_201 rfl rfl rfl ?_
        refine pv_callLl (q := 205) (rest := []) C Z hNC hKl (c_L_napping l X D57 P57 hfl E_w (W + 1200 * v + 130 + 130 + 130) hR57 (nI v)) tw_793 mw_L_napping ⟨rfl, rfl⟩ (by rw [hKR]; exact ⟨Nat.le_of_ble_eq_true rfl, Nat.le_of_ble_eq_true rfl⟩) (by rw [hKR]; constructor <;> (dsimp only; omega)) rfl rfl rfl (Nat.le_of_ble_eq_true rfl) dL_follows_202 rfl (fun r59 D59 P59 q59 => ?_)
        obtain ⟨e59, hR59⟩ := q59
        obtain rfl : r59 = (((if (m_wake R0 v) (32 + 38 * v + 32) = 1 then 1 else 0) : Int32).toInt64) := e59.trans (by rw [e7_w, wv_0 (kView_0 hv), ix_n (by omega)])
        refine pv_lconst (q := 206) (v := 0) C dL_follows_205 rfl (by decide) ?_
        refine pv_lcmp (q := 207) C dL_follows_206 rfl ?_
        refine pv_if_ne (q := 210) (tgt := 343) C dL_follows_207 (by decide) rfl (fun c207_60 => False.elim (c207_60 ((lg_cmp_eq _ _).mpr (by rw [(mwake_o R0 hv).1]; rfl)))) (fun _ => ?_)
        refine pv_aload_n (q := 211) C dL_follows_210 rfl rfl rfl ?_
        refine pv_iload_n (q := 212) C dL_follows_211 rfl rfl rfl ?_
        refine pv_callLl (q := 215) (rest := []) C Z hNC hKl (c_L_unlikeGroups l X D59 P59 hfl E_w (W + 1200 * v + 130 + 130 + 130) hR59 (nI v)) tw_830 mw_L_unlikeGroups ⟨rfl, rfl⟩ (by rw [hKR]; exact ⟨Nat.le_of_ble_eq_true rfl, Nat.le_of_ble_eq_true rfl⟩) (by rw [hKR]; constructor <;> (dsimp only; omega)) rfl rfl rfl (Nat.le_of_ble_eq_true rfl) dL_follows_212 rfl (fun r61 D61 P61 q61 => ?_)
        obtain ⟨e61, hR61⟩ := q61
        obtain rfl : r61 = (((umN ((m_wake R0 v)) v 4) : Int32).toInt64) := e61.trans (by rw [e7_w, wv_0 (kView_0 hv), ix_n (by omega)])
        refine pv_lconst (q := 216) (v := 0) C dL_follows_215 rfl (by decide) ?_
        refine pv_lcmp (q := 217) C dL_follows_216 rfl ?_
        refine pv_if_ne (q := 220) (tgt := 343) C dL_follows_217 (by decide) rfl (fun c217_62 => False.elim (c217_62 ((lg_cmp_eq _ _).mpr (by rw [um_low hS_w hv (wgt_z (mwake_o R0 hv).2.2)]; rfl)))) (fun _ => ?_)
        refine pv_aload_n (q := 221) C dL_follows_220 rfl rfl rfl ?_
        refine pv_callVi (q := 224) (rest := []) C hKl (c_X6_wakings l X D61 P61 E_w (W + 1200 * v + 130 + 130 + 130) hR61) tw_898 (show kd 0 = 6 from rfl) (by decide) rfl mm_X6_wakings ⟨rfl, rfl⟩ (by rw [hKR]; exact ⟨Nat.le_of_ble_eq_true rfl, Nat.le_of_ble_eq_true rfl⟩) (by rw [hKR]; constructor <;> (dsimp only; omega)) rfl rfl rfl (Nat.le_of_ble_eq_true rfl) dL_follows_221 rfl (fun r63 D63 P63 q63 => ?_)
        obtain ⟨rfl, rfl, rfl⟩ := q63
        have hR63 := hR61
        rw [e7_w]
        refine pv_iload (q := 226) C dL_follows_224 rfl rfl ?_
        refine pv_iconst (q := 227) (v := 1) C dL_follows_226 rfl (by decide) ?_
        refine pv_iadd (q := 228) C dL_follows_227 rfl ?_
        refine pv_icmp_ne (q := 231) (tgt := 343) C dL_follows_228 (by decide) rfl (fun c228_64 => False.elim (c228_64 ((mwake_o R0 hv).2.1))) (fun _ => ?_)
        refine pv_aload_n (q := 232) C dL_follows_231 rfl rfl rfl ?_
        refine pv_callLl (q := 235) (rest := []) C Z hNC hKl (c_L_undo l X D61 P61 hfl E_w (W + 1200 * v + 130 + 130 + 130) hR63 (by omega) s_w s5_w s3_w) tw_938 mw_L_undo ⟨rfl, rfl⟩ (by rw [hKR]; exact ⟨Nat.le_of_ble_eq_true rfl, Nat.le_of_ble_eq_true rfl⟩) (by rw [hKR]; constructor <;> (dsimp only; omega)) rfl rfl rfl (Nat.le_of_ble_eq_true rfl) dL_follows_232 rfl (fun r65 D65 P65 q65 => ?_)
        obtain ⟨e65, hR65⟩ := QE.ok q65 (if_neg s0_w)
        obtain rfl : r65 = ((nI (s_w - 1)).toInt64) := e65.trans (rfl)
        obtain ⟨N_2, hF, hRn_2⟩ := un_w _ _ _ hR65
        refine pv_lconst (q := 236) (v := 0) C dL_follows_235 rfl (by decide) ?_
        refine pv_lcmp (q := 237) C dL_follows_236 rfl ?_
        refine pv_if_lt (q := 240) (tgt := 343) C dL_follows_237 (by decide) rfl (fun c237_66 => False.elim (Int64.not_le.mpr ((lg_cmp_lt _ _).mp c237_66) (l_p (n := 0) (by omega) (by omega) (Nat.zero_le _)))) (fun _ => ?_)
        refine pv_iload (q := 242) C dL_follows_240 rfl rfl ?_
        refine pv_iconst (q := 243) (v := 1) C dL_follows_242 rfl (by decide) ?_
        refine pv_icmp_eq (q := 246) (tgt := 278) C dL_follows_243 (by decide) rfl (fun c3 => ?_) (fun c3 => ?_)
        ·
          obtain ⟨w1, w2, c2, hc1, hc2, ec2⟩ := ticks_wake hv hn1 j2 j3 ha hb1 hb2
          refine pv_aload_n (q := 279) C dL_follows_278 rfl rfl rfl ?_
          refine pv_iload (q := 281) C dL_follows_279 rfl rfl ?_
          refine pv_callLl (q := 284) (rest := []) C Z hNC hKl (c_L_pass l X D65 P65 hfl N_2 (W + 1200 * v + 130 + 130 + 130 + 130) hRn_2 (by omega) (nI (lf a b))) tw_752 mw_L_pass ⟨rfl, rfl⟩ (by rw [hKR]; exact ⟨Nat.le_of_ble_eq_true rfl, Nat.le_of_ble_eq_true rfl⟩) (by rw [hKR]; constructor <;> (dsimp only; omega)) rfl rfl rfl (Nat.le_of_ble_eq_true rfl) dL_follows_281 rfl (fun r68 D68 P68 q68 => ?_)
          obtain ⟨e68, hR68⟩ := QE.ok q68 (by unfold kRg; rw [if_pos (rg1_30 (by omega) (by omega))])
          obtain rfl : r68 = ((nI c2).toInt64) := e68.trans (by rw [hF.1, ix_n (by omega), ec2, i32_as])
          obtain ⟨E_q, hE_q⟩ : ∃ E, E = va_up (m_save (clr N_2)) 7 (m_ticks (N_2 7) (ix (nI (lf a b)))) := ⟨_, rfl⟩
          rw [← hE_q] at hR68
          obtain ⟨z7_q, s_q, s5_q, s3_q, s0_q, un_q⟩ := und_FI hF hE_q
          have e7_q : E_q 7 = m_ticks R0 (lf a b) := z7_q.trans (by rw [hF.1, ix_n (by omega)])
          have hS_q := hR68.1
          rw [e7_q] at hS_q
          refine pv_lconst (q := 285) (v := 1) C dL_follows_284 rfl (by decide) ?_
          refine pv_lcmp (q := 286) C dL_follows_285 rfl ?_
          refine pv_if_lt (q := 289) (tgt := 343) C dL_follows_286 (by decide) rfl (fun c286_69 => False.elim (Int64.not_le.mpr ((lg_cmp_lt _ _).mp c286_69) (l_p (n := 1) (by omega) (by omega) hc1))) (fun _ => ?_)
          refine pv_aload_n (q := 290) C dL_follows_289 rfl rfl rfl ?_
          refine pv_iload_n (q := 291) C dL_follows_290 rfl rfl rfl ?_
          refine pv_callLl (q := 294) (rest := []) C Z hNC hKl (c_L_napping l X D68 P68 hfl E_q (W + 1200 * v + 130 + 130 + 130 + 130 + 130) hR68 (nI v)) tw_793 mw_L_napping ⟨rfl, rfl⟩ (by rw [hKR]; exact ⟨Nat.le_of_ble_eq_true rfl, Nat.le_of_ble_eq_true rfl⟩) (by rw [hKR]; constructor <;> (dsimp only; omega)) rfl rfl rfl (Nat.le_of_ble_eq_true rfl) dL_follows_291 rfl (fun r70 D70 P70 q70 => ?_)
          obtain ⟨e70, hR70⟩ := q70
          obtain rfl : r70 = (((if (m_ticks R0 (lf a b)) (32 + 38 * v + 32) = 1 then 1 else 0) : Int32).toInt64) := e70.trans (by rw [e7_q, wv_0 (kView_0 hv), ix_n (by omega)])
          refine pv_lconst (q := 295) (v := 0) C dL_follows_294 rfl (by decide) ?_
          refine pv_lcmp (q := 296) C dL_follows_295 rfl ?_
          refine pv_if_ne (q := 299) (tgt := 343) C dL_follows_296 (by decide) rfl (fun c296_71 => False.elim (c296_71 ((lg_cmp_eq _ _).mpr (by rw [w1]; rfl)))) (fun _ => ?_)
          refine pv_aload_n (q := 300) C dL_follows_299 rfl rfl rfl ?_
          refine pv_iload_n (q := 301) C dL_follows_300 rfl rfl rfl ?_
          refine pv_callLl (q := 304) (rest := []) C Z hNC hKl (c_L_waiting l X D70 P70 hfl E_q (W + 1200 * v + 130 + 130 + 130 + 130 + 130) hR70 (nI v)) tw_797 mw_L_waiting ⟨rfl, rfl⟩ (by rw [hKR]; exact ⟨Nat.le_of_ble_eq_true rfl, Nat.le_of_ble_eq_true rfl⟩) (by rw [hKR]; constructor <;> (dsimp only; omega)) rfl rfl rfl (Nat.le_of_ble_eq_true rfl) dL_follows_301 rfl (fun r72 D72 P72 q72 => ?_)
          obtain ⟨e72, hR72⟩ := q72
          obtain rfl : r72 = (((wt ((m_ticks R0 (lf a b))) v) : Int32).toInt64) := e72.trans (by rw [e7_q, wv_0 (kView_0 hv), ix_n (by omega)])
          refine pv_lconst (q := 305) (v := 0) C dL_follows_304 rfl (by decide) ?_
          refine pv_lcmp (q := 306) C dL_follows_305 rfl ?_
          refine pv_if_ne (q := 309) (tgt := 343) C dL_follows_306 (by decide) rfl (fun c306_73 => False.elim (c306_73 ((lg_cmp_eq _ _).mpr (by rw [wt_z w2]; rfl)))) (fun _ => ?_)
          refine pv_aload_n (q := 310) C dL_follows_309 rfl rfl rfl ?_
          refine pv_callLl (q := 313) (rest := []) C Z hNC hKl (c_L_undo l X D72 P72 hfl E_q (W + 1200 * v + 130 + 130 + 130 + 130 + 130) hR72 (by omega) s_q s5_q s3_q) tw_938 mw_L_undo ⟨rfl, rfl⟩ (by rw [hKR]; exact ⟨Nat.le_of_ble_eq_true rfl, Nat.le_of_ble_eq_true rfl⟩) (by rw [hKR]; constructor <;> (dsimp only; omega)) rfl rfl rfl (Nat.le_of_ble_eq_true rfl) dL_follows_310 rfl (fun r74 D74 P74 q74 => ?_)
          obtain ⟨e74, hR74⟩ := QE.ok q74 (if_neg s0_q)
          obtain rfl : r74 = ((nI (s_q - 1)).toInt64) := e74.trans (rfl)
          obtain ⟨N_4, hF, hRn_4⟩ := un_q _ _ _ hR74
          refine pv_lconst (q := 314) (v := 0) C dL_follows_313 rfl (by decide) ?_
          refine pv_lcmp (q := 315) C dL_follows_314 rfl ?_
          refine pv_if_lt (q := 318) (tgt := 343) C dL_follows_315 (by decide) rfl (fun c315_75 => False.elim (Int64.not_le.mpr ((lg_cmp_lt _ _).mp c315_75) (l_p (n := 0) (by omega) (by omega) (Nat.zero_le _)))) (fun _ => ?_)
          refine pv_aload_n (q := 319) C dL_follows_318 rfl rfl rfl ?_
          refine pv_iload_n (q := 320) C dL_follows_319 rfl rfl rfl ?_
          refine pv_callLl (q := 323) (rest := []) C Z hNC hKl (c_L_napping l X D74 P74 hfl N_4 (W + 1200 * v + 130 + 130 + 130 + 130 + 130 + 130) hRn_4 (nI v)) tw_793 mw_L_napping ⟨rfl, rfl⟩ (by rw [hKR]; exact ⟨Nat.le_of_ble_eq_true rfl, Nat.le_of_ble_eq_true rfl⟩) (by rw [hKR]; constructor <;> (dsimp only; omega)) rfl rfl rfl (Nat.le_of_ble_eq_true rfl) dL_follows_320 rfl (fun r76 D76 P76 q76 => ?_)
          obtain ⟨e76, hR76⟩ := q76
          obtain rfl : r76 = (((if R0 (32 + 38 * v + 32) = 1 then 1 else 0) : Int32).toInt64) := e76.trans (by rw [hF.1, wv_0 (kView_0 hv), ix_n (by omega)])
          refine pv_lconst (q := 324) (v := 1) C dL_follows_323 rfl (by decide) ?_
          refine pv_lcmp (q := 325) C dL_follows_324 rfl ?_
          refine pv_if_ne (q := 328) (tgt := 343) C dL_follows_325 (by decide) rfl (fun c325_77 => False.elim (c325_77 ((lg_cmp_eq _ _).mpr (by rw [hn1]; rfl)))) (fun _ => ?_)
          refine pv_aload_n (q := 329) C dL_follows_328 rfl rfl rfl ?_
          refine pv_iload_n (q := 330) C dL_follows_329 rfl rfl rfl ?_
          refine pv_callLl (q := 333) (rest := []) C Z hNC hKl (c_L_napOf l X D76 P76 hfl N_4 (W + 1200 * v + 130 + 130 + 130 + 130 + 130 + 130) hR76 (nI v)) tw_903 mw_L_napOf ⟨rfl, rfl⟩ (by rw [hKR]; exact ⟨Nat.le_of_ble_eq_true rfl, Nat.le_of_ble_eq_true rfl⟩) (by rw [hKR]; constructor <;> (dsimp only; omega)) rfl rfl rfl (Nat.le_of_ble_eq_true rfl) dL_follows_330 rfl (fun r78 D78 P78 q78 => ?_)
          obtain ⟨e78, hR78⟩ := q78
          obtain rfl : r78 = (((R0 (32 + 38 * v + 33)) : Int32).toInt64) := e78.trans (by rw [hF.1, wv_0 (kView_0 hv), ix_n (by omega)])
          refine pv_lload (q := 335) C dL_follows_333 rfl rfl ?_
          refine pv_lcmp (q := 336) C dL_follows_335 rfl ?_
          refine pv_if_ne (q := 339) (tgt := 343) C dL_follows_336 (by decide) rfl (fun c336_79 => False.elim (c336_79 ((lg_cmp_eq _ _).mpr (rfl)))) (fun _ => ?_)
          refine pv_iconst (q := 340) (v := 1) C dL_follows_339 rfl (by decide) ?_
          refine pv_goto (tgt := 344) C dL_follows_340 (by decide) ?_
          refine pv_istore_n (q := 345) C dL_follows_344 rfl rfl (Nat.le_of_ble_eq_true rfl) rfl ?_
          refine pv_goto (tgt := 387) C dL_follows_345 (by decide) ?_
          refine pv_iinc (q := 390) (v := nI (v + 1)) C dL_follows_387 rfl rfl (nI_add _ _) rfl ?_
          refine pv_goto (tgt := 19) C dL_follows_390 (by decide) ?_
          exact PV_widen (by omega) (by omega) (PV_le (ih (v + 1) D78 P78 N_4 hF (RI_W hR78 (by omega)) (by omega) (by omega)) ⟨Or.inr rfl, Or.inr rfl, Or.inr rfl, Or.inr rfl, Or.inl rfl, Or.inl rfl, Or.inl rfl, Or.inl rfl, Or.inl rfl, Or.inl rfl, Or.inl rfl, Or.inl rfl, Or.inl rfl, Or.inl rfl, Or.inl rfl, trivial⟩)
        ·
          have hl3 : lf a b ≠ 1 := fun z => c3 (by rw [z]; rfl)
          obtain ⟨w1, w2, c2, hc1, hc2, ec2⟩ := ticks_wake hv hn1 j2 j3 ha hb1 hb2
          obtain ⟨c1, hc3, ec1⟩ := ticks_181 R0 (lf a b - 1)
          obtain ⟨tn, -⟩ := ticks_nap hv hn1 j2 j3 hb2 (lf a b - 1) (Or.inr (lf_n hl3))
          refine pv_aload_n (q := 247) C dL_follows_246 rfl rfl rfl ?_
          refine pv_iload (q := 249) C dL_follows_247 rfl rfl ?_
          refine pv_iconst (q := 250) (v := 1) C dL_follows_249 rfl (by decide) ?_
          refine pv_isub (q := 251) C dL_follows_250 rfl ?_
          rw [show nI (lf a b) - 1 = nI (lf a b - 1) from pk_sub (b := 1) (by omega)]
          refine pv_callLl (q := 254) (rest := []) C Z hNC hKl (c_L_pass l X D65 P65 hfl N_2 (W + 1200 * v + 130 + 130 + 130 + 130) hRn_2 (by omega) (nI (lf a b - 1))) tw_752 mw_L_pass ⟨rfl, rfl⟩ (by rw [hKR]; exact ⟨Nat.le_of_ble_eq_true rfl, Nat.le_of_ble_eq_true rfl⟩) (by rw [hKR]; constructor <;> (dsimp only; omega)) rfl rfl rfl (Nat.le_of_ble_eq_true rfl) dL_follows_251 rfl (fun r80 D80 P80 q80 => ?_)
          obtain ⟨e80, hR80⟩ := QE.ok q80 (by unfold kRg; rw [if_pos (rg1_30 (by omega) (by omega))])
          obtain rfl : r80 = ((nI c1).toInt64) := e80.trans (by rw [hF.1, ix_n (by omega), ec1, i32_as])
          obtain ⟨E_p, hE_p⟩ : ∃ E, E = va_up (m_save (clr N_2)) 7 (m_ticks (N_2 7) (ix (nI (lf a b - 1)))) := ⟨_, rfl⟩
          rw [← hE_p] at hR80
          obtain ⟨z7_p, s_p, s5_p, s3_p, s0_p, un_p⟩ := und_FI hF hE_p
          have e7_p : E_p 7 = m_ticks R0 (lf a b - 1) := z7_p.trans (by rw [hF.1, ix_n (by omega)])
          have hS_p := hR80.1
          rw [e7_p] at hS_p
          refine pv_lconst (q := 255) (v := 0) C dL_follows_254 rfl (by decide) ?_
          refine pv_lcmp (q := 256) C dL_follows_255 rfl ?_
          refine pv_if_lt (q := 259) (tgt := 343) C dL_follows_256 (by decide) rfl (fun c256_81 => False.elim (Int64.not_le.mpr ((lg_cmp_lt _ _).mp c256_81) (l_p (n := 0) (by omega) (by omega) (Nat.zero_le _)))) (fun _ => ?_)
          refine pv_aload_n (q := 260) C dL_follows_259 rfl rfl rfl ?_
          refine pv_iload_n (q := 261) C dL_follows_260 rfl rfl rfl ?_
          refine pv_callLl (q := 264) (rest := []) C Z hNC hKl (c_L_napping l X D80 P80 hfl E_p (W + 1200 * v + 130 + 130 + 130 + 130 + 130) hR80 (nI v)) tw_793 mw_L_napping ⟨rfl, rfl⟩ (by rw [hKR]; exact ⟨Nat.le_of_ble_eq_true rfl, Nat.le_of_ble_eq_true rfl⟩) (by rw [hKR]; constructor <;> (dsimp only; omega)) rfl rfl rfl (Nat.le_of_ble_eq_true rfl) dL_follows_261 rfl (fun r82 D82 P82 q82 => ?_)
          obtain ⟨e82, hR82⟩ := q82
          obtain rfl : r82 = (((if (m_ticks R0 (lf a b - 1)) (32 + 38 * v + 32) = 1 then 1 else 0) : Int32).toInt64) := e82.trans (by rw [e7_p, wv_0 (kView_0 hv), ix_n (by omega)])
          refine pv_lconst (q := 265) (v := 1) C dL_follows_264 rfl (by decide) ?_
          refine pv_lcmp (q := 266) C dL_follows_265 rfl ?_
          refine pv_if_ne (q := 269) (tgt := 343) C dL_follows_266 (by decide) rfl (fun c266_83 => False.elim (c266_83 ((lg_cmp_eq _ _).mpr (by rw [tn]; rfl)))) (fun _ => ?_)
          refine pv_aload_n (q := 270) C dL_follows_269 rfl rfl rfl ?_
          refine pv_callLl (q := 273) (rest := []) C Z hNC hKl (c_L_undo l X D82 P82 hfl E_p (W + 1200 * v + 130 + 130 + 130 + 130 + 130) hR82 (by omega) s_p s5_p s3_p) tw_938 mw_L_undo ⟨rfl, rfl⟩ (by rw [hKR]; exact ⟨Nat.le_of_ble_eq_true rfl, Nat.le_of_ble_eq_true rfl⟩) (by rw [hKR]; constructor <;> (dsimp only; omega)) rfl rfl rfl (Nat.le_of_ble_eq_true rfl) dL_follows_270 rfl (fun r84 D84 P84 q84 => ?_)
          obtain ⟨e84, hR84⟩ := QE.ok q84 (if_neg s0_p)
          obtain rfl : r84 = ((nI (s_p - 1)).toInt64) := e84.trans (rfl)
          obtain ⟨N_3, hF, hRn_3⟩ := un_p _ _ _ hR84
          refine pv_lconst (q := 274) (v := 0) C dL_follows_273 rfl (by decide) ?_
          refine pv_lcmp (q := 275) C dL_follows_274 rfl ?_
          refine pv_if_lt (q := 278) (tgt := 343) C dL_follows_275 (by decide) rfl (fun c275_85 => False.elim (Int64.not_le.mpr ((lg_cmp_lt _ _).mp c275_85) (l_p (n := 0) (by omega) (by omega) (Nat.zero_le _)))) (fun _ => ?_)
          refine pv_aload_n (q := 279) C dL_follows_278 rfl rfl rfl ?_
          refine pv_iload (q := 281) C dL_follows_279 rfl rfl ?_
          refine pv_callLl (q := 284) (rest := []) C Z hNC hKl (c_L_pass l X D84 P84 hfl N_3 (W + 1200 * v + 130 + 130 + 130 + 130 + 130 + 130) hRn_3 (by omega) (nI (lf a b))) tw_752 mw_L_pass ⟨rfl, rfl⟩ (by rw [hKR]; exact ⟨Nat.le_of_ble_eq_true rfl, Nat.le_of_ble_eq_true rfl⟩) (by rw [hKR]; constructor <;> (dsimp only; omega)) rfl rfl rfl (Nat.le_of_ble_eq_true rfl) dL_follows_281 rfl (fun r86 D86 P86 q86 => ?_)
          obtain ⟨e86, hR86⟩ := QE.ok q86 (by unfold kRg; rw [if_pos (rg1_30 (by omega) (by omega))])
          obtain rfl : r86 = ((nI c2).toInt64) := e86.trans (by rw [hF.1, ix_n (by omega), ec2, i32_as])
          obtain ⟨E_q, hE_q⟩ : ∃ E, E = va_up (m_save (clr N_3)) 7 (m_ticks (N_3 7) (ix (nI (lf a b)))) := ⟨_, rfl⟩
          rw [← hE_q] at hR86
          obtain ⟨z7_q, s_q, s5_q, s3_q, s0_q, un_q⟩ := und_FI hF hE_q
          have e7_q : E_q 7 = m_ticks R0 (lf a b) := z7_q.trans (by rw [hF.1, ix_n (by omega)])
          have hS_q := hR86.1
          rw [e7_q] at hS_q
          refine pv_lconst (q := 285) (v := 1) C dL_follows_284 rfl (by decide) ?_
          refine pv_lcmp (q := 286) C dL_follows_285 rfl ?_
          refine pv_if_lt (q := 289) (tgt := 343) C dL_follows_286 (by decide) rfl (fun c286_87 => False.elim (Int64.not_le.mpr ((lg_cmp_lt _ _).mp c286_87) (l_p (n := 1) (by omega) (by omega) hc1))) (fun _ => ?_)
          refine pv_aload_n (q := 290) C dL_follows_289 rfl rfl rfl ?_
          refine pv_iload_n (q := 291) C dL_follows_290 rfl rfl rfl ?_
          refine pv_callLl (q := 294) (rest := []) C Z hNC hKl (c_L_napping l X D86 P86 hfl E_q (W + 1200 * v + 130 + 130 + 130 + 130 + 130 + 130 + 130) hR86 (nI v)) tw_793 mw_L_napping ⟨rfl, rfl⟩ (by rw [hKR]; exact ⟨Nat.le_of_ble_eq_true rfl, Nat.le_of_ble_eq_true rfl⟩) (by rw [hKR]; constructor <;> (dsimp only; omega)) rfl rfl rfl (Nat.le_of_ble_eq_true rfl) dL_follows_291 rfl (fun r88 D88 P88 q88 => ?_)
          obtain ⟨e88, hR88⟩ := q88
          obtain rfl : r88 = (((if (m_ticks R0 (lf a b)) (32 + 38 * v + 32) = 1 then 1 else 0) : Int32).toInt64) := e88.trans (by rw [e7_q, wv_0 (kView_0 hv), ix_n (by omega)])
          refine pv_lconst (q := 295) (v := 0) C dL_follows_294 rfl (by decide) ?_
          refine pv_lcmp (q := 296) C dL_follows_295 rfl ?_
          refine pv_if_ne (q := 299) (tgt := 343) C dL_follows_296 (by decide) rfl (fun c296_89 => False.elim (c296_89 ((lg_cmp_eq _ _).mpr (by rw [w1]; rfl)))) (fun _ => ?_)
          refine pv_aload_n (q := 300) C dL_follows_299 rfl rfl rfl ?_
          refine pv_iload_n (q := 301) C dL_follows_300 rfl rfl rfl ?_
          refine pv_callLl (q := 304) (rest := []) C Z hNC hKl (c_L_waiting l X D88 P88 hfl E_q (W + 1200 * v + 130 + 130 + 130 + 130 + 130 + 130 + 130) hR88 (nI v)) tw_797 mw_L_waiting ⟨rfl, rfl⟩ (by rw [hKR]; exact ⟨Nat.le_of_ble_eq_true rfl, Nat.le_of_ble_eq_true rfl⟩) (by rw [hKR]; constructor <;> (dsimp only; omega)) rfl rfl rfl (Nat.le_of_ble_eq_true rfl) dL_follows_301 rfl (fun r90 D90 P90 q90 => ?_)
          obtain ⟨e90, hR90⟩ := q90
          obtain rfl : r90 = (((wt ((m_ticks R0 (lf a b))) v) : Int32).toInt64) := e90.trans (by rw [e7_q, wv_0 (kView_0 hv), ix_n (by omega)])
          refine pv_lconst (q := 305) (v := 0) C dL_follows_304 rfl (by decide) ?_
          refine pv_lcmp (q := 306) C dL_follows_305 rfl ?_
          refine pv_if_ne (q := 309) (tgt := 343) C dL_follows_306 (by decide) rfl (fun c306_91 => False.elim (c306_91 ((lg_cmp_eq _ _).mpr (by rw [wt_z w2]; rfl)))) (fun _ => ?_)
          refine pv_aload_n (q := 310) C dL_follows_309 rfl rfl rfl ?_
          refine pv_callLl (q := 313) (rest := []) C Z hNC hKl (c_L_undo l X D90 P90 hfl E_q (W + 1200 * v + 130 + 130 + 130 + 130 + 130 + 130 + 130) hR90 (by omega) s_q s5_q s3_q) tw_938 mw_L_undo ⟨rfl, rfl⟩ (by rw [hKR]; exact ⟨Nat.le_of_ble_eq_true rfl, Nat.le_of_ble_eq_true rfl⟩) (by rw [hKR]; constructor <;> (dsimp only; omega)) rfl rfl rfl (Nat.le_of_ble_eq_true rfl) dL_follows_310 rfl (fun r92 D92 P92 q92 => ?_)
          obtain ⟨e92, hR92⟩ := QE.ok q92 (if_neg s0_q)
          obtain rfl : r92 = ((nI (s_q - 1)).toInt64) := e92.trans (rfl)
          obtain ⟨N_4, hF, hRn_4⟩ := un_q _ _ _ hR92
          refine pv_lconst (q := 314) (v := 0) C dL_follows_313 rfl (by decide) ?_
          refine pv_lcmp (q := 315) C dL_follows_314 rfl ?_
          refine pv_if_lt (q := 318) (tgt := 343) C dL_follows_315 (by decide) rfl (fun c315_93 => False.elim (Int64.not_le.mpr ((lg_cmp_lt _ _).mp c315_93) (l_p (n := 0) (by omega) (by omega) (Nat.zero_le _)))) (fun _ => ?_)
          refine pv_aload_n (q := 319) C dL_follows_318 rfl rfl rfl ?_
          refine pv_iload_n (q := 320) C dL_follows_319 rfl rfl rfl ?_
          refine pv_callLl (q := 323) (rest := []) C Z hNC hKl (c_L_napping l X D92 P92 hfl N_4 (W + 1200 * v + 130 + 130 + 130 + 130 + 130 + 130 + 130 + 130) hRn_4 (nI v)) tw_793 mw_L_napping ⟨rfl, rfl⟩ (by rw [hKR]; exact ⟨Nat.le_of_ble_eq_true rfl, Nat.le_of_ble_eq_true rfl⟩) (by rw [hKR]; constructor <;> (dsimp only; omega)) rfl rfl rfl (Nat.le_of_ble_eq_true rfl) dL_follows_320 rfl (fun r94 D94 P94 q94 => ?_)
          obtain ⟨e94, hR94⟩ := q94
          obtain rfl : r94 = (((if R0 (32 + 38 * v + 32) = 1 then 1 else 0) : Int32).toInt64) := e94.trans (by rw [hF.1, wv_0 (kView_0 hv), ix_n (by omega)])
          refine pv_lconst (q := 324) (v := 1) C dL_follows_323 rfl (by decide) ?_
          refine pv_lcmp (q := 325) C dL_follows_324 rfl ?_
          refine pv_if_ne (q := 328) (tgt := 343) C dL_follows_325 (by decide) rfl (fun c325_95 => False.elim (c325_95 ((lg_cmp_eq _ _).mpr (by rw [hn1]; rfl)))) (fun _ => ?_)
          refine pv_aload_n (q := 329) C dL_follows_328 rfl rfl rfl ?_
          refine pv_iload_n (q := 330) C dL_follows_329 rfl rfl rfl ?_
          refine pv_callLl (q := 333) (rest := []) C Z hNC hKl (c_L_napOf l X D94 P94 hfl N_4 (W + 1200 * v + 130 + 130 + 130 + 130 + 130 + 130 + 130 + 130) hR94 (nI v)) tw_903 mw_L_napOf ⟨rfl, rfl⟩ (by rw [hKR]; exact ⟨Nat.le_of_ble_eq_true rfl, Nat.le_of_ble_eq_true rfl⟩) (by rw [hKR]; constructor <;> (dsimp only; omega)) rfl rfl rfl (Nat.le_of_ble_eq_true rfl) dL_follows_330 rfl (fun r96 D96 P96 q96 => ?_)
          obtain ⟨e96, hR96⟩ := q96
          obtain rfl : r96 = (((R0 (32 + 38 * v + 33)) : Int32).toInt64) := e96.trans (by rw [hF.1, wv_0 (kView_0 hv), ix_n (by omega)])
          refine pv_lload (q := 335) C dL_follows_333 rfl rfl ?_
          refine pv_lcmp (q := 336) C dL_follows_335 rfl ?_
          refine pv_if_ne (q := 339) (tgt := 343) C dL_follows_336 (by decide) rfl (fun c336_97 => False.elim (c336_97 ((lg_cmp_eq _ _).mpr (rfl)))) (fun _ => ?_)
          refine pv_iconst (q := 340) (v := 1) C dL_follows_339 rfl (by decide) ?_
          refine pv_goto (tgt := 344) C dL_follows_340 (by decide) ?_
          refine pv_istore_n (q := 345) C dL_follows_344 rfl rfl (Nat.le_of_ble_eq_true rfl) rfl ?_
          refine pv_goto (tgt := 387) C dL_follows_345 (by decide) ?_
          refine pv_iinc (q := 390) (v := nI (v + 1)) C dL_follows_387 rfl rfl (nI_add _ _) rfl ?_
          refine pv_goto (tgt := 19) C dL_follows_390 (by decide) ?_
          exact PV_widen (by omega) (by omega) (PV_le (ih (v + 1) D96 P96 N_4 hF (RI_W hR96 (by omega)) (by omega) (by omega)) ⟨Or.inr rfl, Or.inr rfl, Or.inr rfl, Or.inr rfl, Or.inl rfl, Or.inl rfl, Or.inl rfl, Or.inl rfl, Or.inl rfl, Or.inl rfl, Or.inl rfl, Or.inl rfl, Or.inl rfl, Or.inl rfl, Or.inl rfl, trivial⟩)
