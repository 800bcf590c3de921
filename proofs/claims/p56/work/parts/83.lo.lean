/-! five times the snapshot: nothing of before is left -/
def KP (R0 T0 : Nat → Int32) (t0 : Int32) (i : Nat) (N : DT) : Prop := FI R0 T0 t0 N ∧ ∃ s, s ≤ 5 ∧ N 6 3 = nI s ∧ i ≤ s ∧ ∀ m, m < i → ∀ k, k < 184 → N 8 (184 * (s - 1 - m) + k) = R0 k
theorem KP_0 {R0 T0 : Nat → Int32} {t0 : Int32} {N : DT} (h : FI R0 T0 t0 N) : KP R0 T0 t0 0 N := by
  obtain ⟨-, -, -, -, -, s, a, b⟩ := id h
  exact ⟨h, s, a, b, Nat.zero_le _, fun m hm => absurd hm (Nat.not_lt_zero _)⟩
theorem rest_KP {R0 T0 : Nat → Int32} {t0 : Int32} {N D : DT} {P : PT} {i W : Nat} (hK : KP R0 T0 t0 i N) (hi : i < 5) (h : RI D P (m_rest (m_save (clr N))) W) : ∃ N2, KP R0 T0 t0 (i + 1) N2 ∧ RI D P N2 W := by
  obtain ⟨⟨f1, f2, f3, f4, f5, -⟩, s, f6, f7, f8, f9⟩ := hK
  obtain ⟨g1, g2, g3, g4, g5, g6⟩ := sv_8 f7 f6
  have e8 : m_save (clr N) 8 = m_book (N 8) (N 7) s := by
    unfold m_save
    rw [up2_ne _ _ _ (by decide), va_up_self, clr_ne (by decide), f7, ix_n (by omega), clr_r (by decide), clr_r (by decide)]
  have h3 : va_up (m_rest (m_save (clr N))) 7 R0 6 3 = nI (min s 4 + 1) := by
    rw [va_up_ne _ _ (by decide)]; unfold m_rest; rw [va_up_ne _ _ (by decide), g2]
  refine ⟨va_up (m_rest (m_save (clr N))) 7 R0, ⟨⟨va_up_self _ _ _, ?_, ?_, ?_, ?_, min s 4 + 1, by omega, h3⟩, min s 4 + 1, by omega, h3, by omega, fun m hm k hk => ?_⟩, RI_7 h (fun k hk => ?_)⟩
  · rw [va_up_ne _ _ (by decide)]; unfold m_rest; rw [va_up_ne _ _ (by decide), g3]; exact f2
  · intro k hk; rw [va_up_ne _ _ (by decide)]; unfold m_rest; rw [va_up_ne _ _ (by decide), g5]; exact f3 k hk
  · rw [va_up_ne _ _ (by decide)]; unfold m_rest; rw [va_up_ne _ _ (by decide), g4]; exact f4
  · rw [va_up_ne _ _ (by decide)]; unfold m_rest; rw [va_up_ne _ _ (by decide), g6]; exact f5
  · rw [va_up_ne _ _ (by decide)]; unfold m_rest; rw [va_up_ne _ _ (by decide), e8]
    unfold m_book
    by_cases e0 : m = 0
    · subst e0
      rw [if_pos (by omega), f1]
      congr 1
      omega
    · rw [if_neg (by omega)]
      by_cases e5 : s = 5
      · rw [if_pos ⟨e5, by omega⟩]
        have := f9 (m - 1) (by omega) k hk
        rw [show 184 + (184 * (min s 4 + 1 - 1 - m) + k) = 184 * (s - 1 - (m - 1)) + k by omega]
        exact this
      · rw [if_neg (by omega)]
        have := f9 (m - 1) (by omega) k hk
        rw [show 184 * (min s 4 + 1 - 1 - m) + k = 184 * (s - 1 - (m - 1)) + k by omega]
        exact this
  · unfold m_rest
    rw [va_up_self]
    show R0 k = (if k < 184 then m_save (clr N) 9 k else m_save (clr N) 7 k)
    rw [if_pos hk, g5, f3 k hk]
theorem KP_8 {R0 T0 : Nat → Int32} {t0 : Int32} {N : DT} (h : KP R0 T0 t0 5 N) : N 6 3 = nI 5 ∧ ∀ j, j < 5 → ∀ k, k < 184 → N 8 (184 * j + k) = R0 k := by
  obtain ⟨-, s, f6, f7, f8, f9⟩ := h
  have e : s = 5 := by omega
  subst e
  refine ⟨f7, fun j hj k hk => ?_⟩
  have := f9 (4 - j) (by omega) k hk
  rw [show 5 - 1 - (4 - j) = j by omega] at this
  exact this
theorem KP_RI {R0 T0 : Nat → Int32} {t0 : Int32} {N1 N2 E : DT} {R : PT} {W : Nat} (h1 : KP R0 T0 t0 5 N1) (h2 : KP R0 T0 t0 5 N2) (g : RI E R N2 W) : RI E R N1 W := by
  obtain ⟨a3, a8⟩ := KP_8 h1
  obtain ⟨b3, b8⟩ := KP_8 h2
  obtain ⟨⟨f1, f2, f3, f4, f5, -⟩, -⟩ := h1
  obtain ⟨⟨k1, k2, k3, k4, k5, -⟩, -⟩ := h2
  refine RI_live g (fun k _ => by rw [f1, k1]) (a3.trans b3.symm) (f2.trans k2.symm) (f4.trans k4.symm) (fun s hs5 hs j hj k hk => ?_) (fun _ k hk => (f3 k hk).trans (k3 k hk).symm) (fun n _ _ k _ => by rw [f5, k5])
  have e : s = 5 := nI_inj (by omega) (by omega) (hs.symm.trans b3)
  rw [a8 j (by omega) k hk, b8 j (by omega) k hk]
theorem KP_JM {R0 T0 : Nat → Int32} {t0 : Int32} {N : DT} {V : Nat} (h : KP R0 T0 t0 5 N) (hJ : JJ R0 V) : JM N V := by
  obtain ⟨a3, a8⟩ := KP_8 h
  obtain ⟨⟨f1, f2, f3, f4, f5, -⟩, -⟩ := h
  exact ⟨by rw [f1]; exact hJ, ⟨5, by omega, a3, fun j hj => JJ_cong hJ (fun k hk => a8 j hj k hk)⟩, fun _ => JJ_cong hJ f3⟩
/-! the law's walk -/
def wL : Cond := (Jvm.Cond.initialized "NappingViewsLaw")
def AL (K : KT) : Nat → Prop := fun q => K.s.heap.size ≤ q
def LW (l : Launch) (K : KT) (X : XT) (b : Nat → Nat) (sb L : Nat) (xs : Nat → Int32) : Prop := LKP l K X b (AL K) cL_law RL wL 8 (some .boolean) room_1 ∧ va_X sb L xs K.s K.s.heap ∧ sb < K.s.heap.size ∧ L < 2 ^ 31
set_option maxRecDepth 100000 in
set_option maxHeartbeats 4000000 in
theorem law_A {l : Launch} {K : KT} {X : XT} {b : Nat → Nat} {sb L : Nat} {xs : Nat → Int32} (H0 : LW l K X b sb L xs) {Q : State → Prop} {M D E : DT} {P R : PT} {ce sl W V k : Nat} (hce : ce + 5000 ≤ 690320) (hsl : sl + 30000 ≤ 7030508) (hW : W + 300000 < 2 ^ 29) (hV : V + 300000 < 2 ^ 29) (h : RI D P M W) (g : RI E R M W) (hj : JM M V) (hk : k < 40) (kk : ∀ (y : Nat) (M' D' E' : DT) (P' R' : PT), y < 2 ^ 31 → RI D' P' M' (W + 10000) → RI E' R' M' (W + 10000) → JM M' (V + 7000) → PG K (AL K) (F2 X b D' P' E' R') Q (ce + 320) (sl + 1920) 131 [some (.ref sb), some (.ref (X.2.2 0)), some (.ref (b 0)), some (.int 1), some (.int (nI k)), none, some (.int (nI y)), none] []) : PG K (AL K) (F2 X b D P E R) Q (ce) (sl) 59 [some (.ref sb), some (.ref (X.2.2 0)), some (.ref (b 0)), some (.int 1), some (.int (nI k)), none, none, none] [] := by
  have L0 := H0.1
  obtain ⟨⟨hKl, hKR, C, C2, Z, hNC, hA1, hA2, hap, hap2, hfl⟩, hX, hbl, hL⟩ := id H0
  have hbA : ¬ AL K sb := fun z => absurd hbl (Nat.not_lt.mpr z)
  have hk5 := h.2.2.2.2.1.2.1
  have hdx := drw_lt xs L (2 * k)
  have hdy := drw_lt xs L (2 * k + 1)
  by_cases hk3 : k < 3
  · obtain ⟨ra, Ea, b1, b2⟩ := act_ex (x := 0) (y := drw xs L (2 * k + 1)) (by omega) hdy hj hk5
    refine pq_iload_n (q := 60) C dL_law_59 rfl rfl rfl ?_
    refine pq_if_eq (q := 63) (tgt := 275) C dL_law_60 (by decide) rfl (fun c60_1 => False.elim (absurd c60_1 (by decide))) (fun _ => ?_)
    refine pq_aload_n (q := 64) C dL_law_63 rfl rfl rfl ?_
    refine pq_iconst (q := 65) (v := 2) C dL_law_64 rfl (by decide) ?_
    refine pq_iload (q := 67) C dL_law_65 rfl rfl ?_
    refine pq_imulN (q := 68) (a := 2) (b := k) C rfl rfl dL_law_67 rfl ?_
    refine pq_callD (q := 71) (rest := []) (j := ((2 * k))) C hX hbl hbA (fun _ z => z) hL (by omega) tw_263 (by rw [hKR]; exact ⟨Nat.le_of_ble_eq_true rfl, Nat.le_of_ble_eq_true rfl⟩) (by rw [hKR]; show _ ≤ 690320 ∧ _ ≤ 7030508; omega) rfl rfl (Nat.le_of_ble_eq_true rfl) dL_law_68 rfl ?_
    have hd_2 := drw_lt xs L ((2 * k))
    refine pq_istore (q := 73) C dL_law_71 rfl (Nat.le_of_ble_eq_true rfl) rfl ?_
    refine pq_aload_n (q := 74) C dL_law_73 rfl rfl rfl ?_
    refine pq_iconst (q := 75) (v := 2) C dL_law_74 rfl (by decide) ?_
    refine pq_iload (q := 77) C dL_law_75 rfl rfl ?_
    refine pq_imulN (q := 78) (a := 2) (b := k) C rfl rfl dL_law_77 rfl ?_
    refine pq_iconst (q := 79) (v := 1) C dL_law_78 rfl (by decide) ?_
    refine pq_iaddN (q := 80) (a := (2 * k)) (b := 1) C rfl rfl dL_law_79 rfl ?_
    refine pq_callD (q := 83) (rest := []) (j := (((2 * k) + 1))) C hX hbl hbA (fun _ z => z) hL (by omega) tw_263 (by rw [hKR]; exact ⟨Nat.le_of_ble_eq_true rfl, Nat.le_of_ble_eq_true rfl⟩) (by rw [hKR]; show _ ≤ 690320 ∧ _ ≤ 7030508; omega) rfl rfl (Nat.le_of_ble_eq_true rfl) dL_law_80 rfl ?_
    have hd_3 := drw_lt xs L (((2 * k) + 1))
    refine pq_istore (q := 85) C dL_law_83 rfl (Nat.le_of_ble_eq_true rfl) rfl ?_
    refine pq_aload_n (q := 86) C dL_law_85 rfl rfl rfl ?_
    refine pq_iload (q := 88) C dL_law_86 rfl rfl ?_
    refine pq_iconst (q := 89) (v := 3) C dL_law_88 rfl (by decide) ?_
    refine pq_icmp_ge (q := 92) (tgt := 96) C dL_law_89 (by decide) rfl (fun c89_4 => False.elim (absurd c89_4 (fun z => absurd ((nI_leI (a := 3) (by decide) (by omega)).mp z) (by omega)))) (fun _ => ?_)
    refine pq_iconst (q := 93) (v := 0) C dL_law_92 rfl (by decide) ?_
    refine PG_st (st' := [.int (nI 0), .ref (X.2.2 0)]) rfl ?_
    refine pq_goto (tgt := 98) C dL_law_93 (by decide) ?_
    refine pq_iload (q := 100) C dL_law_98 rfl rfl ?_
    refine pq_callMl (q := 103) (rest := []) C Z hNC hA1 hap hKl (b2 l X D P W hfl h (by omega)) tw_983 mm_L_act ⟨rfl, rfl⟩ (by rw [hKR]; exact ⟨Nat.le_of_ble_eq_true rfl, Nat.le_of_ble_eq_true rfl⟩) (by rw [hKR]; show _ ≤ 690320 ∧ _ ≤ 7030508; omega) rfl rfl rfl (Nat.le_of_ble_eq_true rfl) dL_law_100 rfl (fun r5 D5 P5 q5 => ?_)
    obtain ⟨rfl, hR5⟩ := q5
    refine pq_aload_n (q := 104) C dL_law_103 rfl rfl rfl ?_
    refine pq_iload (q := 106) C dL_law_104 rfl rfl ?_
    refine pq_iconst (q := 107) (v := 3) C dL_law_106 rfl (by decide) ?_
    refine pq_icmp_ge (q := 110) (tgt := 114) C dL_law_107 (by decide) rfl (fun c107_6 => False.elim (absurd c107_6 (fun z => absurd ((nI_leI (a := 3) (by decide) (by omega)).mp z) (by omega)))) (fun _ => ?_)
    refine pq_iconst (q := 111) (v := 0) C dL_law_110 rfl (by decide) ?_
    refine PG_st (st' := [.int (nI 0), .ref (b 0), .long _]) rfl ?_
    refine pq_goto (tgt := 116) C dL_law_111 (by decide) ?_
    refine pq_iload (q := 118) C dL_law_116 rfl rfl ?_
    refine PG_swap ?_
    refine pq_callMl (q := 121) (rest := [.long _]) (X := mv X b) (b := X.2.2) C2 Z hNC hA2 hap2 hKl (b2 l (mv X b) E R W hfl g (by omega)) tw_983 mm_L_act ⟨rfl, rfl⟩ (by rw [hKR]; exact ⟨Nat.le_of_ble_eq_true rfl, Nat.le_of_ble_eq_true rfl⟩) (by rw [hKR]; show _ ≤ 690320 ∧ _ ≤ 7030508; omega) rfl rfl rfl (Nat.le_of_ble_eq_true rfl) dL_law_118 rfl (fun r7 D7 P7 q7 => ?_)
    refine PG_unswap ?_
    obtain ⟨rfl, hR7⟩ := q7
    refine pq_lcmp (q := 122) C dL_law_121 rfl ?_
    refine pq_if_ne (q := 125) (tgt := 129) C dL_law_122 (by decide) rfl (fun c122_8 => False.elim (c122_8 ((lg_cmp_eq _ _).mpr (rfl)))) (fun _ => ?_)
    refine pq_iconst (q := 126) (v := 1) C dL_law_125 rfl (by decide) ?_
    refine pq_goto (tgt := 130) C dL_law_126 (by decide) ?_
    refine pq_istore_n (q := 131) C dL_law_130 rfl rfl (Nat.le_of_ble_eq_true rfl) rfl ?_
    exact PG_widen (by omega) (by omega) (PG_le (kk (drw xs L (2 * k + 1)) Ea D5 D7 P5 P7 hdy hR5 hR7 b1) ⟨Or.inr rfl, Or.inr rfl, Or.inr rfl, Or.inr rfl, Or.inr rfl, Or.inl rfl, Or.inr rfl, Or.inl rfl, trivial⟩)
  · obtain ⟨ra, Ea, b1, b2⟩ := act_ex (x := (drw xs L (2 * k))) (y := drw xs L (2 * k + 1)) (by omega) hdy hj hk5
    refine pq_iload_n (q := 60) C dL_law_59 rfl rfl rfl ?_
    refine pq_if_eq (q := 63) (tgt := 275) C dL_law_60 (by decide) rfl (fun c60_9 => False.elim (absurd c60_9 (by decide))) (fun _ => ?_)
    refine pq_aload_n (q := 64) C dL_law_63 rfl rfl rfl ?_
    refine pq_iconst (q := 65) (v := 2) C dL_law_64 rfl (by decide) ?_
    refine pq_iload (q := 67) C dL_law_65 rfl rfl ?_
    refine pq_imulN (q := 68) (a := 2) (b := k) C rfl rfl dL_law_67 rfl ?_
    refine pq_callD (q := 71) (rest := []) (j := ((2 * k))) C hX hbl hbA (fun _ z => z) hL (by omega) tw_263 (by rw [hKR]; exact ⟨Nat.le_of_ble_eq_true rfl, Nat.le_of_ble_eq_true rfl⟩) (by rw [hKR]; show _ ≤ 690320 ∧ _ ≤ 7030508; omega) rfl rfl (Nat.le_of_ble_eq_true rfl) dL_law_68 rfl ?_
    have hd_10 := drw_lt xs L ((2 * k))
    refine pq_istore (q := 73) C dL_law_71 rfl (Nat.le_of_ble_eq_true rfl) rfl ?_
    refine pq_aload_n (q := 74) C dL_law_73 rfl rfl rfl ?_
    refine pq_iconst (q := 75) (v := 2) C dL_law_74 rfl (by decide) ?_
    refine pq_iload (q := 77) C dL_law_75 rfl rfl ?_
    refine pq_imulN (q := 78) (a := 2) (b := k) C rfl rfl dL_law_77 rfl ?_
    refine pq_iconst (q := 79) (v := 1) C dL_law_78 rfl (by decide) ?_
    refine pq_iaddN (q := 80) (a := (2 * k)) (b := 1) C rfl rfl dL_law_79 rfl ?_
    refine pq_callD (q := 83) (rest := []) (j := (((2 * k) + 1))) C hX hbl hbA (fun _ z => z) hL (by omega) tw_263 (by rw [hKR]; exact ⟨Nat.le_of_ble_eq_true rfl, Nat.le_of_ble_eq_true rfl⟩) (by rw [hKR]; show _ ≤ 690320 ∧ _ ≤ 7030508; omega) rfl rfl (Nat.le_of_ble_eq_true rfl) dL_law_80 rfl ?_
    have hd_11 := drw_lt xs L (((2 * k) + 1))
    refine pq_istore (q := 85) C dL_law_83 rfl (Nat.le_of_ble_eq_true rfl) rfl ?_
    refine pq_aload_n (q := 86) C dL_law_85 rfl rfl rfl ?_
    refine pq_iload (q := 88) C dL_law_86 rfl rfl ?_
    refine pq_iconst (q := 89) (v := 3) C dL_law_88 rfl (by decide) ?_
    refine pq_icmp_ge (q := 92) (tgt := 96) C dL_law_89 (by decide) rfl (fun _ => ?_) (fun c89_12 => False.elim (c89_12 ((nI_leI (a := 3) (by decide) (by omega)).mpr (by omega))))
    refine pq_iload (q := 98) C dL_law_96 rfl rfl ?_
    refine pq_iload (q := 100) C dL_law_98 rfl rfl ?_
    refine pq_callMl (q := 103) (rest := []) C Z hNC hA1 hap hKl (b2 l X D P W hfl h (by omega)) tw_983 mm_L_act ⟨rfl, rfl⟩ (by rw [hKR]; exact ⟨Nat.le_of_ble_eq_true rfl, Nat.le_of_ble_eq_true rfl⟩) (by rw [hKR]; show _ ≤ 690320 ∧ _ ≤ 7030508; omega) rfl rfl rfl (Nat.le_of_ble_eq_true rfl) dL_law_100 rfl (fun r13 D13 P13 q13 => ?_)
    obtain ⟨rfl, hR13⟩ := q13
    refine pq_aload_n (q := 104) C dL_law_103 rfl rfl rfl ?_
    refine pq_iload (q := 106) C dL_law_104 rfl rfl ?_
    refine pq_iconst (q := 107) (v := 3) C dL_law_106 rfl (by decide) ?_
    refine pq_icmp_ge (q := 110) (tgt := 114) C dL_law_107 (by decide) rfl (fun _ => ?_) (fun c107_14 => False.elim (c107_14 ((nI_leI (a := 3) (by decide) (by omega)).mpr (by omega))))
    refine pq_iload (q := 116) C dL_law_114 rfl rfl ?_
    refine pq_iload (q := 118) C dL_law_116 rfl rfl ?_
    refine PG_swap ?_
    refine pq_callMl (q := 121) (rest := [.long _]) (X := mv X b) (b := X.2.2) C2 Z hNC hA2 hap2 hKl (b2 l (mv X b) E R W hfl g (by omega)) tw_983 mm_L_act ⟨rfl, rfl⟩ (by rw [hKR]; exact ⟨Nat.le_of_ble_eq_true rfl, Nat.le_of_ble_eq_true rfl⟩) (by rw [hKR]; show _ ≤ 690320 ∧ _ ≤ 7030508; omega) rfl rfl rfl (Nat.le_of_ble_eq_true rfl) dL_law_118 rfl (fun r15 D15 P15 q15 => ?_)
    refine PG_unswap ?_
    obtain ⟨rfl, hR15⟩ := q15
    refine pq_lcmp (q := 122) C dL_law_121 rfl ?_
    refine pq_if_ne (q := 125) (tgt := 129) C dL_law_122 (by decide) rfl (fun c122_16 => False.elim (c122_16 ((lg_cmp_eq _ _).mpr (rfl)))) (fun _ => ?_)
    refine pq_iconst (q := 126) (v := 1) C dL_law_125 rfl (by decide) ?_
    refine pq_goto (tgt := 130) C dL_law_126 (by decide) ?_
    refine pq_istore_n (q := 131) C dL_law_130 rfl rfl (Nat.le_of_ble_eq_true rfl) rfl ?_
    exact PG_widen (by omega) (by omega) (PG_le (kk (drw xs L (2 * k + 1)) Ea D13 D15 P13 P15 hdy hR13 hR15 b1) ⟨Or.inr rfl, Or.inr rfl, Or.inr rfl, Or.inr rfl, Or.inr rfl, Or.inl rfl, Or.inr rfl, Or.inl rfl, trivial⟩)
set_option maxRecDepth 100000 in
set_option maxHeartbeats 4000000 in
theorem law_B {l : Launch} {K : KT} {X : XT} {b : Nat → Nat} {sb L : Nat} {xs : Nat → Int32} (H0 : LW l K X b sb L xs) {Q : State → Prop} {M D E : DT} {P R : PT} {ce sl W V k : Nat} (hce : ce + 5000 ≤ 690320) (hsl : sl + 30000 ≤ 7030508) (hW : W + 300000 < 2 ^ 29) (hV : V + 300000 < 2 ^ 29) (h : RI D P M W) (g : RI E R M W) (hj : JM M V) (hk : k < 40) {y : Nat} (hy : y < 2 ^ 31) (kk : ∀ (E' : DT) (R' : PT), RI E' R' M W → PG K (AL K) (F2 X b D P E' R') Q (ce + 3300) (sl + 19800) 164 [some (.ref sb), some (.ref (X.2.2 0)), some (.ref (b 0)), some (.int 1), some (.int (nI k)), none, some (.int (nI y)), none] []) : PG K (AL K) (F2 X b D P E R) Q (ce) (sl) 131 [some (.ref sb), some (.ref (X.2.2 0)), some (.ref (b 0)), some (.int 1), some (.int (nI k)), none, some (.int (nI y)), none] [] := by
  have L0 := H0.1
  obtain ⟨⟨hKl, hKR, C, C2, Z, hNC, hA1, hA2, hap, hap2, hfl⟩, hX, hbl, hL⟩ := id H0
  have hbA : ¬ AL K sb := fun z => absurd hbl (Nat.not_lt.mpr z)
  refine pq_iload (q := 133) C dL_law_131 rfl rfl ?_
  refine pq_bipush (q := 135) (v := 8) C dL_law_133 rfl (by decide) ?_
  refine pq_iremN (q := 136) (a := k) (b := 8) C rfl rfl (by omega) (by decide) (by decide) dL_law_135 rfl ?_
  refine pq_iconst (q := 137) (v := 3) C dL_law_136 rfl (by decide) ?_
  refine pq_icmp_ne (q := 140) (tgt := 164) C dL_law_137 (by decide) rfl (fun c137_17 => ?_) (fun c137_17 => ?_)
  ·
    exact PG_widen (by omega) (by omega) (kk E R g)
  ·
    refine pq_iload_n (q := 141) C dL_law_140 rfl rfl rfl ?_
    refine pq_if_eq (q := 144) (tgt := 162) C dL_law_141 (by decide) rfl (fun c141_18 => False.elim (absurd c141_18 (by decide))) (fun _ => ?_)
    refine pq_aload_n (q := 145) C dL_law_144 rfl rfl rfl ?_
    refine PG_swap ?_
    refine pq_callMi (q := 148) (rest := []) (X := mv X b) (b := X.2.2) C2 Z hNC hA2 hap2 hKl (c_L_errors l (mv X b) E R hfl M (W) g (by omega)) tw_353 mm_L_errors ⟨rfl, rfl⟩ (by rw [hKR]; exact ⟨Nat.le_of_ble_eq_true rfl, Nat.le_of_ble_eq_true rfl⟩) (by rw [hKR]; show _ ≤ 690320 ∧ _ ≤ 7030508; omega) rfl rfl rfl (Nat.le_of_ble_eq_true rfl) dL_law_145 rfl (fun r19 D19 P19 q19 => ?_)
    refine PG_unswap ?_
    obtain ⟨rfl, hR19⟩ := q19
    refine pq_if_eq (q := 151) (tgt := 162) C dL_law_148 (by decide) rfl (fun c148_20 => False.elim (absurd c148_20 (by decide))) (fun _ => ?_)
    refine pq_aload_n (q := 152) C dL_law_151 rfl rfl rfl ?_
    refine PG_swap ?_
    refine pq_callMi (q := 155) (rest := []) (X := mv X b) (b := X.2.2) C2 Z hNC hA2 hap2 hKl (c_L_kept l (mv X b) D19 P19 hfl M (W) hR19 (by omega) V hj.1 (by omega)) tw_890 mm_L_kept ⟨rfl, rfl⟩ (by rw [hKR]; exact ⟨Nat.le_of_ble_eq_true rfl, Nat.le_of_ble_eq_true rfl⟩) (by rw [hKR]; show _ ≤ 690320 ∧ _ ≤ 7030508; omega) rfl rfl rfl (Nat.le_of_ble_eq_true rfl) dL_law_152 rfl (fun r21 D21 P21 q21 => ?_)
    refine PG_unswap ?_
    obtain ⟨rfl, hR21⟩ := q21
    refine pq_if_eq (q := 158) (tgt := 162) C dL_law_155 (by decide) rfl (fun c155_22 => False.elim (absurd c155_22 (by decide))) (fun _ => ?_)
    refine pq_iconst (q := 159) (v := 1) C dL_law_158 rfl (by decide) ?_
    refine pq_goto (tgt := 163) C dL_law_159 (by decide) ?_
    refine pq_istore_n (q := 164) C dL_law_163 rfl rfl (Nat.le_of_ble_eq_true rfl) rfl ?_
    exact PG_widen (by omega) (by omega) (kk D21 P21 hR21)
set_option maxRecDepth 100000 in
set_option maxHeartbeats 4000000 in
theorem law_R {l : Launch} {K : KT} {X : XT} {b : Nat → Nat} {sb L : Nat} {xs : Nat → Int32} (H0 : LW l K X b sb L xs) {Q : State → Prop} {R0 T0 : Nat → Int32} {t0 : Int32} {ce sl W V k y : Nat} (hce : ce + 100 ≤ 690320) (hsl : sl + 600 ≤ 7030508) (hW : W + 30000 < 2 ^ 29) (hJ : JJ R0 V) (kk : ∀ (M' D' E' : DT) (P' R' : PT), RI D' P' M' (W + 650) → RI E' R' M' (W + 650) → JM M' V → PG K (AL K) (F2 X b D' P' E' R') Q (ce + 10) (sl + 60) 241 [some (.ref sb), some (.ref (X.2.2 0)), some (.ref (b 0)), some (.int 1), some (.int (nI k)), none, some (.int (nI y)), none] []) : ∀ (j i : Nat) (N1 N2 D E : DT) (P R : PT), i + j = 5 → KP R0 T0 t0 i N1 → KP R0 T0 t0 i N2 → RI D P N1 (W + 130 * i) → RI E R N2 (W + 130 * i) → PG K (AL K) (F2 X b D P E R) Q (ce + 2 * i) (sl + 12 * i) 207 [some (.ref sb), some (.ref (X.2.2 0)), some (.ref (b 0)), some (.int 1), some (.int (nI k)), none, some (.int (nI y)), some (.int (nI i))] [] := by
  have L0 := H0.1
  obtain ⟨⟨hKl, hKR, C, C2, Z, hNC, hA1, hA2, hap, hap2, hfl⟩, hX, hbl, hL⟩ := id H0
  have hbA : ¬ AL K sb := fun z => absurd hbl (Nat.not_lt.mpr z)
  intro j
  induction j with
  | zero =>
    intro i N1 N2 D E P R hij k1 k2 h g
    have hi : i = 5 := by omega
    subst hi
    refine pq_iload (q := 209) C dL_law_207 rfl rfl ?_
    refine pq_iconst (q := 210) (v := 5) C dL_law_209 rfl (by decide) ?_
    refine pq_icmp_ge (q := 213) (tgt := 241) C dL_law_210 (by decide) rfl (fun _ => ?_) (fun c210_23 => False.elim (c210_23 (Int32.le_refl _)))
    exact PG_widen (by omega) (by omega) (PG_le (kk N1 D E P R h (KP_RI k1 k2 g) (KP_JM k1 hJ)) ⟨Or.inr rfl, Or.inr rfl, Or.inr rfl, Or.inr rfl, Or.inr rfl, Or.inl rfl, Or.inr rfl, Or.inl rfl, trivial⟩)
  | succ j ih =>
    intro i N1 N2 D E P R hij k1 k2 h g
    refine pq_iload (q := 209) C dL_law_207 rfl rfl ?_
    refine pq_iconst (q := 210) (v := 5) C dL_law_209 rfl (by decide) ?_
    refine pq_icmp_ge (q := 213) (tgt := 241) C dL_law_210 (by decide) rfl (fun c210_24 => False.elim (absurd c210_24 (fun z => absurd ((nI_leI (a := 5) (by decide) (by omega)).mp z) (by omega)))) (fun _ => ?_)
    refine pq_iload_n (q := 214) C dL_law_213 rfl rfl rfl ?_
    refine pq_if_eq (q := 217) (tgt := 241) C dL_law_214 (by decide) rfl (fun c214_25 => False.elim (absurd c214_25 (by decide))) (fun _ => ?_)
    refine pq_aload_n (q := 218) C dL_law_217 rfl rfl rfl ?_
    refine pq_callLl (q := 221) (rest := []) C Z hNC hA1 hap hKl (c_L_restore l X D P hfl _ (W + 130 * i) h (by omega)) tw_268 mw_L_restore ⟨rfl, rfl⟩ (by rw [hKR]; exact ⟨Nat.le_of_ble_eq_true rfl, Nat.le_of_ble_eq_true rfl⟩) (by rw [hKR]; show _ ≤ 690320 ∧ _ ≤ 7030508; omega) rfl rfl rfl (Nat.le_of_ble_eq_true rfl) dL_law_218 rfl (fun r26 D26 P26 q26 => ?_)
    obtain ⟨e26, hR26⟩ := QE.ok q26 (if_neg (by rw [k1.1.2.1]; decide))
    obtain rfl : r26 = (nI (tk R0)).toInt64 := e26.trans (by rw [tk_cong (fun z hz => k1.1.2.2.1 z (by omega))])
    obtain ⟨N26, k26, hN26⟩ := rest_KP k1 (by omega) hR26
    refine pq_aload_n (q := 222) C dL_law_221 rfl rfl rfl ?_
    refine PG_swap ?_
    refine pq_callLl (q := 225) (rest := [.long ((nI (tk R0)).toInt64)]) (X := mv X b) (b := X.2.2) C2 Z hNC hA2 hap2 hKl (c_L_restore l (mv X b) E R hfl _ (W + 130 * i) g (by omega)) tw_268 mw_L_restore ⟨rfl, rfl⟩ (by rw [hKR]; exact ⟨Nat.le_of_ble_eq_true rfl, Nat.le_of_ble_eq_true rfl⟩) (by rw [hKR]; show _ ≤ 690320 ∧ _ ≤ 7030508; omega) rfl rfl rfl (Nat.le_of_ble_eq_true rfl) dL_law_222 rfl (fun r27 D27 P27 q27 => ?_)
    refine PG_unswap ?_
    obtain ⟨e27, hR27⟩ := QE.ok q27 (if_neg (by rw [k2.1.2.1]; decide))
    obtain rfl : r27 = (nI (tk R0)).toInt64 := e27.trans (by rw [tk_cong (fun z hz => k2.1.2.2.1 z (by omega))])
    obtain ⟨N27, k27, hN27⟩ := rest_KP k2 (by omega) hR27
    refine pq_lcmp (q := 226) C dL_law_225 rfl ?_
    refine pq_if_ne (q := 229) (tgt := 233) C dL_law_226 (by decide) rfl (fun c226_28 => False.elim (c226_28 ((lg_cmp_eq _ _).mpr (rfl)))) (fun _ => ?_)
    refine pq_iconst (q := 230) (v := 1) C dL_law_229 rfl (by decide) ?_
    refine pq_goto (tgt := 234) C dL_law_230 (by decide) ?_
    refine pq_istore_n (q := 235) C dL_law_234 rfl rfl (Nat.le_of_ble_eq_true rfl) rfl ?_
    refine pq_iinc (q := 238) (v := nI (i + 1)) C dL_law_235 rfl rfl (nI_add _ _) rfl ?_
    refine pq_goto (tgt := 207) C dL_law_238 (by decide) ?_
    exact PG_widen (by omega) (by omega) (ih (i + 1) N26 N27 D26 D27 P26 P27 (by omega) k26 k27 hN26 hN27)
set_option maxRecDepth 100000 in
set_option maxHeartbeats 4000000 in
theorem law_C {l : Launch} {K : KT} {X : XT} {b : Nat → Nat} {sb L : Nat} {xs : Nat → Int32} (H0 : LW l K X b sb L xs) {Q : State → Prop} {M D E : DT} {P R : PT} {ce sl W V k : Nat} (hce : ce + 5000 ≤ 690320) (hsl : sl + 30000 ≤ 7030508) (hW : W + 300000 < 2 ^ 29) (hV : V + 300000 < 2 ^ 29) (h : RI D P M W) (g : RI E R M W) (hj : JM M V) (hk : k < 40) {y : Nat} (hy : y < 2 ^ 31) (kk : ∀ (M' D' E' : DT) (P' R' : PT), RI D' P' M' (W + 30000) → RI E' R' M' (W + 30000) → JM M' V → PG K (AL K) (F2 X b D' P' E' R') Q (ce + 720) (sl + 4320) 241 [some (.ref sb), some (.ref (X.2.2 0)), some (.ref (b 0)), some (.int 1), some (.int (nI k)), none, some (.int (nI y)), none] []) : PG K (AL K) (F2 X b D P E R) Q (ce) (sl) 164 [some (.ref sb), some (.ref (X.2.2 0)), some (.ref (b 0)), some (.int 1), some (.int (nI k)), none, some (.int (nI y)), none] [] := by
  have L0 := H0.1
  obtain ⟨⟨hKl, hKR, C, C2, Z, hNC, hA1, hA2, hap, hap2, hfl⟩, hX, hbl, hL⟩ := id H0
  have hbA : ¬ AL K sb := fun z => absurd hbl (Nat.not_lt.mpr z)
  refine pq_iload (q := 166) C dL_law_164 rfl rfl ?_
  refine pq_bipush (q := 168) (v := 13) C dL_law_166 rfl (by decide) ?_
  refine pq_iremN (q := 169) (a := k) (b := 13) C rfl rfl (by omega) (by decide) (by decide) dL_law_168 rfl ?_
  refine pq_bipush (q := 171) (v := 12) C dL_law_169 rfl (by decide) ?_
  refine pq_icmp_ne (q := 174) (tgt := 241) C dL_law_171 (by decide) rfl (fun c171_29 => ?_) (fun c171_29 => ?_)
  ·
    exact PG_widen (by omega) (by omega) (kk M D E P R (RI_W h (by omega)) (RI_W g (by omega)) hj)
  ·
    refine pq_iload_n (q := 175) C dL_law_174 rfl rfl rfl ?_
    refine pq_if_eq (q := 178) (tgt := 202) C dL_law_175 (by decide) rfl (fun c175_30 => False.elim (absurd c175_30 (by decide))) (fun _ => ?_)
    refine pq_aload_n (q := 179) C dL_law_178 rfl rfl rfl ?_
    refine pq_iload (q := 181) C dL_law_179 rfl rfl ?_
    refine PG_swap ?_
    refine pq_callMi (q := 184) (rest := []) (X := mv X b) (b := X.2.2) C2 Z hNC hA2 hap2 hKl (c_L_follows l (mv X b) E R hfl M W g (by omega) V y hj.1 hy) tw_934 mm_L_follows ⟨rfl, rfl⟩ (by rw [hKR]; exact ⟨Nat.le_of_ble_eq_true rfl, Nat.le_of_ble_eq_true rfl⟩) (by rw [hKR]; show _ ≤ 690320 ∧ _ ≤ 7030508; omega) rfl rfl rfl (Nat.le_of_ble_eq_true rfl) dL_law_181 rfl (fun r31 D31 P31 q31 => ?_)
    refine PG_unswap ?_
    obtain ⟨rfl, N, hFN, hR31⟩ := q31
    refine pq_if_eq (q := 187) (tgt := 202) C dL_law_184 (by decide) rfl (fun c184_32 => False.elim (absurd c184_32 (by decide))) (fun _ => ?_)
    refine pq_aload_n (q := 188) C dL_law_187 rfl rfl rfl ?_
    refine pq_callVi (q := 191) (rest := []) C hA1 hap hKl (c_X6_keep l X D P M W h (by omega)) tw_226 (show kd 0 = 6 from rfl) (by decide) rfl mm_X6_keep ⟨rfl, rfl⟩ (by rw [hKR]; exact ⟨Nat.le_of_ble_eq_true rfl, Nat.le_of_ble_eq_true rfl⟩) (by rw [hKR]; show _ ≤ 690320 ∧ _ ≤ 7030508; omega) rfl rfl rfl (Nat.le_of_ble_eq_true rfl) dL_law_188 rfl (fun r33 D33 P33 q33 => ?_)
    obtain ⟨rfl, hR33, -⟩ := q33
    have hFk := keep_FI hR33
    refine pq_aload_n (q := 192) C dL_law_191 rfl rfl rfl ?_
    refine pq_callVi (q := 195) (rest := [.int (nI (tk (M 7)))]) C hA1 hap hKl (c_X6_rows l X D33 P33 _ (W + 130) hR33) tw_259 (show kd 0 = 6 from rfl) (by decide) rfl mm_X6_rows ⟨rfl, rfl⟩ (by rw [hKR]; exact ⟨Nat.le_of_ble_eq_true rfl, Nat.le_of_ble_eq_true rfl⟩) (by rw [hKR]; show _ ≤ 690320 ∧ _ ≤ 7030508; omega) rfl rfl rfl (Nat.le_of_ble_eq_true rfl) dL_law_192 rfl (fun r34 D34 P34 q34 => ?_)
    obtain ⟨rfl, rfl, rfl⟩ := q34
    refine pq_icmp_ne (q := 198) (tgt := 202) C dL_law_195 (by decide) rfl (fun c195_35 => False.elim (c195_35 (by rw [hFk.1]))) (fun _ => ?_)
    refine pq_iconst (q := 199) (v := 1) C dL_law_198 rfl (by decide) ?_
    refine pq_goto (tgt := 203) C dL_law_199 (by decide) ?_
    refine pq_istore_n (q := 204) C dL_law_203 rfl rfl (Nat.le_of_ble_eq_true rfl) rfl ?_
    refine pq_iconst (q := 205) (v := 0) C dL_law_204 rfl (by decide) ?_
    refine PG_st (st' := [.int (nI 0)]) rfl ?_
    refine pq_istore (q := 207) C dL_law_205 rfl (Nat.le_of_ble_eq_true rfl) rfl ?_
    exact PG_widen (by omega) (by omega) (PG_le (law_R H0 (k := k) (y := y) (ce := ce + 700) (sl := sl + 4200) (W := W + 20000) (V := V) (by omega) (by omega) (by omega) hj.1 (fun M2 D2 E2 P2 R2 a c d => PG_widen (by omega) (by omega) (kk M2 D2 E2 P2 R2 (RI_W a (by omega)) (RI_W c (by omega)) d)) 5 0 _ _ D33 D31 P33 P31 rfl (KP_0 hFk) (KP_0 hFN) (RI_W hR33 (by omega)) (RI_W hR31 (by omega))) ⟨Or.inr rfl, Or.inr rfl, Or.inr rfl, Or.inr rfl, Or.inr rfl, Or.inl rfl, Or.inr rfl, Or.inr rfl, trivial⟩)
set_option maxRecDepth 100000 in
set_option maxHeartbeats 4000000 in
theorem law_D {l : Launch} {K : KT} {X : XT} {b : Nat → Nat} {sb L : Nat} {xs : Nat → Int32} (H0 : LW l K X b sb L xs) {Q : State → Prop} {M D E : DT} {P R : PT} {ce sl W V k : Nat} (hce : ce + 5000 ≤ 690320) (hsl : sl + 30000 ≤ 7030508) (hW : W + 300000 < 2 ^ 29) (hV : V + 300000 < 2 ^ 29) (h : RI D P M W) (g : RI E R M W) (hj : JM M V) (hk : k < 40) {y : Nat} (hy : y < 2 ^ 31) (kk : ∀ (D' E' : DT) (P' R' : PT), RI D' P' M (W + 130) → RI E' R' M (W + 130) → PG K (AL K) (F2 X b D' P' E' R') Q (ce + 360) (sl + 2160) 269 [some (.ref sb), some (.ref (X.2.2 0)), some (.ref (b 0)), some (.int 1), some (.int (nI k)), none, some (.int (nI y)), none] []) : PG K (AL K) (F2 X b D P E R) Q (ce) (sl) 241 [some (.ref sb), some (.ref (X.2.2 0)), some (.ref (b 0)), some (.int 1), some (.int (nI k)), none, some (.int (nI y)), none] [] := by
  have L0 := H0.1
  obtain ⟨⟨hKl, hKR, C, C2, Z, hNC, hA1, hA2, hap, hap2, hfl⟩, hX, hbl, hL⟩ := id H0
  have hbA : ¬ AL K sb := fun z => absurd hbl (Nat.not_lt.mpr z)
  refine pq_iload_n (q := 242) C dL_law_241 rfl rfl rfl ?_
  refine pq_if_eq (q := 245) (tgt := 267) C dL_law_242 (by decide) rfl (fun c242_36 => False.elim (absurd c242_36 (by decide))) (fun _ => ?_)
  refine pq_iload (q := 247) C dL_law_245 rfl rfl ?_
  refine pq_bipush (q := 249) (v := 10) C dL_law_247 rfl (by decide) ?_
  refine pq_iremN (q := 250) (a := k) (b := 10) C rfl rfl (by omega) (by decide) (by decide) dL_law_249 rfl ?_
  refine pq_if_gt (q := 253) (tgt := 263) C dL_law_250 (by decide) rfl (fun c250_37 => ?_) (fun c250_37 => ?_)
  ·
    refine pq_iconst (q := 264) (v := 1) C dL_law_263 rfl (by decide) ?_
    refine pq_goto (tgt := 268) C dL_law_264 (by decide) ?_
    refine pq_istore_n (q := 269) C dL_law_268 rfl rfl (Nat.le_of_ble_eq_true rfl) rfl ?_
    exact PG_widen (by omega) (by omega) (kk D E P R (RI_W h (by omega)) (RI_W g (by omega)))
  ·
    refine pq_aload_n (q := 254) C dL_law_253 rfl rfl rfl ?_
    refine pq_aload_n (q := 255) C dL_law_254 rfl rfl rfl ?_
    refine pq_iload (q := 257) C dL_law_255 rfl rfl ?_
    refine pq_callA (q := 260) (rest := []) (x := y) L0 h g (W := W) (by omega) (by omega) tw_948 (by rw [hKR]; exact ⟨Nat.le_of_ble_eq_true rfl, Nat.le_of_ble_eq_true rfl⟩) (by rw [hKR]; show _ ≤ 690320 ∧ _ ≤ 7030508; omega) rfl rfl (Nat.le_of_ble_eq_true rfl) dL_law_257 rfl (fun D38 P38 E38 R38 hp38 hq38 => ?_)
    refine pq_if_eq (q := 263) (tgt := 267) C dL_law_260 (by decide) rfl (fun c260_39 => False.elim (absurd c260_39 (by decide))) (fun _ => ?_)
    refine pq_iconst (q := 264) (v := 1) C dL_law_263 rfl (by decide) ?_
    refine pq_goto (tgt := 268) C dL_law_264 (by decide) ?_
    refine pq_istore_n (q := 269) C dL_law_268 rfl rfl (Nat.le_of_ble_eq_true rfl) rfl ?_
    exact PG_widen (by omega) (by omega) (kk D38 E38 P38 R38 (RI_W hp38 (by omega)) (RI_W hq38 (by omega)))
set_option maxRecDepth 100000 in
set_option maxHeartbeats 4000000 in
theorem law_loop2 {l : Launch} {K : KT} {X : XT} {b : Nat → Nat} {sb L : Nat} {xs : Nat → Int32} (H0 : LW l K X b sb L xs) {Q : State → Prop} (fin : ∀ (D E : DT) (P R : PT), PG K (AL K) (F2 X b D P E R) Q (690320) (7030508) 295 [none, none, none, none, none, none, none, none] [.int 1]) : ∀ (n k : Nat) (M D E : DT) (P R : PT), k + n = 40 → RI D P M (300000 * k + 1000) → RI E R M (300000 * k + 1000) → JM M (20000 * k) → PG K (AL K) (F2 X b D P E R) Q (5000 + 4800 * k) (40000 + 28800 * k) 52 [some (.ref sb), some (.ref (X.2.2 0)), some (.ref (b 0)), some (.int 1), some (.int (nI k)), none, none, none] [] := by
  have L0 := H0.1
  obtain ⟨⟨hKl, hKR, C, C2, Z, hNC, hA1, hA2, hap, hap2, hfl⟩, hX, hbl, hL⟩ := id H0
  have hbA : ¬ AL K sb := fun z => absurd hbl (Nat.not_lt.mpr z)
  intro n
  induction n with
  | zero =>
    intro k M D E P R hkn h g hj
    have hk40 : k = 40 := by omega
    subst hk40
    refine pq_iload (q := 54) C dL_law_52 rfl rfl ?_
    refine pq_bipush (q := 56) (v := 40) C dL_law_54 rfl (by decide) ?_
    refine pq_icmp_ge (q := 59) (tgt := 275) C dL_law_56 (by decide) rfl (fun _ => ?_) (fun c56_40 => False.elim (c56_40 (Int32.le_refl _)))
    refine pq_iload_n (q := 276) C dL_law_275 rfl rfl rfl ?_
    refine pq_if_eq (q := 279) (tgt := 294) C dL_law_276 (by decide) rfl (fun c276_41 => False.elim (absurd c276_41 (by decide))) (fun _ => ?_)
    refine pq_aload_n (q := 280) C dL_law_279 rfl rfl rfl ?_
    refine pq_aload_n (q := 281) C dL_law_280 rfl rfl rfl ?_
    refine pq_sipush (q := 284) (v := 11113) C dL_law_281 rfl (by decide) ?_
    refine PG_st (st' := [.int (nI 11113), .ref (b 0), .ref (X.2.2 0)]) rfl ?_
    refine pq_callA (q := 287) (rest := []) (x := 11113) L0 h g (W := 300000 * 40 + 1000) (by omega) (by omega) tw_948 (by rw [hKR]; exact ⟨Nat.le_of_ble_eq_true rfl, Nat.le_of_ble_eq_true rfl⟩) (by rw [hKR]; show _ ≤ 690320 ∧ _ ≤ 7030508; omega) rfl rfl (Nat.le_of_ble_eq_true rfl) dL_law_284 rfl (fun D42 P42 E42 R42 hp42 hq42 => ?_)
    refine pq_if_eq (q := 290) (tgt := 294) C dL_law_287 (by decide) rfl (fun c287_43 => False.elim (absurd c287_43 (by decide))) (fun _ => ?_)
    refine pq_iconst (q := 291) (v := 1) C dL_law_290 rfl (by decide) ?_
    refine pq_goto (tgt := 295) C dL_law_291 (by decide) ?_
    exact PG_widen (by omega) (by omega) (PG_le (fin D42 E42 P42 R42) ⟨Or.inl rfl, Or.inl rfl, Or.inl rfl, Or.inl rfl, Or.inl rfl, Or.inl rfl, Or.inl rfl, Or.inl rfl, trivial⟩)
  | succ n ih =>
    intro k M D E P R hkn h g hj
    have hk : k < 40 := by omega
    refine pq_iload (q := 54) C dL_law_52 rfl rfl ?_
    refine pq_bipush (q := 56) (v := 40) C dL_law_54 rfl (by decide) ?_
    refine pq_icmp_ge (q := 59) (tgt := 275) C dL_law_56 (by decide) rfl (fun c56_44 => False.elim (absurd c56_44 (fun z => absurd ((nI_leI (a := 40) (by decide) (by omega)).mp z) (by omega)))) (fun _ => ?_)
    refine law_A H0 (by omega) (by omega) (by omega) (by omega) h g hj hk (fun y M1 D1 E1 P1 R1 hy h1 g1 j1 => ?_)
    refine law_B H0 (by omega) (by omega) (by omega) (by omega) h1 g1 j1 hk hy (fun E2 R2 g2 => ?_)
    refine law_C H0 (by omega) (by omega) (by omega) (by omega) h1 g2 j1 hk hy (fun M3 D3 E3 P3 R3 h3 g3 j3 => ?_)
    refine law_D H0 (by omega) (by omega) (by omega) (by omega) h3 g3 j3 hk hy (fun D4 E4 P4 R4 h4 g4 => ?_)
    refine pq_iinc (q := 272) (v := nI (k + 1)) C dL_law_269 rfl rfl (nI_add _ _) rfl ?_
    refine pq_goto (tgt := 52) C dL_law_272 (by decide) ?_
    exact PG_widen (by omega) (by omega) (PG_le (ih (k + 1) M3 D4 E4 P4 R4 (by omega) (RI_W h4 (by omega)) (RI_W g4 (by omega)) (JM_V j3 (by omega))) ⟨Or.inr rfl, Or.inr rfl, Or.inr rfl, Or.inr rfl, Or.inr rfl, Or.inl rfl, Or.inl rfl, Or.inl rfl, trivial⟩)
set_option maxRecDepth 100000 in
set_option maxHeartbeats 4000000 in
theorem law_all {l : Launch} {K : KT} {X : XT} {b : Nat → Nat} {sb L : Nat} {xs : Nat → Int32} (H0 : LW l K X b sb L xs) {Q : State → Prop} (fin : ∀ (D E : DT) (P R : PT), PG K (AL K) (F2 X b D P E R) Q (690320) (7030508) 295 [none, none, none, none, none, none, none, none] [.int 1]) {D E : DT} {P R : PT} (h : RI D P D0 0) (g : RI E R D0 0) : PG K (AL K) (F2 X b D P E R) Q (1000) (10000) 16 [some (.ref sb), some (.ref (X.2.2 0)), some (.ref (b 0)), none, none, none, none, none] [] := by
  have L0 := H0.1
  obtain ⟨⟨hKl, hKR, C, C2, Z, hNC, hA1, hA2, hap, hap2, hfl⟩, hX, hbl, hL⟩ := id H0
  have hbA : ¬ AL K sb := fun z => absurd hbl (Nat.not_lt.mpr z)
  have hj := JM_0
  obtain ⟨M, hM⟩ : ∃ M, M = D0 := ⟨_, rfl⟩
  rw [← hM] at h g hj
  obtain ⟨V, hV⟩ : ∃ V, V = 0 := ⟨_, rfl⟩
  rw [← hV] at hj
  refine pq_aload_n (q := 17) C dL_law_16 rfl rfl rfl ?_
  refine pq_aload_n (q := 18) C dL_law_17 rfl rfl rfl ?_
  refine pq_aload_n (q := 19) C dL_law_18 rfl rfl rfl ?_
  refine pq_iconst (q := 20) (v := 0) C dL_law_19 rfl (by decide) ?_
  refine PG_st (st' := [.int (nI 0), .ref sb, .ref (b 0), .ref (X.2.2 0)]) rfl ?_
  refine pq_callD (q := 23) (rest := [.ref (b 0), .ref (X.2.2 0)]) (j := 0) C hX hbl hbA (fun _ z => z) hL (by omega) tw_263 (by rw [hKR]; exact ⟨Nat.le_of_ble_eq_true rfl, Nat.le_of_ble_eq_true rfl⟩) (by rw [hKR]; show _ ≤ 690320 ∧ _ ≤ 7030508; omega) rfl rfl (Nat.le_of_ble_eq_true rfl) dL_law_20 rfl ?_
  have hd_45 := drw_lt xs L 0
  refine pq_callA (q := 26) (rest := []) (x := (drw xs L 0)) L0 h g (W := 0) (by omega) (by omega) tw_948 (by rw [hKR]; exact ⟨Nat.le_of_ble_eq_true rfl, Nat.le_of_ble_eq_true rfl⟩) (by rw [hKR]; show _ ≤ 690320 ∧ _ ≤ 7030508; omega) rfl rfl (Nat.le_of_ble_eq_true rfl) dL_law_23 rfl (fun D46 P46 E46 R46 hp46 hq46 => ?_)
  refine pq_if_eq (q := 29) (tgt := 47) C dL_law_26 (by decide) rfl (fun c26_47 => False.elim (absurd c26_47 (by decide))) (fun _ => ?_)
  refine pq_aload_n (q := 30) C dL_law_29 rfl rfl rfl ?_
  refine pq_callMi (q := 33) (rest := []) C Z hNC hA1 hap hKl (c_L_errors l X D46 P46 hfl M (0 + 130) hp46 (by omega)) tw_353 mm_L_errors ⟨rfl, rfl⟩ (by rw [hKR]; exact ⟨Nat.le_of_ble_eq_true rfl, Nat.le_of_ble_eq_true rfl⟩) (by rw [hKR]; show _ ≤ 690320 ∧ _ ≤ 7030508; omega) rfl rfl rfl (Nat.le_of_ble_eq_true rfl) dL_law_30 rfl (fun r48 D48 P48 q48 => ?_)
  obtain ⟨rfl, hR48⟩ := q48
  refine pq_if_eq (q := 36) (tgt := 47) C dL_law_33 (by decide) rfl (fun c33_49 => False.elim (absurd c33_49 (by decide))) (fun _ => ?_)
  refine pq_aload_n (q := 37) C dL_law_36 rfl rfl rfl ?_
  refine pq_callMi (q := 40) (rest := []) C Z hNC hA1 hap hKl (c_L_kept l X D48 P48 hfl M (0 + 130) hR48 (by omega) V hj.1 (by omega)) tw_890 mm_L_kept ⟨rfl, rfl⟩ (by rw [hKR]; exact ⟨Nat.le_of_ble_eq_true rfl, Nat.le_of_ble_eq_true rfl⟩) (by rw [hKR]; show _ ≤ 690320 ∧ _ ≤ 7030508; omega) rfl rfl rfl (Nat.le_of_ble_eq_true rfl) dL_law_37 rfl (fun r50 D50 P50 q50 => ?_)
  obtain ⟨rfl, hR50⟩ := q50
  refine pq_if_eq (q := 43) (tgt := 47) C dL_law_40 (by decide) rfl (fun c40_51 => False.elim (absurd c40_51 (by decide))) (fun _ => ?_)
  refine pq_iconst (q := 44) (v := 1) C dL_law_43 rfl (by decide) ?_
  refine pq_goto (tgt := 48) C dL_law_44 (by decide) ?_
  refine pq_istore_n (q := 49) C dL_law_48 rfl rfl (Nat.le_of_ble_eq_true rfl) rfl ?_
  refine pq_iconst (q := 50) (v := 0) C dL_law_49 rfl (by decide) ?_
  refine PG_st (st' := [.int (nI 0)]) rfl ?_
  refine pq_istore (q := 52) C dL_law_50 rfl (Nat.le_of_ble_eq_true rfl) rfl ?_
  subst hV
  subst hM
  exact PG_widen (by omega) (by omega) (PG_le (law_loop2 H0 fin 40 0 _ D50 E46 P50 R46 rfl (RI_W hR50 (by omega)) (RI_W hq46 (by omega)) hj) ⟨Or.inr rfl, Or.inr rfl, Or.inr rfl, Or.inr rfl, Or.inr rfl, Or.inl rfl, Or.inl rfl, Or.inl rfl, trivial⟩)
