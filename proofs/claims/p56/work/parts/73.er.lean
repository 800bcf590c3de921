def inI (v a b : Int64) : Int32 := if a ≤ v ∧ v ≤ b then 1 else 0
theorem inI_1 {v a b : Int64} (h1 : a ≤ v) (h2 : v ≤ b) : inI v a b = 1 := if_pos ⟨h1, h2⟩
theorem inI_n {v a b : Int64} (h1 : a ≤ v) (h2 : v ≤ b) : ¬ inI v a b = 0 := by rw [inI_1 h1 h2]; decide
theorem lg_cmp_rf (x : Int64) : lg_cmp x x = 0 := (lg_cmp_eq x x).mpr rfl
theorem nI_pos0 {n : Nat} (hn : n < 2 ^ 31) (h : ¬ 0 < lg_cmp (nI n).toInt64 0) : n = 0 := by
  rcases Nat.eq_zero_or_pos n with z | z
  · exact z
  · exact absurd ((lg_cmp_gt _ _).mpr (l_lt.mpr ((nI_ltI (a := 0) (by omega) hn).mpr z))) h
set_option maxRecDepth 100000 in
set_option maxHeartbeats 4000000 in
theorem c_L_in (l : Launch) (X : XT) (D : DT) (P : PT) (v a b : Int64) : CG l X yL_in (.code yL_in cL_in 6 (some .boolean) :: AW) ({ frames := 0, cells := 0, slots := 0, locals := 0 } : Room) [.long v, .long a, .long b] (qI X (fun r D' P' => r = inI v a b ∧ D = D' ∧ P = P')) D P 0 0 := by
  refine cg_of (by decide +kernel) (Nat.le_of_ble_eq_true rfl) ?_
  intro K hKl hKR C
  refine PV_lv (lv' := [some (.long v), none, some (.long a), none, some (.long b), none]) rfl ?_
  refine pv_lload_n (q := 1) C dL_in_0 rfl rfl rfl ?_
  refine pv_lload_n (q := 2) C dL_in_1 rfl rfl rfl ?_
  refine pv_lcmp (q := 3) C dL_in_2 rfl ?_
  refine pv_if_lt (q := 6) (tgt := 17) C dL_in_3 (by decide) rfl (fun c3 => ?_) (fun c3 => ?_)
  ·
    refine pv_iconst (q := 18) (v := 0) C dL_in_17 rfl (by decide) ?_
    exact pv_zret C (by first | exact Or.inl rfl | exact Or.inr rfl) ⟨by unfold inI; rw [if_neg (fun z => Int64.not_le.mpr ((lg_cmp_lt _ _).mp c3) z.1)], rfl, rfl⟩ (by omega) (by omega) dL_in_18
  ·
    refine pv_lload_n (q := 7) C dL_in_6 rfl rfl rfl ?_
    refine pv_lload (q := 9) C dL_in_7 rfl rfl ?_
    refine pv_lcmp (q := 10) C dL_in_9 rfl ?_
    refine pv_if_gt (q := 13) (tgt := 17) C dL_in_10 (by decide) rfl (fun c10 => ?_) (fun c10 => ?_)
    ·
      refine pv_iconst (q := 18) (v := 0) C dL_in_17 rfl (by decide) ?_
      exact pv_zret C (by first | exact Or.inl rfl | exact Or.inr rfl) ⟨by unfold inI; rw [if_neg (fun z => Int64.not_le.mpr ((lg_cmp_gt _ _).mp c10) z.2)], rfl, rfl⟩ (by omega) (by omega) dL_in_18
    ·
      refine pv_iconst (q := 14) (v := 1) C dL_in_13 rfl (by decide) ?_
      refine pv_goto (tgt := 18) C dL_in_14 (by decide) ?_
      exact pv_zret C (by first | exact Or.inl rfl | exact Or.inr rfl) ⟨by unfold inI; rw [if_pos ⟨Int64.not_lt.mp (fun z => c3 ((lg_cmp_lt _ _).mpr z)), Int64.not_lt.mp (fun z => c10 ((lg_cmp_gt _ _).mpr z))⟩], rfl, rfl⟩ (by omega) (by omega) dL_in_18
set_option maxRecDepth 100000 in
set_option maxHeartbeats 4000000 in
theorem er_g {l : Launch} {K : KT} {X : XT} {w0 : Cond} {Q : State → Prop} {M : DT} {W : Nat} (hW : W + 200 < 2 ^ 29) (L : LK l K X cL_errors RL w0 6 (some .boolean) ({ frames := 10, cells := 1000, slots := 6000, locals := 360 } : Room)) {hsh : Int64} {v cb : Nat} (hv : v < 3) (hc : cb + 64 ≤ 1000) (k : ∀ (D : DT) (P : PT), RI D P M W → PV K X Q (cb + 64) (6 * (cb + 64)) 724 [some (.ref (X.2.2 0)), some (.long hsh), none, some (.int 1), some (.int (nI v)), none] [] D P) : ∀ (nn g : Nat) (D : DT) (P : PT), RI D P M W → 5 ≤ g + nn → g ≤ 4 → PV K X Q (cb + 16 * g) (6 * (cb + 16 * g)) 616 [some (.ref (X.2.2 0)), some (.long hsh), none, some (.int 1), some (.int (nI v)), some (.int (nI g))] [] D P := by
  obtain ⟨hKl, hKR, C, Z, hNC, hfl⟩ := id L
  intro nn
  induction nn with
  | zero =>
    intro g D P h hfu hg4
    exact absurd hfu (by omega)
  | succ nn ih =>
    intro g D P h hfu hg4
    refine pv_iload (q := 618) C dL_errors_616 rfl rfl ?_
    refine pv_iconst (q := 619) (v := 4) C dL_errors_618 rfl (by decide) ?_
    refine pv_icmp_ge (q := 622) (tgt := 724) C dL_errors_619 (by decide) rfl (fun cL => ?_) (fun cL => ?_)
    ·
      obtain rfl : g = 4 := by
        have := (nI_leI (a := 4) (b := g) (by decide) (by omega)).mp cL
        omega
      exact PV_widen (by omega) (by omega) (PV_le (k D P h) ⟨Or.inr rfl, Or.inr rfl, Or.inl rfl, Or.inr rfl, Or.inr rfl, Or.inl rfl, trivial⟩)
    ·
      have hg : g < 4 := by
        rcases Nat.lt_or_ge g 4 with z | z
        · exact z
        · exact absurd ((nI_leI (a := 4) (b := g) (by decide) (by omega)).mpr z) cL
      refine pv_iload_n (q := 623) C dL_errors_622 rfl rfl rfl ?_
      refine pv_if_eq (q := 626) (tgt := 724) C dL_errors_623 (by decide) rfl (fun c623_2 => absurd c623_2 (by decide)) (fun _ => ?_)
      refine pv_aload_n (q := 627) C dL_errors_626 rfl rfl rfl ?_
      refine pv_iload (q := 629) C dL_errors_627 rfl rfl ?_
      refine pv_iload (q := 631) C dL_errors_629 rfl rfl ?_
      refine pv_callLl (q := 634) (rest := []) C Z hNC hKl (c_L_countOf l X D P hfl M (W) h (nI v) (nI g)) tw_809 mw_L_countOf ⟨rfl, rfl⟩ (by rw [hKR]; exact ⟨Nat.le_of_ble_eq_true rfl, Nat.le_of_ble_eq_true rfl⟩) (by rw [hKR]; constructor <;> (dsimp only; omega)) rfl rfl rfl (Nat.le_of_ble_eq_true rfl) dL_errors_631 rfl (fun r3 D3 P3 q3 => ?_)
      obtain ⟨e3, hR3⟩ := q3
      obtain rfl : r3 = (((nI (VN (M 7) v g)) : Int32).toInt64) := e3.trans (by rw [wv_0 (kGr_0 hv hg), ix_n (by omega), ix_n (by omega)])
      refine pv_lconst (q := 635) (v := 0) C dL_errors_634 rfl (by decide) ?_
      refine pv_lcmp (q := 636) C dL_errors_635 rfl ?_
      refine pv_if_gt (q := 639) (tgt := 684) C dL_errors_636 (by decide) rfl (fun c => ?_) (fun c => ?_)
      ·
        refine pv_aload_n (q := 685) C dL_errors_684 rfl rfl rfl ?_
        refine pv_iload (q := 687) C dL_errors_685 rfl rfl ?_
        refine pv_iload (q := 689) C dL_errors_687 rfl rfl ?_
        refine pv_callLl (q := 692) (rest := []) C Z hNC hKl (c_L_tableCount l X D3 P3 hfl M (W) hR3 (nI v) (nI g)) tw_876 mw_L_tableCount ⟨rfl, rfl⟩ (by rw [hKR]; exact ⟨Nat.le_of_ble_eq_true rfl, Nat.le_of_ble_eq_true rfl⟩) (by rw [hKR]; constructor <;> (dsimp only; omega)) rfl rfl rfl (Nat.le_of_ble_eq_true rfl) dL_errors_689 rfl (fun r5 D5 P5 q5 => ?_)
        obtain ⟨e5, hR5⟩ := q5
        obtain rfl : r5 = (((nI (TN (M 7) v g)) : Int32).toInt64) := e5.trans (by rw [wv_0 (kGr_0 hv hg), ix_n (by omega), ix_n (by omega)])
        refine pv_lconst (q := 693) (v := 0) C dL_errors_692 rfl (by decide) ?_
        refine pv_lcmp (q := 694) C dL_errors_693 rfl ?_
        refine pv_if_gt (q := 697) (tgt := 712) C dL_errors_694 (by decide) rfl (fun c => ?_) (fun c => ?_)
        ·
          refine pv_iconst (q := 713) (v := 1) C dL_errors_712 rfl (by decide) ?_
          refine pv_goto (tgt := 717) C dL_errors_713 (by decide) ?_
          refine pv_istore_n (q := 718) C dL_errors_717 rfl rfl (Nat.le_of_ble_eq_true rfl) rfl ?_
          refine pv_iinc (q := 721) (v := nI (g + 1)) C dL_errors_718 rfl rfl (nI_add _ _) rfl ?_
          refine pv_goto (tgt := 616) C dL_errors_721 (by decide) ?_
          exact PV_widen (by omega) (by omega) (PV_le (ih (g + 1) D5 P5 hR5 (by omega) (by omega)) ⟨Or.inr rfl, Or.inr rfl, Or.inl rfl, Or.inr rfl, Or.inr rfl, Or.inr rfl, trivial⟩)
        ·
          have t0 := nI_pos0 (by have := TN_le (M 7) v g; omega) c
          refine pv_aload_n (q := 698) C dL_errors_697 rfl rfl rfl ?_
          refine pv_iload (q := 700) C dL_errors_698 rfl rfl ?_
          refine pv_iload (q := 702) C dL_errors_700 rfl rfl ?_
          refine pv_callLl (q := 705) (rest := []) C Z hNC hKl (c_L_tableMedian l X D5 P5 hfl M (W) hR5 (nI v) (nI g)) tw_883 mw_L_tableMedian ⟨rfl, rfl⟩ (by rw [hKR]; exact ⟨Nat.le_of_ble_eq_true rfl, Nat.le_of_ble_eq_true rfl⟩) (by rw [hKR]; constructor <;> (dsimp only; omega)) rfl rfl rfl (Nat.le_of_ble_eq_true rfl) dL_errors_702 rfl (fun r7 D7 P7 q7 => ?_)
          obtain ⟨e7, hR7⟩ := q7
          obtain rfl : r7 = (-9000000000000000003) := e7.trans (wv_k (k := 2) (kAt_2 hv hg t0) (by decide))
          refine pv_ldc2 (q := 708) C dL_errors_705 rfl tw_352 ?_
          refine pv_lcmp (q := 709) C dL_errors_708 rfl ?_
          refine pv_if_ne (q := 712) (tgt := 716) C dL_errors_709 (by decide) rfl (fun c709_8 => False.elim (c709_8 ((lg_cmp_eq _ _).mpr (rfl)))) (fun _ => ?_)
          refine pv_iconst (q := 713) (v := 1) C dL_errors_712 rfl (by decide) ?_
          refine pv_goto (tgt := 717) C dL_errors_713 (by decide) ?_
          refine pv_istore_n (q := 718) C dL_errors_717 rfl rfl (Nat.le_of_ble_eq_true rfl) rfl ?_
          refine pv_iinc (q := 721) (v := nI (g + 1)) C dL_errors_718 rfl rfl (nI_add _ _) rfl ?_
          refine pv_goto (tgt := 616) C dL_errors_721 (by decide) ?_
          exact PV_widen (by omega) (by omega) (PV_le (ih (g + 1) D7 P7 hR7 (by omega) (by omega)) ⟨Or.inr rfl, Or.inr rfl, Or.inl rfl, Or.inr rfl, Or.inr rfl, Or.inr rfl, trivial⟩)
      ·
        have e0 := nI_pos0 (by have := VN_le (M 7) v g; omega) c
        refine pv_aload_n (q := 640) C dL_errors_639 rfl rfl rfl ?_
        refine pv_iload (q := 642) C dL_errors_640 rfl rfl ?_
        refine pv_iload (q := 644) C dL_errors_642 rfl rfl ?_
        refine pv_callLl (q := 647) (rest := []) C Z hNC hKl (c_L_leastOf l X D3 P3 hfl M (W) hR3 (nI v) (nI g)) tw_851 mw_L_leastOf ⟨rfl, rfl⟩ (by rw [hKR]; exact ⟨Nat.le_of_ble_eq_true rfl, Nat.le_of_ble_eq_true rfl⟩) (by rw [hKR]; constructor <;> (dsimp only; omega)) rfl rfl rfl (Nat.le_of_ble_eq_true rfl) dL_errors_644 rfl (fun r9 D9 P9 q9 => ?_)
        obtain ⟨e9, hR9⟩ := q9
        obtain rfl : r9 = (-9000000000000000003) := e9.trans (wv_k (k := 2) (kAm_2 hv hg e0) (by decide))
        refine pv_ldc2 (q := 650) C dL_errors_647 rfl tw_352 ?_
        refine pv_lcmp (q := 651) C dL_errors_650 rfl ?_
        refine pv_if_ne (q := 654) (tgt := 716) C dL_errors_651 (by decide) rfl (fun c651_10 => False.elim (c651_10 ((lg_cmp_eq _ _).mpr (rfl)))) (fun _ => ?_)
        refine pv_aload_n (q := 655) C dL_errors_654 rfl rfl rfl ?_
        refine pv_iload (q := 657) C dL_errors_655 rfl rfl ?_
        refine pv_iload (q := 659) C dL_errors_657 rfl rfl ?_
        refine pv_callLl (q := 662) (rest := []) C Z hNC hKl (c_L_greatestOf l X D9 P9 hfl M (W) hR9 (nI v) (nI g)) tw_862 mw_L_greatestOf ⟨rfl, rfl⟩ (by rw [hKR]; exact ⟨Nat.le_of_ble_eq_true rfl, Nat.le_of_ble_eq_true rfl⟩) (by rw [hKR]; constructor <;> (dsimp only; omega)) rfl rfl rfl (Nat.le_of_ble_eq_true rfl) dL_errors_659 rfl (fun r11 D11 P11 q11 => ?_)
        obtain ⟨e11, hR11⟩ := q11
        obtain rfl : r11 = (-9000000000000000003) := e11.trans (wv_k (k := 2) (kAm_2 hv hg e0) (by decide))
        refine pv_ldc2 (q := 665) C dL_errors_662 rfl tw_352 ?_
        refine pv_lcmp (q := 666) C dL_errors_665 rfl ?_
        refine pv_if_ne (q := 669) (tgt := 716) C dL_errors_666 (by decide) rfl (fun c666_12 => False.elim (c666_12 ((lg_cmp_eq _ _).mpr (rfl)))) (fun _ => ?_)
        refine pv_aload_n (q := 670) C dL_errors_669 rfl rfl rfl ?_
        refine pv_iload (q := 672) C dL_errors_670 rfl rfl ?_
        refine pv_iload (q := 674) C dL_errors_672 rfl rfl ?_
        refine pv_callLl (q := 677) (rest := []) C Z hNC hKl (c_L_medianOf l X D11 P11 hfl M (W) hR11 (nI v) (nI g)) tw_869 mw_L_medianOf ⟨rfl, rfl⟩ (by rw [hKR]; exact ⟨Nat.le_of_ble_eq_true rfl, Nat.le_of_ble_eq_true rfl⟩) (by rw [hKR]; constructor <;> (dsimp only; omega)) rfl rfl rfl (Nat.le_of_ble_eq_true rfl) dL_errors_674 rfl (fun r13 D13 P13 q13 => ?_)
        obtain ⟨e13, hR13⟩ := q13
        obtain rfl : r13 = (-9000000000000000003) := e13.trans (wv_k (k := 2) (kAm_2 hv hg e0) (by decide))
        refine pv_ldc2 (q := 680) C dL_errors_677 rfl tw_352 ?_
        refine pv_lcmp (q := 681) C dL_errors_680 rfl ?_
        refine pv_if_ne (q := 684) (tgt := 716) C dL_errors_681 (by decide) rfl (fun c681_14 => False.elim (c681_14 ((lg_cmp_eq _ _).mpr (rfl)))) (fun _ => ?_)
        refine pv_aload_n (q := 685) C dL_errors_684 rfl rfl rfl ?_
        refine pv_iload (q := 687) C dL_errors_685 rfl rfl ?_
        refine pv_iload (q := 689) C dL_errors_687 rfl rfl ?_
        refine pv_callLl (q := 692) (rest := []) C Z hNC hKl (c_L_tableCount l X D13 P13 hfl M (W) hR13 (nI v) (nI g)) tw_876 mw_L_tableCount ⟨rfl, rfl⟩ (by rw [hKR]; exact ⟨Nat.le_of_ble_eq_true rfl, Nat.le_of_ble_eq_true rfl⟩) (by rw [hKR]; constructor <;> (dsimp only; omega)) rfl rfl rfl (Nat.le_of_ble_eq_true rfl) dL_errors_689 rfl (fun r15 D15 P15 q15 => ?_)
        obtain ⟨e15, hR15⟩ := q15
        obtain rfl : r15 = (((nI (TN (M 7) v g)) : Int32).toInt64) := e15.trans (by rw [wv_0 (kGr_0 hv hg), ix_n (by omega), ix_n (by omega)])
        refine pv_lconst (q := 693) (v := 0) C dL_errors_692 rfl (by decide) ?_
        refine pv_lcmp (q := 694) C dL_errors_693 rfl ?_
        refine pv_if_gt (q := 697) (tgt := 712) C dL_errors_694 (by decide) rfl (fun c => ?_) (fun c => ?_)
        ·
          refine pv_iconst (q := 713) (v := 1) C dL_errors_712 rfl (by decide) ?_
          refine pv_goto (tgt := 717) C dL_errors_713 (by decide) ?_
          refine pv_istore_n (q := 718) C dL_errors_717 rfl rfl (Nat.le_of_ble_eq_true rfl) rfl ?_
          refine pv_iinc (q := 721) (v := nI (g + 1)) C dL_errors_718 rfl rfl (nI_add _ _) rfl ?_
          refine pv_goto (tgt := 616) C dL_errors_721 (by decide) ?_
          exact PV_widen (by omega) (by omega) (PV_le (ih (g + 1) D15 P15 hR15 (by omega) (by omega)) ⟨Or.inr rfl, Or.inr rfl, Or.inl rfl, Or.inr rfl, Or.inr rfl, Or.inr rfl, trivial⟩)
        ·
          have t0 := nI_pos0 (by have := TN_le (M 7) v g; omega) c
          refine pv_aload_n (q := 698) C dL_errors_697 rfl rfl rfl ?_
          refine pv_iload (q := 700) C dL_errors_698 rfl rfl ?_
          refine pv_iload (q := 702) C dL_errors_700 rfl rfl ?_
          refine pv_callLl (q := 705) (rest := []) C Z hNC hKl (c_L_tableMedian l X D15 P15 hfl M (W) hR15 (nI v) (nI g)) tw_883 mw_L_tableMedian ⟨rfl, rfl⟩ (by rw [hKR]; exact ⟨Nat.le_of_ble_eq_true rfl, Nat.le_of_ble_eq_true rfl⟩) (by rw [hKR]; constructor <;> (dsimp only; omega)) rfl rfl rfl (Nat.le_of_ble_eq_true rfl) dL_errors_702 rfl (fun r17 D17 P17 q17 => ?_)
          obtain ⟨e17, hR17⟩ := q17
          obtain rfl : r17 = (-9000000000000000003) := e17.trans (wv_k (k := 2) (kAt_2 hv hg t0) (by decide))
          refine pv_ldc2 (q := 708) C dL_errors_705 rfl tw_352 ?_
          refine pv_lcmp (q := 709) C dL_errors_708 rfl ?_
          refine pv_if_ne (q := 712) (tgt := 716) C dL_errors_709 (by decide) rfl (fun c709_18 => False.elim (c709_18 ((lg_cmp_eq _ _).mpr (rfl)))) (fun _ => ?_)
          refine pv_iconst (q := 713) (v := 1) C dL_errors_712 rfl (by decide) ?_
          refine pv_goto (tgt := 717) C dL_errors_713 (by decide) ?_
          refine pv_istore_n (q := 718) C dL_errors_717 rfl rfl (Nat.le_of_ble_eq_true rfl) rfl ?_
          refine pv_iinc (q := 721) (v := nI (g + 1)) C dL_errors_718 rfl rfl (nI_add _ _) rfl ?_
          refine pv_goto (tgt := 616) C dL_errors_721 (by decide) ?_
          exact PV_widen (by omega) (by omega) (PV_le (ih (g + 1) D17 P17 hR17 (by omega) (by omega)) ⟨Or.inr rfl, Or.inr rfl, Or.inl rfl, Or.inr rfl, Or.inr rfl, Or.inr rfl, trivial⟩)
set_option maxRecDepth 100000 in
set_option maxHeartbeats 4000000 in
theorem er_v {l : Launch} {K : KT} {X : XT} {w0 : Cond} {Q : State → Prop} {M : DT} {W : Nat} (hW : W + 200 < 2 ^ 29) (L : LK l K X cL_errors RL w0 6 (some .boolean) ({ frames := 10, cells := 1000, slots := 6000, locals := 360 } : Room)) {hsh : Int64} {cb : Nat} (hc : cb + 210 ≤ 1000) (k : ∀ (D : DT) (P : PT), RI D P M W → PV K X Q (cb + 210) (6 * (cb + 210)) 730 [some (.ref (X.2.2 0)), some (.long hsh), none, some (.int 1), none, none] [] D P) : ∀ (nn v : Nat) (D : DT) (P : PT), RI D P M W → 4 ≤ v + nn → v ≤ 3 → PV K X Q (cb + 70 * v) (6 * (cb + 70 * v)) 552 [some (.ref (X.2.2 0)), some (.long hsh), none, some (.int 1), some (.int (nI v)), none] [] D P := by
  obtain ⟨hKl, hKR, C, Z, hNC, hfl⟩ := id L
  intro nn
  induction nn with
  | zero =>
    intro v D P h hfu hv4
    exact absurd hfu (by omega)
  | succ nn ih =>
    intro v D P h hfu hv4
    refine pv_iload (q := 554) C dL_errors_552 rfl rfl ?_
    refine pv_iconst (q := 555) (v := 3) C dL_errors_554 rfl (by decide) ?_
    refine pv_icmp_ge (q := 558) (tgt := 730) C dL_errors_555 (by decide) rfl (fun cL => ?_) (fun cL => ?_)
    ·
      obtain rfl : v = 3 := by
        have := (nI_leI (a := 3) (b := v) (by decide) (by omega)).mp cL
        omega
      exact PV_widen (by omega) (by omega) (PV_le (k D P h) ⟨Or.inr rfl, Or.inr rfl, Or.inl rfl, Or.inr rfl, Or.inl rfl, Or.inl rfl, trivial⟩)
    ·
      have hv : v < 3 := by
        rcases Nat.lt_or_ge v 3 with z | z
        · exact z
        · exact absurd ((nI_leI (a := 3) (b := v) (by decide) (by omega)).mpr z) cL
      refine pv_iload_n (q := 559) C dL_errors_558 rfl rfl rfl ?_
      refine pv_if_eq (q := 562) (tgt := 730) C dL_errors_559 (by decide) rfl (fun c559_20 => absurd c559_20 (by decide)) (fun _ => ?_)
      refine pv_aload_n (q := 563) C dL_errors_562 rfl rfl rfl ?_
      refine pv_iload (q := 565) C dL_errors_563 rfl rfl ?_
      refine pv_callLl (q := 568) (rest := []) C Z hNC hKl (c_L_napping l X D P hfl M (W) h (nI v)) tw_793 mw_L_napping ⟨rfl, rfl⟩ (by rw [hKR]; exact ⟨Nat.le_of_ble_eq_true rfl, Nat.le_of_ble_eq_true rfl⟩) (by rw [hKR]; constructor <;> (dsimp only; omega)) rfl rfl rfl (Nat.le_of_ble_eq_true rfl) dL_errors_565 rfl (fun r21 D21 P21 q21 => ?_)
      obtain ⟨e21, hR21⟩ := q21
      obtain rfl : r21 = (((if M 7 (32 + 38 * v + 32) = 1 then 1 else 0) : Int32).toInt64) := e21.trans (by rw [wv_0 (kView_0 hv), ix_n (by omega)])
      refine pv_lconst (q := 569) (v := 1) C dL_errors_568 rfl (by decide) ?_
      refine pv_lcmp (q := 570) C dL_errors_569 rfl ?_
      refine pv_if_ne (q := 573) (tgt := 594) C dL_errors_570 (by decide) rfl (fun c => ?_) (fun c => ?_)
      ·
        have e1 : ¬ M 7 (32 + 38 * v + 32) = 1 := fun z => by rw [if_pos z] at c; exact c (lg_cmp_rf _)
        refine pv_aload_n (q := 595) C dL_errors_594 rfl rfl rfl ?_
        refine pv_iload (q := 597) C dL_errors_595 rfl rfl ?_
        refine pv_callLl (q := 600) (rest := []) C Z hNC hKl (c_L_wake l X D21 P21 hfl M (W) hR21 hW (nI v)) tw_701 mw_L_wake ⟨rfl, rfl⟩ (by rw [hKR]; exact ⟨Nat.le_of_ble_eq_true rfl, Nat.le_of_ble_eq_true rfl⟩) (by rw [hKR]; constructor <;> (dsimp only; omega)) rfl rfl rfl (Nat.le_of_ble_eq_true rfl) dL_errors_597 rfl (fun r23 D23 P23 q23 => ?_)
        obtain ⟨rfl, hR23⟩ := QE.no q23 (k := 2) (by unfold kWak; rw [if_pos (rg_v hv), ix_n (by omega), if_neg e1]) (by decide)
        show PV K X _ _ _ _ _ (.long (-9000000000000000003) :: _) _ _
        refine pv_ldc2 (q := 603) C dL_errors_600 rfl tw_352 ?_
        refine pv_lcmp (q := 604) C dL_errors_603 rfl ?_
        refine pv_if_ne (q := 607) (tgt := 611) C dL_errors_604 (by decide) rfl (fun c604_24 => False.elim (c604_24 ((lg_cmp_eq _ _).mpr (rfl)))) (fun _ => ?_)
        refine pv_iconst (q := 608) (v := 1) C dL_errors_607 rfl (by decide) ?_
        refine pv_goto (tgt := 612) C dL_errors_608 (by decide) ?_
        refine pv_istore_n (q := 613) C dL_errors_612 rfl rfl (Nat.le_of_ble_eq_true rfl) rfl ?_
        refine pv_iconst (q := 614) (v := 0) C dL_errors_613 rfl (by decide) ?_
        refine pv_istore (q := 616) C dL_errors_614 rfl (Nat.le_of_ble_eq_true rfl) rfl ?_
        refine PV_lv (lv' := [some (.ref (X.2.2 0)), some (.long hsh), none, some (.int 1), some (.int (nI v)), some (.int (nI 0))]) rfl ?_
        exact PV_widen (ce' := cb + 70 * v + 6) (sl' := 6 * (cb + 70 * v + 6)) (by omega) (by omega) (er_g hW L (cb := cb + 70 * v + 6) hv (by omega) (fun D9 P9 h9 => by
          refine pv_iinc (q := 727) (v := nI (v + 1)) C dL_errors_724 rfl rfl (nI_add _ _) rfl ?_
          refine pv_goto (tgt := 552) C dL_errors_727 (by decide) ?_
          exact PV_widen (by omega) (by omega) (ih (v + 1) D9 P9 h9 (by omega) (by omega))) 5 0 D23 P23 hR23 (by omega) (by omega))
      ·
        have e1 : M 7 (32 + 38 * v + 32) = 1 := by
          rcases Classical.em (M 7 (32 + 38 * v + 32) = 1) with z | z
          · exact z
          · rw [if_neg z] at c; exact absurd c (by decide)
        refine pv_aload_n (q := 574) C dL_errors_573 rfl rfl rfl ?_
        refine pv_iload (q := 576) C dL_errors_574 rfl rfl ?_
        refine pv_callLl (q := 579) (rest := []) C Z hNC hKl (c_L_nap l X D21 P21 hfl M (W) hR21 hW (nI v)) tw_685 mw_L_nap ⟨rfl, rfl⟩ (by rw [hKR]; exact ⟨Nat.le_of_ble_eq_true rfl, Nat.le_of_ble_eq_true rfl⟩) (by rw [hKR]; constructor <;> (dsimp only; omega)) rfl rfl rfl (Nat.le_of_ble_eq_true rfl) dL_errors_576 rfl (fun r25 D25 P25 q25 => ?_)
        obtain ⟨rfl, hR25⟩ := QE.no q25 (k := 2) (by unfold kNap; rw [if_pos (rg_v hv), ix_n (by omega), if_pos e1]) (by decide)
        show PV K X _ _ _ _ _ (.long (-9000000000000000003) :: _) _ _
        refine pv_ldc2 (q := 582) C dL_errors_579 rfl tw_352 ?_
        refine pv_lcmp (q := 583) C dL_errors_582 rfl ?_
        refine pv_if_ne (q := 586) (tgt := 590) C dL_errors_583 (by decide) rfl (fun c583_26 => False.elim (c583_26 ((lg_cmp_eq _ _).mpr (rfl)))) (fun _ => ?_)
        refine pv_iconst (q := 587) (v := 1) C dL_errors_586 rfl (by decide) ?_
        refine pv_goto (tgt := 612) C dL_errors_587 (by decide) ?_
        refine pv_istore_n (q := 613) C dL_errors_612 rfl rfl (Nat.le_of_ble_eq_true rfl) rfl ?_
        refine pv_iconst (q := 614) (v := 0) C dL_errors_613 rfl (by decide) ?_
        refine pv_istore (q := 616) C dL_errors_614 rfl (Nat.le_of_ble_eq_true rfl) rfl ?_
        refine PV_lv (lv' := [some (.ref (X.2.2 0)), some (.long hsh), none, some (.int 1), some (.int (nI v)), some (.int (nI 0))]) rfl ?_
        exact PV_widen (ce' := cb + 70 * v + 6) (sl' := 6 * (cb + 70 * v + 6)) (by omega) (by omega) (er_g hW L (cb := cb + 70 * v + 6) hv (by omega) (fun D9 P9 h9 => by
          refine pv_iinc (q := 727) (v := nI (v + 1)) C dL_errors_724 rfl rfl (nI_add _ _) rfl ?_
          refine pv_goto (tgt := 552) C dL_errors_727 (by decide) ?_
          exact PV_widen (by omega) (by omega) (ih (v + 1) D9 P9 h9 (by omega) (by omega))) 5 0 D25 P25 hR25 (by omega) (by omega))
set_option maxRecDepth 100000 in
set_option maxHeartbeats 4000000 in
theorem er_p {l : Launch} {K : KT} {X : XT} {w0 : Cond} {Q : State → Prop} {M : DT} {W : Nat} (hW : W + 200 < 2 ^ 29) (L : LK l K X cL_errors RL w0 6 (some .boolean) ({ frames := 10, cells := 1000, slots := 6000, locals := 360 } : Room)) {hsh : Int64} {cb : Nat} (hc : cb + 290 ≤ 1000) (k : ∀ (D : DT) (P : PT), RI D P M W → PV K X Q (cb + 288) (6 * (cb + 288)) 549 [some (.ref (X.2.2 0)), some (.long hsh), none, some (.int 1), none, none] [] D P) : ∀ (nn p : Nat) (D : DT) (P : PT), RI D P M W → 17 ≤ p + nn → p ≤ 16 → PV K X Q (cb + 18 * p) (6 * (cb + 18 * p)) 425 [some (.ref (X.2.2 0)), some (.long hsh), none, some (.int 1), some (.int (nI p)), none] [] D P := by
  obtain ⟨hKl, hKR, C, Z, hNC, hfl⟩ := id L
  intro nn
  induction nn with
  | zero =>
    intro p D P h hfu hp4
    exact absurd hfu (by omega)
  | succ nn ih =>
    intro p D P h hfu hp4
    refine pv_iload (q := 427) C dL_errors_425 rfl rfl ?_
    refine pv_bipush (q := 429) (v := 16) C dL_errors_427 rfl (by decide) ?_
    refine pv_icmp_ge (q := 432) (tgt := 549) C dL_errors_429 (by decide) rfl (fun cL => ?_) (fun cL => ?_)
    ·
      obtain rfl : p = 16 := by
        have := (nI_leI (a := 16) (b := p) (by decide) (by omega)).mp cL
        omega
      exact PV_widen (by omega) (by omega) (PV_le (k D P h) ⟨Or.inr rfl, Or.inr rfl, Or.inl rfl, Or.inr rfl, Or.inl rfl, Or.inl rfl, trivial⟩)
    ·
      have hp : p < 16 := by
        rcases Nat.lt_or_ge p 16 with z | z
        · exact z
        · exact absurd ((nI_leI (a := 16) (b := p) (by decide) (by omega)).mpr z) cL
      refine pv_iload_n (q := 433) C dL_errors_432 rfl rfl rfl ?_
      refine pv_if_eq (q := 436) (tgt := 549) C dL_errors_433 (by decide) rfl (fun c433_28 => absurd c433_28 (by decide)) (fun _ => ?_)
      refine pv_aload_n (q := 437) C dL_errors_436 rfl rfl rfl ?_
      refine pv_iload (q := 439) C dL_errors_437 rfl rfl ?_
      refine pv_callLl (q := 442) (rest := []) C Z hNC hKl (c_L_isFree l X D P hfl M (W) h (nI p)) tw_781 mw_L_isFree ⟨rfl, rfl⟩ (by rw [hKR]; exact ⟨Nat.le_of_ble_eq_true rfl, Nat.le_of_ble_eq_true rfl⟩) (by rw [hKR]; constructor <;> (dsimp only; omega)) rfl rfl rfl (Nat.le_of_ble_eq_true rfl) dL_errors_439 rfl (fun r29 D29 P29 q29 => ?_)
      obtain ⟨e29, hR29⟩ := q29
      obtain rfl : r29 = (((if M 7 p = 0 then 1 else 0) : Int32).toInt64) := e29.trans (by rw [wv_0 (kP_0 hp), ix_n (by omega)])
      refine pv_lconst (q := 443) (v := 1) C dL_errors_442 rfl (by decide) ?_
      refine pv_lcmp (q := 444) C dL_errors_443 rfl ?_
      refine pv_if_ne (q := 447) (tgt := 522) C dL_errors_444 (by decide) rfl (fun c => ?_) (fun c => ?_)
      ·
        have e1 : ¬ M 7 p = 0 := fun z => by rw [if_pos z] at c; exact c (lg_cmp_rf _)
        refine pv_aload_n (q := 523) C dL_errors_522 rfl rfl rfl ?_
        refine pv_iload (q := 525) C dL_errors_523 rfl rfl ?_
        refine pv_iconst (q := 526) (v := 0) C dL_errors_525 rfl (by decide) ?_
        refine pv_iconst (q := 527) (v := 0) C dL_errors_526 rfl (by decide) ?_
        refine pv_callLl (q := 530) (rest := []) C Z hNC hKl (c_L_insert l X D29 P29 hfl M (W) hR29 hW (nI p) 0 0) tw_598 mw_L_insert ⟨rfl, rfl⟩ (by rw [hKR]; exact ⟨Nat.le_of_ble_eq_true rfl, Nat.le_of_ble_eq_true rfl⟩) (by rw [hKR]; constructor <;> (dsimp only; omega)) rfl rfl rfl (Nat.le_of_ble_eq_true rfl) dL_errors_527 rfl (fun r31 D31 P31 q31 => ?_)
        obtain ⟨rfl, hR31⟩ := QE.no q31 (k := 3) (by unfold kIns; rw [if_pos ⟨rg_p hp, by decide⟩, if_pos (by decide), ix_n (by omega), if_neg e1]) (by decide)
        show PV K X _ _ _ _ _ (.long (-9000000000000000003) :: _) _ _
        refine pv_ldc2 (q := 533) C dL_errors_530 rfl tw_352 ?_
        refine pv_lcmp (q := 534) C dL_errors_533 rfl ?_
        refine pv_if_ne (q := 537) (tgt := 541) C dL_errors_534 (by decide) rfl (fun c534_32 => False.elim (c534_32 ((lg_cmp_eq _ _).mpr (rfl)))) (fun _ => ?_)
        refine pv_iconst (q := 538) (v := 1) C dL_errors_537 rfl (by decide) ?_
        refine pv_goto (tgt := 542) C dL_errors_538 (by decide) ?_
        refine pv_istore_n (q := 543) C dL_errors_542 rfl rfl (Nat.le_of_ble_eq_true rfl) rfl ?_
        refine pv_iinc (q := 546) (v := nI (p + 1)) C dL_errors_543 rfl rfl (nI_add _ _) rfl ?_
        refine pv_goto (tgt := 425) C dL_errors_546 (by decide) ?_
        exact PV_widen (by omega) (by omega) (PV_le (ih (p + 1) D31 P31 hR31 (by omega) (by omega)) ⟨Or.inr rfl, Or.inr rfl, Or.inl rfl, Or.inr rfl, Or.inr rfl, Or.inl rfl, trivial⟩)
      ·
        have e1 : M 7 p = 0 := by
          rcases Classical.em (M 7 p = 0) with z | z
          · exact z
          · rw [if_neg z] at c; exact absurd c (by decide)
        refine pv_aload_n (q := 448) C dL_errors_447 rfl rfl rfl ?_
        refine pv_iload (q := 450) C dL_errors_448 rfl rfl ?_
        refine pv_iconst (q := 451) (v := 0) C dL_errors_450 rfl (by decide) ?_
        refine pv_callLl (q := 454) (rest := []) C Z hNC hKl (c_L_change l X D29 P29 hfl M (W) hR29 hW (nI p) 0) tw_656 mw_L_change ⟨rfl, rfl⟩ (by rw [hKR]; exact ⟨Nat.le_of_ble_eq_true rfl, Nat.le_of_ble_eq_true rfl⟩) (by rw [hKR]; constructor <;> (dsimp only; omega)) rfl rfl rfl (Nat.le_of_ble_eq_true rfl) dL_errors_451 rfl (fun r33 D33 P33 q33 => ?_)
        obtain ⟨rfl, hR33⟩ := QE.no q33 (k := 3) (by unfold kChg; rw [if_pos (rg_p hp), if_pos (by decide), ix_n (by omega), if_pos e1]) (by decide)
        show PV K X _ _ _ _ _ (.long (-9000000000000000003) :: _) _ _
        refine pv_ldc2 (q := 457) C dL_errors_454 rfl tw_352 ?_
        refine pv_lcmp (q := 458) C dL_errors_457 rfl ?_
        refine pv_if_ne (q := 461) (tgt := 518) C dL_errors_458 (by decide) rfl (fun c458_34 => False.elim (c458_34 ((lg_cmp_eq _ _).mpr (rfl)))) (fun _ => ?_)
        refine pv_aload_n (q := 462) C dL_errors_461 rfl rfl rfl ?_
        refine pv_iload (q := 464) C dL_errors_462 rfl rfl ?_
        refine pv_iconst (q := 465) (v := 0) C dL_errors_464 rfl (by decide) ?_
        refine pv_callLl (q := 468) (rest := []) C Z hNC hKl (c_L_regroup l X D33 P33 hfl M (W) hR33 hW (nI p) 0) tw_667 mw_L_regroup ⟨rfl, rfl⟩ (by rw [hKR]; exact ⟨Nat.le_of_ble_eq_true rfl, Nat.le_of_ble_eq_true rfl⟩) (by rw [hKR]; constructor <;> (dsimp only; omega)) rfl rfl rfl (Nat.le_of_ble_eq_true rfl) dL_errors_465 rfl (fun r35 D35 P35 q35 => ?_)
        obtain ⟨rfl, hR35⟩ := QE.no q35 (k := 2) (by unfold kReg; rw [if_pos ⟨rg_p hp, by decide⟩, ix_n (by omega), if_pos e1]) (by decide)
        show PV K X _ _ _ _ _ (.long (-9000000000000000003) :: _) _ _
        refine pv_ldc2 (q := 471) C dL_errors_468 rfl tw_352 ?_
        refine pv_lcmp (q := 472) C dL_errors_471 rfl ?_
        refine pv_if_ne (q := 475) (tgt := 518) C dL_errors_472 (by decide) rfl (fun c472_36 => False.elim (c472_36 ((lg_cmp_eq _ _).mpr (rfl)))) (fun _ => ?_)
        refine pv_aload_n (q := 476) C dL_errors_475 rfl rfl rfl ?_
        refine pv_iload (q := 478) C dL_errors_476 rfl rfl ?_
        refine pv_callLl (q := 481) (rest := []) C Z hNC hKl (c_L_delete l X D35 P35 hfl M (W) hR35 hW (nI p)) tw_674 mw_L_delete ⟨rfl, rfl⟩ (by rw [hKR]; exact ⟨Nat.le_of_ble_eq_true rfl, Nat.le_of_ble_eq_true rfl⟩) (by rw [hKR]; constructor <;> (dsimp only; omega)) rfl rfl rfl (Nat.le_of_ble_eq_true rfl) dL_errors_478 rfl (fun r37 D37 P37 q37 => ?_)
        obtain ⟨rfl, hR37⟩ := QE.no q37 (k := 2) (kRow_2 hp e1) (by decide)
        show PV K X _ _ _ _ _ (.long (-9000000000000000003) :: _) _ _
        refine pv_ldc2 (q := 484) C dL_errors_481 rfl tw_352 ?_
        refine pv_lcmp (q := 485) C dL_errors_484 rfl ?_
        refine pv_if_ne (q := 488) (tgt := 518) C dL_errors_485 (by decide) rfl (fun c485_38 => False.elim (c485_38 ((lg_cmp_eq _ _).mpr (rfl)))) (fun _ => ?_)
        refine pv_aload_n (q := 489) C dL_errors_488 rfl rfl rfl ?_
        refine pv_iload (q := 491) C dL_errors_489 rfl rfl ?_
        refine pv_callLl (q := 494) (rest := []) C Z hNC hKl (c_L_groupAt l X D37 P37 hfl M (W) hR37 (nI p)) tw_785 mw_L_groupAt ⟨rfl, rfl⟩ (by rw [hKR]; exact ⟨Nat.le_of_ble_eq_true rfl, Nat.le_of_ble_eq_true rfl⟩) (by rw [hKR]; constructor <;> (dsimp only; omega)) rfl rfl rfl (Nat.le_of_ble_eq_true rfl) dL_errors_491 rfl (fun r39 D39 P39 q39 => ?_)
        obtain ⟨e39, hR39⟩ := q39
        obtain rfl : r39 = (-9000000000000000003) := e39.trans (wv_k (k := 2) (kRow_2 hp e1) (by decide))
        refine pv_ldc2 (q := 497) C dL_errors_494 rfl tw_352 ?_
        refine pv_lcmp (q := 498) C dL_errors_497 rfl ?_
        refine pv_if_ne (q := 501) (tgt := 518) C dL_errors_498 (by decide) rfl (fun c498_40 => False.elim (c498_40 ((lg_cmp_eq _ _).mpr (rfl)))) (fun _ => ?_)
        refine pv_aload_n (q := 502) C dL_errors_501 rfl rfl rfl ?_
        refine pv_iload (q := 504) C dL_errors_502 rfl rfl ?_
        refine pv_callLl (q := 507) (rest := []) C Z hNC hKl (c_L_amountAt l X D39 P39 hfl M (W) hR39 (nI p)) tw_789 mw_L_amountAt ⟨rfl, rfl⟩ (by rw [hKR]; exact ⟨Nat.le_of_ble_eq_true rfl, Nat.le_of_ble_eq_true rfl⟩) (by rw [hKR]; constructor <;> (dsimp only; omega)) rfl rfl rfl (Nat.le_of_ble_eq_true rfl) dL_errors_504 rfl (fun r41 D41 P41 q41 => ?_)
        obtain ⟨e41, hR41⟩ := q41
        obtain rfl : r41 = (-9000000000000000003) := e41.trans (wv_k (k := 2) (kRow_2 hp e1) (by decide))
        refine pv_ldc2 (q := 510) C dL_errors_507 rfl tw_352 ?_
        refine pv_lcmp (q := 511) C dL_errors_510 rfl ?_
        refine pv_if_ne (q := 514) (tgt := 518) C dL_errors_511 (by decide) rfl (fun c511_42 => False.elim (c511_42 ((lg_cmp_eq _ _).mpr (rfl)))) (fun _ => ?_)
        refine pv_iconst (q := 515) (v := 1) C dL_errors_514 rfl (by decide) ?_
        refine pv_goto (tgt := 542) C dL_errors_515 (by decide) ?_
        refine pv_istore_n (q := 543) C dL_errors_542 rfl rfl (Nat.le_of_ble_eq_true rfl) rfl ?_
        refine pv_iinc (q := 546) (v := nI (p + 1)) C dL_errors_543 rfl rfl (nI_add _ _) rfl ?_
        refine pv_goto (tgt := 425) C dL_errors_546 (by decide) ?_
        exact PV_widen (by omega) (by omega) (PV_le (ih (p + 1) D41 P41 hR41 (by omega) (by omega)) ⟨Or.inr rfl, Or.inr rfl, Or.inl rfl, Or.inr rfl, Or.inr rfl, Or.inl rfl, trivial⟩)
set_option maxRecDepth 100000 in
set_option maxHeartbeats 8000000 in
theorem c_L_errors (l : Launch) (X : XT) (D : DT) (P : PT) (hfl : l.stackTraces = false) (M : DT) (W : Nat) (h : RI D P M W) (hW : W + 200 < 2 ^ 29) : LM l X yL_errors (.code yL_errors cL_errors 6 (some .boolean)) ({ frames := 10, cells := 1000, slots := 6000, locals := 360 } : Room) [.ref (X.2.2 0)] (qI X (fun r D' P' => r = 1 ∧ RI D' P' M W)) D P 1000 6000 := by
  refine lm_of (by decide +kernel) (Nat.le_of_ble_eq_true rfl) ?_
  intro K hKl hKR C Z hNC
  obtain ⟨n0, hn60, hn9, -⟩ := h.2.2.2.2.2
  have L : LK l K X cL_errors RL _ 6 (some .boolean) ({ frames := 10, cells := 1000, slots := 6000, locals := 360 } : Room) := ⟨hKl, hKR, C, Z, hNC, hfl⟩
  refine PV_lv (lv' := [some (.ref (X.2.2 0)), none, none, none, none, none]) rfl ?_
  have k3 : ∀ (D8 : DT) (P8 : PT), RI D8 P8 M W → PV K X (XK K X (qI X (fun r D' P' => r = 1 ∧ RI D' P' M W)) (fun _ _ _ => False) 1000 6000) (300 + 500) (6 * (300 + 500)) 730 [some (.ref (X.2.2 0)), some (.long (dgs (M 7) (M 12) n0 (M 6 3))), none, some (.int 1), none, none] [] D8 P8 := by
    intro D8 P8 h8
    refine pv_iload_n (q := 731) C dL_errors_730 rfl rfl rfl ?_
    refine pv_if_eq (q := 734) (tgt := 747) C dL_errors_731 (by decide) rfl (fun c731_901 => absurd c731_901 (by decide)) (fun _ => ?_)
    refine pv_aload_n (q := 735) C dL_errors_734 rfl rfl rfl ?_
    refine pv_callVlF (q := 738) (rest := []) C Z hKl (c_X6_digest l X D8 P8 hfl M (W) h8 n0 hn9 hn60) tw_356 (show kd 0 = 6 from rfl) (by decide) rfl mm_X6_digest ⟨rfl, rfl⟩ (by rw [hKR]; exact ⟨Nat.le_of_ble_eq_true rfl, Nat.le_of_ble_eq_true rfl⟩) (by rw [hKR]; constructor <;> (dsimp only; omega)) rfl rfl rfl (Nat.le_of_ble_eq_true rfl) dL_errors_735 rfl (fun r902 D902 P902 q902 => ?_)
    obtain ⟨rfl, hF902, rfl⟩ := q902
    have hR902 := RI_Fs h8 hF902
    refine pv_lload_n (q := 739) C dL_errors_738 rfl rfl rfl ?_
    refine pv_lcmp (q := 740) C dL_errors_739 rfl ?_
    refine pv_if_ne (q := 743) (tgt := 747) C dL_errors_740 (by decide) rfl (fun c740_903 => False.elim (c740_903 ((lg_cmp_eq _ _).mpr (rfl)))) (fun _ => ?_)
    refine pv_iconst (q := 744) (v := 1) C dL_errors_743 rfl (by decide) ?_
    refine pv_goto (tgt := 748) C dL_errors_744 (by decide) ?_
    exact XK.of (pv_zret C (Or.inr rfl) ⟨rfl, hR902⟩ (by omega) (by omega) dL_errors_748)
  refine pv_aload_n (q := 1) C dL_errors_0 rfl rfl rfl ?_
  refine pv_callVlF (q := 4) (rest := []) C Z hKl (c_X6_digest l X D P hfl M (W) h n0 hn9 hn60) tw_356 (show kd 0 = 6 from rfl) (by decide) rfl mm_X6_digest ⟨rfl, rfl⟩ (by rw [hKR]; exact ⟨Nat.le_of_ble_eq_true rfl, Nat.le_of_ble_eq_true rfl⟩) (by rw [hKR]; constructor <;> (dsimp only; omega)) rfl rfl rfl (Nat.le_of_ble_eq_true rfl) dL_errors_1 rfl (fun r43 D43 P43 q43 => ?_)
  obtain ⟨rfl, hF43, rfl⟩ := q43
  have hR43 := RI_Fs h hF43
  refine pv_lstore_n (q := 5) C dL_errors_4 rfl rfl (Nat.le_of_ble_eq_true rfl) rfl ?_
  refine pv_aload_n (q := 6) C dL_errors_5 rfl rfl rfl ?_
  refine pv_bipush (q := 8) (v := 16) C dL_errors_6 rfl (by decide) ?_
  refine pv_iconst (q := 9) (v := 0) C dL_errors_8 rfl (by decide) ?_
  refine pv_bipush (q := 11) (v := 100) C dL_errors_9 rfl (by decide) ?_
  refine pv_callLl (q := 14) (rest := []) C Z hNC hKl (c_L_insert l X D43 P hfl M (W) hR43 hW 16 0 100) tw_598 mw_L_insert ⟨rfl, rfl⟩ (by rw [hKR]; exact ⟨Nat.le_of_ble_eq_true rfl, Nat.le_of_ble_eq_true rfl⟩) (by rw [hKR]; constructor <;> (dsimp only; omega)) rfl rfl rfl (Nat.le_of_ble_eq_true rfl) dL_errors_11 rfl (fun r44 D44 P44 q44 => ?_)
  obtain ⟨rfl, hR44⟩ := QE.no q44 (k := 1) (by unfold kIns; rw [if_neg (by decide)]) (by decide)
  show PV K X _ _ _ _ _ (.long (-9000000000000000001) :: _) _ _
  refine pv_ldc2 (q := 17) C dL_errors_14 rfl tw_654 ?_
  refine pv_lcmp (q := 18) C dL_errors_17 rfl ?_
  refine pv_if_ne (q := 21) (tgt := 420) C dL_errors_18 (by decide) rfl (fun c18_45 => False.elim (c18_45 ((lg_cmp_eq _ _).mpr (rfl)))) (fun _ => ?_)
  refine pv_aload_n (q := 22) C dL_errors_21 rfl rfl rfl ?_
  refine pv_iconst (q := 23) (v := 0) C dL_errors_22 rfl (by decide) ?_
  refine pv_iconst (q := 24) (v := 4) C dL_errors_23 rfl (by decide) ?_
  refine pv_bipush (q := 26) (v := 100) C dL_errors_24 rfl (by decide) ?_
  refine pv_callLl (q := 29) (rest := []) C Z hNC hKl (c_L_insert l X D44 P44 hfl M (W) hR44 hW 0 4 100) tw_598 mw_L_insert ⟨rfl, rfl⟩ (by rw [hKR]; exact ⟨Nat.le_of_ble_eq_true rfl, Nat.le_of_ble_eq_true rfl⟩) (by rw [hKR]; constructor <;> (dsimp only; omega)) rfl rfl rfl (Nat.le_of_ble_eq_true rfl) dL_errors_26 rfl (fun r46 D46 P46 q46 => ?_)
  obtain ⟨rfl, hR46⟩ := QE.no q46 (k := 1) (by unfold kIns; rw [if_neg (by decide)]) (by decide)
  show PV K X _ _ _ _ _ (.long (-9000000000000000001) :: _) _ _
  refine pv_ldc2 (q := 32) C dL_errors_29 rfl tw_654 ?_
  refine pv_lcmp (q := 33) C dL_errors_32 rfl ?_
  refine pv_if_ne (q := 36) (tgt := 420) C dL_errors_33 (by decide) rfl (fun c33_47 => False.elim (c33_47 ((lg_cmp_eq _ _).mpr (rfl)))) (fun _ => ?_)
  refine pv_aload_n (q := 37) C dL_errors_36 rfl rfl rfl ?_
  refine pv_iconst (q := 38) (v := 0) C dL_errors_37 rfl (by decide) ?_
  refine pv_iconst (q := 39) (v := 0) C dL_errors_38 rfl (by decide) ?_
  refine pv_bipush (q := 41) (v := 100) C dL_errors_39 rfl (by decide) ?_
  refine pv_callLl (q := 44) (rest := []) C Z hNC hKl (c_L_insert l X D46 P46 hfl M (W) hR46 hW 0 0 100) tw_598 mw_L_insert ⟨rfl, rfl⟩ (by rw [hKR]; exact ⟨Nat.le_of_ble_eq_true rfl, Nat.le_of_ble_eq_true rfl⟩) (by rw [hKR]; constructor <;> (dsimp only; omega)) rfl rfl rfl (Nat.le_of_ble_eq_true rfl) dL_errors_41 rfl (fun r48 D48 P48 q48 => ?_)
  obtain ⟨rfl, hR48⟩ := QE.no q48 (k := 2) (by unfold kIns; rw [if_pos (by decide), if_neg (by decide)]) (by decide)
  show PV K X _ _ _ _ _ (.long (-9000000000000000002) :: _) _ _
  refine pv_ldc2 (q := 47) C dL_errors_44 rfl tw_655 ?_
  refine pv_lcmp (q := 48) C dL_errors_47 rfl ?_
  refine pv_if_ne (q := 51) (tgt := 420) C dL_errors_48 (by decide) rfl (fun c48_49 => False.elim (c48_49 ((lg_cmp_eq _ _).mpr (rfl)))) (fun _ => ?_)
  refine pv_aload_n (q := 52) C dL_errors_51 rfl rfl rfl ?_
  refine pv_iconst (q := 53) (v := (-1)) C dL_errors_52 rfl (by decide) ?_
  refine pv_iconst (q := 54) (v := 0) C dL_errors_53 rfl (by decide) ?_
  refine pv_callLl (q := 57) (rest := []) C Z hNC hKl (c_L_change l X D48 P48 hfl M (W) hR48 hW (-1) 0) tw_656 mw_L_change ⟨rfl, rfl⟩ (by rw [hKR]; exact ⟨Nat.le_of_ble_eq_true rfl, Nat.le_of_ble_eq_true rfl⟩) (by rw [hKR]; constructor <;> (dsimp only; omega)) rfl rfl rfl (Nat.le_of_ble_eq_true rfl) dL_errors_54 rfl (fun r50 D50 P50 q50 => ?_)
  obtain ⟨rfl, hR50⟩ := QE.no q50 (k := 1) (by unfold kChg; rw [if_neg (by decide)]) (by decide)
  show PV K X _ _ _ _ _ (.long (-9000000000000000001) :: _) _ _
  refine pv_ldc2 (q := 60) C dL_errors_57 rfl tw_654 ?_
  refine pv_lcmp (q := 61) C dL_errors_60 rfl ?_
  refine pv_if_ne (q := 64) (tgt := 420) C dL_errors_61 (by decide) rfl (fun c61_51 => False.elim (c61_51 ((lg_cmp_eq _ _).mpr (rfl)))) (fun _ => ?_)
  refine pv_aload_n (q := 65) C dL_errors_64 rfl rfl rfl ?_
  refine pv_iconst (q := 66) (v := 0) C dL_errors_65 rfl (by decide) ?_
  refine pv_bipush (q := 68) (v := (-100)) C dL_errors_66 rfl (by decide) ?_
  refine pv_callLl (q := 71) (rest := []) C Z hNC hKl (c_L_change l X D50 P50 hfl M (W) hR50 hW 0 (-100)) tw_656 mw_L_change ⟨rfl, rfl⟩ (by rw [hKR]; exact ⟨Nat.le_of_ble_eq_true rfl, Nat.le_of_ble_eq_true rfl⟩) (by rw [hKR]; constructor <;> (dsimp only; omega)) rfl rfl rfl (Nat.le_of_ble_eq_true rfl) dL_errors_68 rfl (fun r52 D52 P52 q52 => ?_)
  obtain ⟨rfl, hR52⟩ := QE.no q52 (k := 2) (by unfold kChg; rw [if_pos (by decide), if_neg (by decide)]) (by decide)
  show PV K X _ _ _ _ _ (.long (-9000000000000000002) :: _) _ _
  refine pv_ldc2 (q := 74) C dL_errors_71 rfl tw_655 ?_
  refine pv_lcmp (q := 75) C dL_errors_74 rfl ?_
  refine pv_if_ne (q := 78) (tgt := 420) C dL_errors_75 (by decide) rfl (fun c75_53 => False.elim (c75_53 ((lg_cmp_eq _ _).mpr (rfl)))) (fun _ => ?_)
  refine pv_aload_n (q := 79) C dL_errors_78 rfl rfl rfl ?_
  refine pv_iconst (q := 80) (v := 0) C dL_errors_79 rfl (by decide) ?_
  refine pv_iconst (q := 81) (v := (-1)) C dL_errors_80 rfl (by decide) ?_
  refine pv_callLl (q := 84) (rest := []) C Z hNC hKl (c_L_regroup l X D52 P52 hfl M (W) hR52 hW 0 (-1)) tw_667 mw_L_regroup ⟨rfl, rfl⟩ (by rw [hKR]; exact ⟨Nat.le_of_ble_eq_true rfl, Nat.le_of_ble_eq_true rfl⟩) (by rw [hKR]; constructor <;> (dsimp only; omega)) rfl rfl rfl (Nat.le_of_ble_eq_true rfl) dL_errors_81 rfl (fun r54 D54 P54 q54 => ?_)
  obtain ⟨rfl, hR54⟩ := QE.no q54 (k := 1) (by unfold kReg; rw [if_neg (by decide)]) (by decide)
  show PV K X _ _ _ _ _ (.long (-9000000000000000001) :: _) _ _
  refine pv_ldc2 (q := 87) C dL_errors_84 rfl tw_654 ?_
  refine pv_lcmp (q := 88) C dL_errors_87 rfl ?_
  refine pv_if_ne (q := 91) (tgt := 420) C dL_errors_88 (by decide) rfl (fun c88_55 => False.elim (c88_55 ((lg_cmp_eq _ _).mpr (rfl)))) (fun _ => ?_)
  refine pv_aload_n (q := 92) C dL_errors_91 rfl rfl rfl ?_
  refine pv_bipush (q := 94) (v := 16) C dL_errors_92 rfl (by decide) ?_
  refine pv_callLl (q := 97) (rest := []) C Z hNC hKl (c_L_delete l X D54 P54 hfl M (W) hR54 hW 16) tw_674 mw_L_delete ⟨rfl, rfl⟩ (by rw [hKR]; exact ⟨Nat.le_of_ble_eq_true rfl, Nat.le_of_ble_eq_true rfl⟩) (by rw [hKR]; constructor <;> (dsimp only; omega)) rfl rfl rfl (Nat.le_of_ble_eq_true rfl) dL_errors_94 rfl (fun r56 D56 P56 q56 => ?_)
  obtain ⟨rfl, hR56⟩ := QE.no q56 (k := 1) (by unfold kRow; rw [if_neg (by decide)]) (by decide)
  show PV K X _ _ _ _ _ (.long (-9000000000000000001) :: _) _ _
  refine pv_ldc2 (q := 100) C dL_errors_97 rfl tw_654 ?_
  refine pv_lcmp (q := 101) C dL_errors_100 rfl ?_
  refine pv_if_ne (q := 104) (tgt := 420) C dL_errors_101 (by decide) rfl (fun c101_57 => False.elim (c101_57 ((lg_cmp_eq _ _).mpr (rfl)))) (fun _ => ?_)
  refine pv_aload_n (q := 105) C dL_errors_104 rfl rfl rfl ?_
  refine pv_iconst (q := 106) (v := 3) C dL_errors_105 rfl (by decide) ?_
  refine pv_callLl (q := 109) (rest := []) C Z hNC hKl (c_L_nap l X D56 P56 hfl M (W) hR56 hW 3) tw_685 mw_L_nap ⟨rfl, rfl⟩ (by rw [hKR]; exact ⟨Nat.le_of_ble_eq_true rfl, Nat.le_of_ble_eq_true rfl⟩) (by rw [hKR]; constructor <;> (dsimp only; omega)) rfl rfl rfl (Nat.le_of_ble_eq_true rfl) dL_errors_106 rfl (fun r58 D58 P58 q58 => ?_)
  obtain ⟨rfl, hR58⟩ := QE.no q58 (k := 1) (by unfold kNap; rw [if_neg (by decide)]) (by decide)
  show PV K X _ _ _ _ _ (.long (-9000000000000000001) :: _) _ _
  refine pv_ldc2 (q := 112) C dL_errors_109 rfl tw_654 ?_
  refine pv_lcmp (q := 113) C dL_errors_112 rfl ?_
  refine pv_if_ne (q := 116) (tgt := 420) C dL_errors_113 (by decide) rfl (fun c113_59 => False.elim (c113_59 ((lg_cmp_eq _ _).mpr (rfl)))) (fun _ => ?_)
  refine pv_aload_n (q := 117) C dL_errors_116 rfl rfl rfl ?_
  refine pv_iconst (q := 118) (v := (-1)) C dL_errors_117 rfl (by decide) ?_
  refine pv_callLl (q := 121) (rest := []) C Z hNC hKl (c_L_wake l X D58 P58 hfl M (W) hR58 hW (-1)) tw_701 mw_L_wake ⟨rfl, rfl⟩ (by rw [hKR]; exact ⟨Nat.le_of_ble_eq_true rfl, Nat.le_of_ble_eq_true rfl⟩) (by rw [hKR]; constructor <;> (dsimp only; omega)) rfl rfl rfl (Nat.le_of_ble_eq_true rfl) dL_errors_118 rfl (fun r60 D60 P60 q60 => ?_)
  obtain ⟨rfl, hR60⟩ := QE.no q60 (k := 1) (by unfold kWak; rw [if_neg (by decide)]) (by decide)
  show PV K X _ _ _ _ _ (.long (-9000000000000000001) :: _) _ _
  refine pv_ldc2 (q := 124) C dL_errors_121 rfl tw_654 ?_
  refine pv_lcmp (q := 125) C dL_errors_124 rfl ?_
  refine pv_if_ne (q := 128) (tgt := 420) C dL_errors_125 (by decide) rfl (fun c125_61 => False.elim (c125_61 ((lg_cmp_eq _ _).mpr (rfl)))) (fun _ => ?_)
  refine pv_aload_n (q := 129) C dL_errors_128 rfl rfl rfl ?_
  refine pv_iconst (q := 130) (v := 3) C dL_errors_129 rfl (by decide) ?_
  refine pv_callLl (q := 133) (rest := []) C Z hNC hKl (c_L_refresh l X D60 P60 hfl M (W) hR60 hW 3) tw_710 mw_L_refresh ⟨rfl, rfl⟩ (by rw [hKR]; exact ⟨Nat.le_of_ble_eq_true rfl, Nat.le_of_ble_eq_true rfl⟩) (by rw [hKR]; constructor <;> (dsimp only; omega)) rfl rfl rfl (Nat.le_of_ble_eq_true rfl) dL_errors_130 rfl (fun r62 D62 P62 q62 => ?_)
  obtain ⟨rfl, hR62⟩ := QE.no q62 (k := 1) (by decide) (by decide)
  show PV K X _ _ _ _ _ (.long (-9000000000000000001) :: _) _ _
  refine pv_ldc2 (q := 136) C dL_errors_133 rfl tw_654 ?_
  refine pv_lcmp (q := 137) C dL_errors_136 rfl ?_
  refine pv_if_ne (q := 140) (tgt := 420) C dL_errors_137 (by decide) rfl (fun c137_63 => False.elim (c137_63 ((lg_cmp_eq _ _).mpr (rfl)))) (fun _ => ?_)
  refine pv_aload_n (q := 141) C dL_errors_140 rfl rfl rfl ?_
  refine pv_iconst (q := 142) (v := 3) C dL_errors_141 rfl (by decide) ?_
  refine pv_bipush (q := 144) (v := 100) C dL_errors_142 rfl (by decide) ?_
  refine pv_callLl (q := 147) (rest := []) C Z hNC hKl (c_L_setFilter l X D62 P62 hfl M (W) hR62 hW 3 100) tw_726 mw_L_setFilter ⟨rfl, rfl⟩ (by rw [hKR]; exact ⟨Nat.le_of_ble_eq_true rfl, Nat.le_of_ble_eq_true rfl⟩) (by rw [hKR]; constructor <;> (dsimp only; omega)) rfl rfl rfl (Nat.le_of_ble_eq_true rfl) dL_errors_144 rfl (fun r64 D64 P64 q64 => ?_)
  obtain ⟨rfl, hR64⟩ := QE.no q64 (k := 1) (by decide) (by decide)
  show PV K X _ _ _ _ _ (.long (-9000000000000000001) :: _) _ _
  refine pv_ldc2 (q := 150) C dL_errors_147 rfl tw_654 ?_
  refine pv_lcmp (q := 151) C dL_errors_150 rfl ?_
  refine pv_if_ne (q := 154) (tgt := 420) C dL_errors_151 (by decide) rfl (fun c151_65 => False.elim (c151_65 ((lg_cmp_eq _ _).mpr (rfl)))) (fun _ => ?_)
  refine pv_aload_n (q := 155) C dL_errors_154 rfl rfl rfl ?_
  refine pv_iconst (q := 156) (v := 0) C dL_errors_155 rfl (by decide) ?_
  refine pv_bipush (q := 158) (v := 100) C dL_errors_156 rfl (by decide) ?_
  refine pv_callLl (q := 161) (rest := []) C Z hNC hKl (c_L_setFilter l X D64 P64 hfl M (W) hR64 hW 0 100) tw_726 mw_L_setFilter ⟨rfl, rfl⟩ (by rw [hKR]; exact ⟨Nat.le_of_ble_eq_true rfl, Nat.le_of_ble_eq_true rfl⟩) (by rw [hKR]; constructor <;> (dsimp only; omega)) rfl rfl rfl (Nat.le_of_ble_eq_true rfl) dL_errors_158 rfl (fun r66 D66 P66 q66 => ?_)
  obtain ⟨rfl, hR66⟩ := QE.no q66 (k := 2) (by decide) (by decide)
  show PV K X _ _ _ _ _ (.long (-9000000000000000002) :: _) _ _
  refine pv_ldc2 (q := 164) C dL_errors_161 rfl tw_655 ?_
  refine pv_lcmp (q := 165) C dL_errors_164 rfl ?_
  refine pv_if_ne (q := 168) (tgt := 420) C dL_errors_165 (by decide) rfl (fun c165_67 => False.elim (c165_67 ((lg_cmp_eq _ _).mpr (rfl)))) (fun _ => ?_)
  refine pv_aload_n (q := 169) C dL_errors_168 rfl rfl rfl ?_
  refine pv_iconst (q := 170) (v := 0) C dL_errors_169 rfl (by decide) ?_
  refine pv_iconst (q := 171) (v := 0) C dL_errors_170 rfl (by decide) ?_
  refine pv_callLl (q := 174) (rest := []) C Z hNC hKl (c_L_setBehind l X D66 P66 hfl M (W) hR66 hW 0 0) tw_733 mw_L_setBehind ⟨rfl, rfl⟩ (by rw [hKR]; exact ⟨Nat.le_of_ble_eq_true rfl, Nat.le_of_ble_eq_true rfl⟩) (by rw [hKR]; constructor <;> (dsimp only; omega)) rfl rfl rfl (Nat.le_of_ble_eq_true rfl) dL_errors_171 rfl (fun r68 D68 P68 q68 => ?_)
  obtain ⟨rfl, hR68⟩ := QE.no q68 (k := 2) (by decide) (by decide)
  show PV K X _ _ _ _ _ (.long (-9000000000000000002) :: _) _ _
  refine pv_ldc2 (q := 177) C dL_errors_174 rfl tw_655 ?_
  refine pv_lcmp (q := 178) C dL_errors_177 rfl ?_
  refine pv_if_ne (q := 181) (tgt := 420) C dL_errors_178 (by decide) rfl (fun c178_69 => False.elim (c178_69 ((lg_cmp_eq _ _).mpr (rfl)))) (fun _ => ?_)
  refine pv_aload_n (q := 182) C dL_errors_181 rfl rfl rfl ?_
  refine pv_iconst (q := 183) (v := 2) C dL_errors_182 rfl (by decide) ?_
  refine pv_bipush (q := 185) (v := 31) C dL_errors_183 rfl (by decide) ?_
  refine pv_callLl (q := 188) (rest := []) C Z hNC hKl (c_L_setLongest l X D68 P68 hfl M (W) hR68 hW 2 31) tw_745 mw_L_setLongest ⟨rfl, rfl⟩ (by rw [hKR]; exact ⟨Nat.le_of_ble_eq_true rfl, Nat.le_of_ble_eq_true rfl⟩) (by rw [hKR]; constructor <;> (dsimp only; omega)) rfl rfl rfl (Nat.le_of_ble_eq_true rfl) dL_errors_185 rfl (fun r70 D70 P70 q70 => ?_)
  obtain ⟨rfl, hR70⟩ := QE.no q70 (k := 2) (by decide) (by decide)
  show PV K X _ _ _ _ _ (.long (-9000000000000000002) :: _) _ _
  refine pv_ldc2 (q := 191) C dL_errors_188 rfl tw_655 ?_
  refine pv_lcmp (q := 192) C dL_errors_191 rfl ?_
  refine pv_if_ne (q := 195) (tgt := 420) C dL_errors_192 (by decide) rfl (fun c192_71 => False.elim (c192_71 ((lg_cmp_eq _ _).mpr (rfl)))) (fun _ => ?_)
  refine pv_aload_n (q := 196) C dL_errors_195 rfl rfl rfl ?_
  refine pv_iconst (q := 197) (v := 0) C dL_errors_196 rfl (by decide) ?_
  refine pv_callLl (q := 200) (rest := []) C Z hNC hKl (c_L_pass l X D70 P70 hfl M (W) hR70 hW 0) tw_752 mw_L_pass ⟨rfl, rfl⟩ (by rw [hKR]; exact ⟨Nat.le_of_ble_eq_true rfl, Nat.le_of_ble_eq_true rfl⟩) (by rw [hKR]; constructor <;> (dsimp only; omega)) rfl rfl rfl (Nat.le_of_ble_eq_true rfl) dL_errors_197 rfl (fun r72 D72 P72 q72 => ?_)
  obtain ⟨rfl, hR72⟩ := QE.no q72 (k := 1) (by decide) (by decide)
  show PV K X _ _ _ _ _ (.long (-9000000000000000002) :: _) _ _
  refine pv_ldc2 (q := 203) C dL_errors_200 rfl tw_655 ?_
  refine pv_lcmp (q := 204) C dL_errors_203 rfl ?_
  refine pv_if_ne (q := 207) (tgt := 420) C dL_errors_204 (by decide) rfl (fun c204_73 => False.elim (c204_73 ((lg_cmp_eq _ _).mpr (rfl)))) (fun _ => ?_)
  refine pv_aload_n (q := 208) C dL_errors_207 rfl rfl rfl ?_
  refine pv_bipush (q := 210) (v := 31) C dL_errors_208 rfl (by decide) ?_
  refine pv_callLl (q := 213) (rest := []) C Z hNC hKl (c_L_pass l X D72 P72 hfl M (W) hR72 hW 31) tw_752 mw_L_pass ⟨rfl, rfl⟩ (by rw [hKR]; exact ⟨Nat.le_of_ble_eq_true rfl, Nat.le_of_ble_eq_true rfl⟩) (by rw [hKR]; constructor <;> (dsimp only; omega)) rfl rfl rfl (Nat.le_of_ble_eq_true rfl) dL_errors_210 rfl (fun r74 D74 P74 q74 => ?_)
  obtain ⟨rfl, hR74⟩ := QE.no q74 (k := 1) (by decide) (by decide)
  show PV K X _ _ _ _ _ (.long (-9000000000000000002) :: _) _ _
  refine pv_ldc2 (q := 216) C dL_errors_213 rfl tw_655 ?_
  refine pv_lcmp (q := 217) C dL_errors_216 rfl ?_
  refine pv_if_ne (q := 220) (tgt := 420) C dL_errors_217 (by decide) rfl (fun c217_75 => False.elim (c217_75 ((lg_cmp_eq _ _).mpr (rfl)))) (fun _ => ?_)
  refine pv_aload_n (q := 221) C dL_errors_220 rfl rfl rfl ?_
  refine pv_bipush (q := 223) (v := 127) C dL_errors_221 rfl (by decide) ?_
  refine pv_callLl (q := 226) (rest := []) C Z hNC hKl (c_L_append l X D74 P74 hfl M (W) hR74 hW n0 hn60 hn9 127) tw_768 mw_L_append ⟨rfl, rfl⟩ (by rw [hKR]; exact ⟨Nat.le_of_ble_eq_true rfl, Nat.le_of_ble_eq_true rfl⟩) (by rw [hKR]; constructor <;> (dsimp only; omega)) rfl rfl rfl (Nat.le_of_ble_eq_true rfl) dL_errors_223 rfl (fun r76 D76 P76 q76 => ?_)
  obtain ⟨rfl, hR76⟩ := QE.no q76 (k := 1) (by unfold kApp; rw [if_neg (by decide)]) (by decide)
  show PV K X _ _ _ _ _ (.long (-9000000000000000002) :: _) _ _
  refine pv_ldc2 (q := 229) C dL_errors_226 rfl tw_655 ?_
  refine pv_lcmp (q := 230) C dL_errors_229 rfl ?_
  refine pv_if_ne (q := 233) (tgt := 420) C dL_errors_230 (by decide) rfl (fun c230_77 => False.elim (c230_77 ((lg_cmp_eq _ _).mpr (rfl)))) (fun _ => ?_)
  refine pv_aload_n (q := 234) C dL_errors_233 rfl rfl rfl ?_
  refine pv_bipush (q := 236) (v := 16) C dL_errors_234 rfl (by decide) ?_
  refine pv_callLl (q := 239) (rest := []) C Z hNC hKl (c_L_isFree l X D76 P76 hfl M (W) hR76 16) tw_781 mw_L_isFree ⟨rfl, rfl⟩ (by rw [hKR]; exact ⟨Nat.le_of_ble_eq_true rfl, Nat.le_of_ble_eq_true rfl⟩) (by rw [hKR]; constructor <;> (dsimp only; omega)) rfl rfl rfl (Nat.le_of_ble_eq_true rfl) dL_errors_236 rfl (fun r78 D78 P78 q78 => ?_)
  obtain ⟨e78, hR78⟩ := q78
  obtain rfl : r78 = (-9000000000000000001) := e78.trans (wv_k (k := 1) (by decide) (by decide))
  refine pv_ldc2 (q := 242) C dL_errors_239 rfl tw_654 ?_
  refine pv_lcmp (q := 243) C dL_errors_242 rfl ?_
  refine pv_if_ne (q := 246) (tgt := 420) C dL_errors_243 (by decide) rfl (fun c243_79 => False.elim (c243_79 ((lg_cmp_eq _ _).mpr (rfl)))) (fun _ => ?_)
  refine pv_aload_n (q := 247) C dL_errors_246 rfl rfl rfl ?_
  refine pv_iconst (q := 248) (v := (-1)) C dL_errors_247 rfl (by decide) ?_
  refine pv_callLl (q := 251) (rest := []) C Z hNC hKl (c_L_groupAt l X D78 P78 hfl M (W) hR78 (-1)) tw_785 mw_L_groupAt ⟨rfl, rfl⟩ (by rw [hKR]; exact ⟨Nat.le_of_ble_eq_true rfl, Nat.le_of_ble_eq_true rfl⟩) (by rw [hKR]; constructor <;> (dsimp only; omega)) rfl rfl rfl (Nat.le_of_ble_eq_true rfl) dL_errors_248 rfl (fun r80 D80 P80 q80 => ?_)
  obtain ⟨e80, hR80⟩ := q80
  obtain rfl : r80 = (-9000000000000000001) := e80.trans (wv_k (k := 1) (by unfold kRow; rw [if_neg (by decide)]) (by decide))
  refine pv_ldc2 (q := 254) C dL_errors_251 rfl tw_654 ?_
  refine pv_lcmp (q := 255) C dL_errors_254 rfl ?_
  refine pv_if_ne (q := 258) (tgt := 420) C dL_errors_255 (by decide) rfl (fun c255_81 => False.elim (c255_81 ((lg_cmp_eq _ _).mpr (rfl)))) (fun _ => ?_)
  refine pv_aload_n (q := 259) C dL_errors_258 rfl rfl rfl ?_
  refine pv_bipush (q := 261) (v := 16) C dL_errors_259 rfl (by decide) ?_
  refine pv_callLl (q := 264) (rest := []) C Z hNC hKl (c_L_amountAt l X D80 P80 hfl M (W) hR80 16) tw_789 mw_L_amountAt ⟨rfl, rfl⟩ (by rw [hKR]; exact ⟨Nat.le_of_ble_eq_true rfl, Nat.le_of_ble_eq_true rfl⟩) (by rw [hKR]; constructor <;> (dsimp only; omega)) rfl rfl rfl (Nat.le_of_ble_eq_true rfl) dL_errors_261 rfl (fun r82 D82 P82 q82 => ?_)
  obtain ⟨e82, hR82⟩ := q82
  obtain rfl : r82 = (-9000000000000000001) := e82.trans (wv_k (k := 1) (by unfold kRow; rw [if_neg (by decide)]) (by decide))
  refine pv_ldc2 (q := 267) C dL_errors_264 rfl tw_654 ?_
  refine pv_lcmp (q := 268) C dL_errors_267 rfl ?_
  refine pv_if_ne (q := 271) (tgt := 420) C dL_errors_268 (by decide) rfl (fun c268_83 => False.elim (c268_83 ((lg_cmp_eq _ _).mpr (rfl)))) (fun _ => ?_)
  refine pv_aload_n (q := 272) C dL_errors_271 rfl rfl rfl ?_
  refine pv_iconst (q := 273) (v := 3) C dL_errors_272 rfl (by decide) ?_
  refine pv_callLl (q := 276) (rest := []) C Z hNC hKl (c_L_napping l X D82 P82 hfl M (W) hR82 3) tw_793 mw_L_napping ⟨rfl, rfl⟩ (by rw [hKR]; exact ⟨Nat.le_of_ble_eq_true rfl, Nat.le_of_ble_eq_true rfl⟩) (by rw [hKR]; constructor <;> (dsimp only; omega)) rfl rfl rfl (Nat.le_of_ble_eq_true rfl) dL_errors_273 rfl (fun r84 D84 P84 q84 => ?_)
  obtain ⟨e84, hR84⟩ := q84
  obtain rfl : r84 = (-9000000000000000001) := e84.trans (wv_k (k := 1) (by decide) (by decide))
  refine pv_ldc2 (q := 279) C dL_errors_276 rfl tw_654 ?_
  refine pv_lcmp (q := 280) C dL_errors_279 rfl ?_
  refine pv_if_ne (q := 283) (tgt := 420) C dL_errors_280 (by decide) rfl (fun c280_85 => False.elim (c280_85 ((lg_cmp_eq _ _).mpr (rfl)))) (fun _ => ?_)
  refine pv_aload_n (q := 284) C dL_errors_283 rfl rfl rfl ?_
  refine pv_iconst (q := 285) (v := (-1)) C dL_errors_284 rfl (by decide) ?_
  refine pv_callLl (q := 288) (rest := []) C Z hNC hKl (c_L_waiting l X D84 P84 hfl M (W) hR84 (-1)) tw_797 mw_L_waiting ⟨rfl, rfl⟩ (by rw [hKR]; exact ⟨Nat.le_of_ble_eq_true rfl, Nat.le_of_ble_eq_true rfl⟩) (by rw [hKR]; constructor <;> (dsimp only; omega)) rfl rfl rfl (Nat.le_of_ble_eq_true rfl) dL_errors_285 rfl (fun r86 D86 P86 q86 => ?_)
  obtain ⟨e86, hR86⟩ := q86
  obtain rfl : r86 = (-9000000000000000001) := e86.trans (wv_k (k := 1) (by decide) (by decide))
  refine pv_ldc2 (q := 291) C dL_errors_288 rfl tw_654 ?_
  refine pv_lcmp (q := 292) C dL_errors_291 rfl ?_
  refine pv_if_ne (q := 295) (tgt := 420) C dL_errors_292 (by decide) rfl (fun c292_87 => False.elim (c292_87 ((lg_cmp_eq _ _).mpr (rfl)))) (fun _ => ?_)
  refine pv_aload_n (q := 296) C dL_errors_295 rfl rfl rfl ?_
  refine pv_iconst (q := 297) (v := 3) C dL_errors_296 rfl (by decide) ?_
  refine pv_callLl (q := 300) (rest := []) C Z hNC hKl (c_L_byNumbers l X D86 P86 hfl M (W) hR86 3) tw_801 mw_L_byNumbers ⟨rfl, rfl⟩ (by rw [hKR]; exact ⟨Nat.le_of_ble_eq_true rfl, Nat.le_of_ble_eq_true rfl⟩) (by rw [hKR]; constructor <;> (dsimp only; omega)) rfl rfl rfl (Nat.le_of_ble_eq_true rfl) dL_errors_297 rfl (fun r88 D88 P88 q88 => ?_)
  obtain ⟨e88, hR88⟩ := q88
  obtain rfl : r88 = (-9000000000000000001) := e88.trans (wv_k (k := 1) (by decide) (by decide))
  refine pv_ldc2 (q := 303) C dL_errors_300 rfl tw_654 ?_
  refine pv_lcmp (q := 304) C dL_errors_303 rfl ?_
  refine pv_if_ne (q := 307) (tgt := 420) C dL_errors_304 (by decide) rfl (fun c304_89 => False.elim (c304_89 ((lg_cmp_eq _ _).mpr (rfl)))) (fun _ => ?_)
  refine pv_aload_n (q := 308) C dL_errors_307 rfl rfl rfl ?_
  refine pv_iconst (q := 309) (v := 3) C dL_errors_308 rfl (by decide) ?_
  refine pv_callLl (q := 312) (rest := []) C Z hNC hKl (c_L_matters l X D88 P88 hfl M (W) hR88 3) tw_805 mw_L_matters ⟨rfl, rfl⟩ (by rw [hKR]; exact ⟨Nat.le_of_ble_eq_true rfl, Nat.le_of_ble_eq_true rfl⟩) (by rw [hKR]; constructor <;> (dsimp only; omega)) rfl rfl rfl (Nat.le_of_ble_eq_true rfl) dL_errors_309 rfl (fun r90 D90 P90 q90 => ?_)
  obtain ⟨e90, hR90⟩ := q90
  obtain rfl : r90 = (-9000000000000000001) := e90.trans (wv_k (k := 1) (by decide) (by decide))
  refine pv_ldc2 (q := 315) C dL_errors_312 rfl tw_654 ?_
  refine pv_lcmp (q := 316) C dL_errors_315 rfl ?_
  refine pv_if_ne (q := 319) (tgt := 420) C dL_errors_316 (by decide) rfl (fun c316_91 => False.elim (c316_91 ((lg_cmp_eq _ _).mpr (rfl)))) (fun _ => ?_)
  refine pv_aload_n (q := 320) C dL_errors_319 rfl rfl rfl ?_
  refine pv_iconst (q := 321) (v := 0) C dL_errors_320 rfl (by decide) ?_
  refine pv_iconst (q := 322) (v := 4) C dL_errors_321 rfl (by decide) ?_
  refine pv_callLl (q := 325) (rest := []) C Z hNC hKl (c_L_countOf l X D90 P90 hfl M (W) hR90 0 4) tw_809 mw_L_countOf ⟨rfl, rfl⟩ (by rw [hKR]; exact ⟨Nat.le_of_ble_eq_true rfl, Nat.le_of_ble_eq_true rfl⟩) (by rw [hKR]; constructor <;> (dsimp only; omega)) rfl rfl rfl (Nat.le_of_ble_eq_true rfl) dL_errors_322 rfl (fun r92 D92 P92 q92 => ?_)
  obtain ⟨e92, hR92⟩ := q92
  obtain rfl : r92 = (-9000000000000000001) := e92.trans (wv_k (k := 1) (by decide) (by decide))
  refine pv_ldc2 (q := 328) C dL_errors_325 rfl tw_654 ?_
  refine pv_lcmp (q := 329) C dL_errors_328 rfl ?_
  refine pv_if_ne (q := 332) (tgt := 420) C dL_errors_329 (by decide) rfl (fun c329_93 => False.elim (c329_93 ((lg_cmp_eq _ _).mpr (rfl)))) (fun _ => ?_)
  refine pv_aload_n (q := 333) C dL_errors_332 rfl rfl rfl ?_
  refine pv_iconst (q := 334) (v := 0) C dL_errors_333 rfl (by decide) ?_
  refine pv_iconst (q := 335) (v := 0) C dL_errors_334 rfl (by decide) ?_
  refine pv_bipush (q := 337) (v := 100) C dL_errors_335 rfl (by decide) ?_
  refine pv_callLl (q := 340) (rest := []) C Z hNC hKl (c_L_rankOf l X D92 P92 hfl M (W) hR92 0 0 100) tw_816 mw_L_rankOf ⟨rfl, rfl⟩ (by rw [hKR]; exact ⟨Nat.le_of_ble_eq_true rfl, Nat.le_of_ble_eq_true rfl⟩) (by rw [hKR]; constructor <;> (dsimp only; omega)) rfl rfl rfl (Nat.le_of_ble_eq_true rfl) dL_errors_337 rfl (fun r94 D94 P94 q94 => ?_)
  obtain ⟨e94, hR94⟩ := q94
  obtain rfl : r94 = (-9000000000000000002) := e94.trans (wv_k (k := 2) (by decide) (by decide))
  refine pv_ldc2 (q := 343) C dL_errors_340 rfl tw_655 ?_
  refine pv_lcmp (q := 344) C dL_errors_343 rfl ?_
  refine pv_if_ne (q := 347) (tgt := 420) C dL_errors_344 (by decide) rfl (fun c344_95 => False.elim (c344_95 ((lg_cmp_eq _ _).mpr (rfl)))) (fun _ => ?_)
  refine pv_aload_n (q := 348) C dL_errors_347 rfl rfl rfl ?_
  refine pv_iconst (q := 349) (v := 0) C dL_errors_348 rfl (by decide) ?_
  refine pv_iconst (q := 350) (v := 0) C dL_errors_349 rfl (by decide) ?_
  refine pv_bipush (q := 352) (v := (-100)) C dL_errors_350 rfl (by decide) ?_
  refine pv_callLl (q := 355) (rest := []) C Z hNC hKl (c_L_tableRank l X D94 P94 hfl M (W) hR94 0 0 (-100)) tw_823 mw_L_tableRank ⟨rfl, rfl⟩ (by rw [hKR]; exact ⟨Nat.le_of_ble_eq_true rfl, Nat.le_of_ble_eq_true rfl⟩) (by rw [hKR]; constructor <;> (dsimp only; omega)) rfl rfl rfl (Nat.le_of_ble_eq_true rfl) dL_errors_352 rfl (fun r96 D96 P96 q96 => ?_)
  obtain ⟨e96, hR96⟩ := q96
  obtain rfl : r96 = (-9000000000000000002) := e96.trans (wv_k (k := 2) (by decide) (by decide))
  refine pv_ldc2 (q := 358) C dL_errors_355 rfl tw_655 ?_
  refine pv_lcmp (q := 359) C dL_errors_358 rfl ?_
  refine pv_if_ne (q := 362) (tgt := 420) C dL_errors_359 (by decide) rfl (fun c359_97 => False.elim (c359_97 ((lg_cmp_eq _ _).mpr (rfl)))) (fun _ => ?_)
  refine pv_aload_n (q := 363) C dL_errors_362 rfl rfl rfl ?_
  refine pv_iconst (q := 364) (v := 3) C dL_errors_363 rfl (by decide) ?_
  refine pv_callLl (q := 367) (rest := []) C Z hNC hKl (c_L_unlikeGroups l X D96 P96 hfl M (W) hR96 3) tw_830 mw_L_unlikeGroups ⟨rfl, rfl⟩ (by rw [hKR]; exact ⟨Nat.le_of_ble_eq_true rfl, Nat.le_of_ble_eq_true rfl⟩) (by rw [hKR]; constructor <;> (dsimp only; omega)) rfl rfl rfl (Nat.le_of_ble_eq_true rfl) dL_errors_364 rfl (fun r98 D98 P98 q98 => ?_)
  obtain ⟨e98, hR98⟩ := q98
  obtain rfl : r98 = (-9000000000000000001) := e98.trans (wv_k (k := 1) (by decide) (by decide))
  refine pv_ldc2 (q := 370) C dL_errors_367 rfl tw_654 ?_
  refine pv_lcmp (q := 371) C dL_errors_370 rfl ?_
  refine pv_if_ne (q := 374) (tgt := 420) C dL_errors_371 (by decide) rfl (fun c371_99 => False.elim (c371_99 ((lg_cmp_eq _ _).mpr (rfl)))) (fun _ => ?_)
  refine pv_aload_n (q := 375) C dL_errors_374 rfl rfl rfl ?_
  refine pv_iconst (q := 376) (v := (-1)) C dL_errors_375 rfl (by decide) ?_
  refine pv_callLl (q := 379) (rest := []) C Z hNC hKl (c_L_ifWoken l X D98 P98 hfl M (W) hR98 (-1)) tw_834 mw_L_ifWoken ⟨rfl, rfl⟩ (by rw [hKR]; exact ⟨Nat.le_of_ble_eq_true rfl, Nat.le_of_ble_eq_true rfl⟩) (by rw [hKR]; constructor <;> (dsimp only; omega)) rfl rfl rfl (Nat.le_of_ble_eq_true rfl) dL_errors_376 rfl (fun r100 D100 P100 q100 => ?_)
  obtain ⟨e100, hR100⟩ := q100
  obtain rfl : r100 = (-9000000000000000001) := e100.trans (wv_k (k := 1) (by decide) (by decide))
  refine pv_ldc2 (q := 382) C dL_errors_379 rfl tw_654 ?_
  refine pv_lcmp (q := 383) C dL_errors_382 rfl ?_
  refine pv_if_ne (q := 386) (tgt := 420) C dL_errors_383 (by decide) rfl (fun c383_101 => False.elim (c383_101 ((lg_cmp_eq _ _).mpr (rfl)))) (fun _ => ?_)
  refine pv_aload_n (q := 387) C dL_errors_386 rfl rfl rfl ?_
  refine pv_iconst (q := 388) (v := 3) C dL_errors_387 rfl (by decide) ?_
  refine pv_callLl (q := 391) (rest := []) C Z hNC hKl (c_L_wakesIn l X D100 P100 hfl M (W) hR100 3) tw_838 mw_L_wakesIn ⟨rfl, rfl⟩ (by rw [hKR]; exact ⟨Nat.le_of_ble_eq_true rfl, Nat.le_of_ble_eq_true rfl⟩) (by rw [hKR]; constructor <;> (dsimp only; omega)) rfl rfl rfl (Nat.le_of_ble_eq_true rfl) dL_errors_388 rfl (fun r102 D102 P102 q102 => ?_)
  obtain ⟨e102, hR102⟩ := q102
  obtain rfl : r102 = (-9000000000000000001) := e102.trans (wv_k (k := 1) (by decide) (by decide))
  refine pv_ldc2 (q := 394) C dL_errors_391 rfl tw_654 ?_
  refine pv_lcmp (q := 395) C dL_errors_394 rfl ?_
  refine pv_if_ne (q := 398) (tgt := 420) C dL_errors_395 (by decide) rfl (fun c395_103 => False.elim (c395_103 ((lg_cmp_eq _ _).mpr (rfl)))) (fun _ => ?_)
  refine pv_aload_n (q := 399) C dL_errors_398 rfl rfl rfl ?_
  refine pv_callVi (q := 402) (rest := []) C hKl (c_X6_hasStopped l X D102 P102 M (W) hR102) tw_842 (show kd 0 = 6 from rfl) (by decide) rfl mm_X6_hasStopped ⟨rfl, rfl⟩ (by rw [hKR]; exact ⟨Nat.le_of_ble_eq_true rfl, Nat.le_of_ble_eq_true rfl⟩) (by rw [hKR]; constructor <;> (dsimp only; omega)) rfl rfl rfl (Nat.le_of_ble_eq_true rfl) dL_errors_399 rfl (fun r104 D104 P104 q104 => ?_)
  obtain ⟨rfl, rfl, rfl⟩ := q104
  have hR104 := hR102
  refine pv_if_ne (q := 405) (tgt := 416) C dL_errors_402 (by decide) rfl (fun c402 => ?_) (fun c402 => ?_)
  ·
    refine pv_iconst (q := 417) (v := 1) C dL_errors_416 rfl (by decide) ?_
    refine pv_goto (tgt := 421) C dL_errors_417 (by decide) ?_
    refine pv_istore_n (q := 422) C dL_errors_421 rfl rfl (Nat.le_of_ble_eq_true rfl) rfl ?_
    refine pv_iconst (q := 423) (v := 0) C dL_errors_422 rfl (by decide) ?_
    refine pv_istore (q := 425) C dL_errors_423 rfl (Nat.le_of_ble_eq_true rfl) rfl ?_
    refine PV_widen (ce' := 300) (sl' := 6 * 300) (by omega) (by omega) (er_p hW L (cb := 300) (by omega) (fun D6 P6 h6 => ?_) 17 0 D102 P102 hR104 (by omega) (by omega))
    refine pv_iconst (q := 550) (v := 0) C dL_errors_549 rfl (by decide) ?_
    refine pv_istore (q := 552) C dL_errors_550 rfl (Nat.le_of_ble_eq_true rfl) rfl ?_
    exact PV_widen (ce' := 590) (sl' := 6 * 590) (by omega) (by omega) (er_v hW L (cb := 590) (by omega) (fun D7 P7 h7 => k3 D7 P7 h7) 4 0 D6 P6 h6 (by omega) (by omega))
  ·
    have e183 : M 7 183 = -1 := by
      rcases Classical.em (M 7 183 = -1) with z | z
      · exact z
      · rw [if_neg z] at c402; exact absurd c402 (by decide)
    refine pv_aload_n (q := 406) C dL_errors_405 rfl rfl rfl ?_
    refine pv_callLl (q := 409) (rest := []) C Z hNC hKl (c_L_stopped l X D102 P102 hfl M (W) hR104) tw_843 mw_L_stopped ⟨rfl, rfl⟩ (by rw [hKR]; exact ⟨Nat.le_of_ble_eq_true rfl, Nat.le_of_ble_eq_true rfl⟩) (by rw [hKR]; constructor <;> (dsimp only; omega)) rfl rfl rfl (Nat.le_of_ble_eq_true rfl) dL_errors_406 rfl (fun r106 D106 P106 q106 => ?_)
    obtain ⟨e106, hR106⟩ := q106
    obtain rfl : r106 = (-9000000000000000003) := e106.trans (wv_k (k := 1) (by rw [if_pos e183]) (by decide))
    refine pv_ldc2 (q := 412) C dL_errors_409 rfl tw_352 ?_
    refine pv_lcmp (q := 413) C dL_errors_412 rfl ?_
    refine pv_if_ne (q := 416) (tgt := 420) C dL_errors_413 (by decide) rfl (fun c413_107 => False.elim (c413_107 ((lg_cmp_eq _ _).mpr (rfl)))) (fun _ => ?_)
    refine pv_iconst (q := 417) (v := 1) C dL_errors_416 rfl (by decide) ?_
    refine pv_goto (tgt := 421) C dL_errors_417 (by decide) ?_
    refine pv_istore_n (q := 422) C dL_errors_421 rfl rfl (Nat.le_of_ble_eq_true rfl) rfl ?_
    refine pv_iconst (q := 423) (v := 0) C dL_errors_422 rfl (by decide) ?_
    refine pv_istore (q := 425) C dL_errors_423 rfl (Nat.le_of_ble_eq_true rfl) rfl ?_
    refine PV_widen (ce' := 300) (sl' := 6 * 300) (by omega) (by omega) (er_p hW L (cb := 300) (by omega) (fun D6 P6 h6 => ?_) 17 0 D106 P106 hR106 (by omega) (by omega))
    refine pv_iconst (q := 550) (v := 0) C dL_errors_549 rfl (by decide) ?_
    refine pv_istore (q := 552) C dL_errors_550 rfl (Nat.le_of_ble_eq_true rfl) rfl ?_
    exact PV_widen (ce' := 590) (sl' := 6 * 590) (by omega) (by omega) (er_v hW L (cb := 590) (by omega) (fun D7 P7 h7 => k3 D7 P7 h7) 4 0 D6 P6 h6 (by omega) (by omega))
