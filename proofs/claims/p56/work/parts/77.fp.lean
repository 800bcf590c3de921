set_option maxRecDepth 100000 in
set_option maxHeartbeats 16000000 in
theorem fo_p {l : Launch} {K : KT} {X : XT} {w0 : Cond} {Q : State → Prop} {R0 T0 : Nat → Int32} {t0 : Int32} {W V x : Nat} (hW : W + 60000 < 2 ^ 29) (hx : x < 2 ^ 31) (hJ : JJ R0 V) (L : LK l K X cL_follows RL w0 15 (some .boolean) ({ frames := 10, cells := 700, slots := 4200, locals := 360 } : Room)) {cb : Nat} (hc : cb + 480 ≤ 700) (k : ∀ (D : DT) (P : PT) (N : DT), FI R0 T0 t0 N → RI D P N (W + 12800) → PV K X Q (cb + 480) (6 * (cb + 480)) 733 [some (.ref (X.2.2 0)), some (.int (nI x)), some (.int 1), none, none, none, none, none, none, none, none, none, none, none, none] [] D P) : ∀ (nn p : Nat) (D : DT) (P : PT) (N : DT), FI R0 T0 t0 N → RI D P N (W + 800 * p) → 17 ≤ p + nn → p ≤ 16 → PV K X Q (cb + 30 * p) (6 * (cb + 30 * p)) 395 [some (.ref (X.2.2 0)), some (.int (nI x)), some (.int 1), some (.int (nI p)), none, none, none, none, none, none, none, none, none, none, none] [] D P := by
  obtain ⟨hKl, hKR, C, Z, hNC, hfl⟩ := id L
  intro nn
  induction nn with
  | zero =>
    intro p D P N hF h hfu hp4
    exact absurd hfu (by omega)
  | succ nn ih =>
    intro p D P N hF h hfu hp4
    refine pv_iload_n (q := 396) C dL_follows_395 rfl rfl rfl ?_
    refine pv_bipush (q := 398) (v := 16) C dL_follows_396 rfl (by decide) ?_
    refine pv_icmp_ge (q := 401) (tgt := 733) C dL_follows_398 (by decide) rfl (fun cL => ?_) (fun cL => ?_)
    ·
      obtain rfl : p = 16 := by
        have := (nI_leI (a := 16) (b := p) (by decide) (by omega)).mp cL
        omega
      exact PV_widen (by omega) (by omega) (PV_le (k D P N hF (RI_W h (by omega))) ⟨Or.inr rfl, Or.inr rfl, Or.inr rfl, Or.inl rfl, Or.inl rfl, Or.inl rfl, Or.inl rfl, Or.inl rfl, Or.inl rfl, Or.inl rfl, Or.inl rfl, Or.inl rfl, Or.inl rfl, Or.inl rfl, Or.inl rfl, trivial⟩)
    ·
      have hp : p < 16 := by
        rcases Nat.lt_or_ge p 16 with z | z
        · exact z
        · exact absurd ((nI_leI (a := 16) (b := p) (by decide) (by omega)).mpr z) cL
      have hS0 := h.1
      rw [hF.1] at hS0
      have hfl0 := hS0.fl
      have hdl0 : dl R0 9 := hS0.dl (by omega)
      have hgg : (x % 4 + p) % 4 < 4 := Nat.mod_lt _ (by omega)
      have htk := tk_le R0
      refine pv_iload_n (q := 402) C dL_follows_401 rfl rfl rfl ?_
      refine pv_if_eq (q := 405) (tgt := 733) C dL_follows_402 (by decide) rfl (fun c402_99 => absurd c402_99 (by decide)) (fun _ => ?_)
      refine pv_aload_n (q := 406) C dL_follows_405 rfl rfl rfl ?_
      refine pv_callVi (q := 409) (rest := []) C hKl (c_X6_deltas l X D P N (W + 800 * p) h) tw_901 (show kd 0 = 6 from rfl) (by decide) rfl mm_X6_deltas ⟨rfl, rfl⟩ (by rw [hKR]; exact ⟨Nat.le_of_ble_eq_true rfl, Nat.le_of_ble_eq_true rfl⟩) (by rw [hKR]; constructor <;> (dsimp only; omega)) rfl rfl rfl (Nat.le_of_ble_eq_true rfl) dL_follows_406 rfl (fun r100 D100 P100 q100 => ?_)
      obtain ⟨rfl, rfl, rfl⟩ := q100
      have hR100 := h
      rw [hF.1]
      refine pv_istore (q := 411) C dL_follows_409 rfl (Nat.le_of_ble_eq_true rfl) rfl ?_
      refine pv_aload_n (q := 412) C dL_follows_411 rfl rfl rfl ?_
      refine pv_iload_n (q := 413) C dL_follows_412 rfl rfl rfl ?_
      refine pv_callLl (q := 416) (rest := []) C Z hNC hKl (c_L_isFree l X D P hfl N (W + 800 * p) hR100 (nI p)) tw_781 mw_L_isFree ⟨rfl, rfl⟩ (by rw [hKR]; exact ⟨Nat.le_of_ble_eq_true rfl, Nat.le_of_ble_eq_true rfl⟩) (by rw [hKR]; constructor <;> (dsimp only; omega)) rfl rfl rfl (Nat.le_of_ble_eq_true rfl) dL_follows_413 rfl (fun r101 D101 P101 q101 => ?_)
      obtain ⟨e101, hR101⟩ := q101
      obtain rfl : r101 = (((if R0 p = 0 then 1 else 0) : Int32).toInt64) := e101.trans (by rw [hF.1, wv_0 (kP_0 hp), ix_n (by omega)])
      refine pv_lconst (q := 417) (v := 1) C dL_follows_416 rfl (by decide) ?_
      refine pv_lcmp (q := 418) C dL_follows_417 rfl ?_
      refine pv_if_ne (q := 421) (tgt := 556) C dL_follows_418 (by decide) rfl (fun c => ?_) (fun c => ?_)
      ·
        have e1 := f10 c
        obtain ⟨rc1, rc2, rc3⟩ := rep_o (g := R0 p) (a := nI (x % 50)) hfl0 hdl0 hp
        obtain ⟨rg1, rg2, rg3⟩ := rep_o (g := nI (x % 4) + 1) (a := R0 (16 + p)) hfl0 hdl0 hp
        obtain ⟨rd1, rd2⟩ := del_o hfl0 hdl0 hp
        refine pv_aload_n (q := 557) C dL_follows_556 rfl rfl rfl ?_
        refine pv_iload_n (q := 558) C dL_follows_557 rfl rfl rfl ?_
        refine pv_callLl (q := 561) (rest := []) C Z hNC hKl (c_L_amountAt l X D101 P101 hfl N (W + 800 * p) hR101 (nI p)) tw_789 mw_L_amountAt ⟨rfl, rfl⟩ (by rw [hKR]; exact ⟨Nat.le_of_ble_eq_true rfl, Nat.le_of_ble_eq_true rfl⟩) (by rw [hKR]; constructor <;> (dsimp only; omega)) rfl rfl rfl (Nat.le_of_ble_eq_true rfl) dL_follows_558 rfl (fun r103 D103 P103 q103 => ?_)
        obtain ⟨e103, hR103⟩ := q103
        obtain rfl : r103 = (((R0 (16 + p)) : Int32).toInt64) := e103.trans (by rw [hF.1, wv_0 (kRow_0 hp (e1)), ix_n (by omega)])
        refine pv_lstore (q := 563) C dL_follows_561 rfl (Nat.le_of_ble_eq_true rfl) rfl ?_
        refine pv_aload_n (q := 564) C dL_follows_563 rfl rfl rfl ?_
        refine pv_iload_n (q := 565) C dL_follows_564 rfl rfl rfl ?_
        refine pv_callLl (q := 568) (rest := []) C Z hNC hKl (c_L_groupAt l X D103 P103 hfl N (W + 800 * p) hR103 (nI p)) tw_785 mw_L_groupAt ⟨rfl, rfl⟩ (by rw [hKR]; exact ⟨Nat.le_of_ble_eq_true rfl, Nat.le_of_ble_eq_true rfl⟩) (by rw [hKR]; constructor <;> (dsimp only; omega)) rfl rfl rfl (Nat.le_of_ble_eq_true rfl) dL_follows_565 rfl (fun r104 D104 P104 q104 => ?_)
        obtain ⟨e104, hR104⟩ := q104
        obtain rfl : r104 = (((R0 p - 1) : Int32).toInt64) := e104.trans (by rw [hF.1, wv_0 (kRow_0 hp (e1)), ix_n (by omega)])
        refine pv_lstore (q := 570) C dL_follows_568 rfl (Nat.le_of_ble_eq_true rfl) rfl ?_
        refine pv_aload_n (q := 571) C dL_follows_570 rfl rfl rfl ?_
        refine pv_iload_n (q := 572) C dL_follows_571 rfl rfl rfl ?_
        refine pv_iload_n (q := 573) C dL_follows_572 rfl rfl rfl ?_
        refine pv_bipush (q := 575) (v := 50) C dL_follows_573 rfl (by decide) ?_
        refine pv_iremN (q := 576) (a := x) (b := 50) C rfl rfl (by omega) (by decide) (by decide) dL_follows_575 rfl ?_
        refine pv_callLl (q := 579) (rest := []) C Z hNC hKl (c_L_change l X D104 P104 hfl N (W + 800 * p) hR104 (by omega) (nI p) (nI (x % 50))) tw_656 mw_L_change ⟨rfl, rfl⟩ (by rw [hKR]; exact ⟨Nat.le_of_ble_eq_true rfl, Nat.le_of_ble_eq_true rfl⟩) (by rw [hKR]; constructor <;> (dsimp only; omega)) rfl rfl rfl (Nat.le_of_ble_eq_true rfl) dL_follows_576 rfl (fun r105 D105 P105 q105 => ?_)
        obtain ⟨e105, hR105⟩ := QE.ok q105 (by unfold kChg; rw [if_pos (rg_p hp), if_pos (rg_nn (by have := Nat.mod_lt x (show 0 < 50 by omega); omega)), ix_n (by omega), hF.1, if_neg e1])
        obtain rfl : r105 = ((R0 (16 + p) : Int32).toInt64) := e105.trans (by rw [hF.1, ix_n (by omega)])
        obtain ⟨E_c, hE_c⟩ : ∃ E, E = va_up (m_save (clr N)) 7 (m_rep (N 7) (ix (nI p)) (N 7 (ix (nI p))) (nI (x % 50))) := ⟨_, rfl⟩
        rw [← hE_c] at hR105
        obtain ⟨z7_c, s_c, s5_c, s3_c, s0_c, un_c⟩ := und_FI hF hE_c
        have e7_c : E_c 7 = m_rep R0 p (R0 p) (nI (x % 50)) := z7_c.trans (by rw [hF.1, ix_n (by omega)])
        have hS_c := hR105.1
        rw [e7_c] at hS_c
        refine pv_lload (q := 581) C dL_follows_579 rfl rfl ?_
        refine pv_lcmp (q := 582) C dL_follows_581 rfl ?_
        refine pv_if_ne (q := 585) (tgt := 725) C dL_follows_582 (by decide) rfl (fun c582_106 => False.elim (c582_106 ((lg_cmp_eq _ _).mpr (rfl)))) (fun _ => ?_)
        refine pv_aload_n (q := 586) C dL_follows_585 rfl rfl rfl ?_
        refine pv_callVi (q := 589) (rest := []) C hKl (c_X6_deltas l X D105 P105 E_c (W + 800 * p + 130) hR105) tw_901 (show kd 0 = 6 from rfl) (by decide) rfl mm_X6_deltas ⟨rfl, rfl⟩ (by rw [hKR]; exact ⟨Nat.le_of_ble_eq_true rfl, Nat.le_of_ble_eq_true rfl⟩) (by rw [hKR]; constructor <;> (dsimp only; omega)) rfl rfl rfl (Nat.le_of_ble_eq_true rfl) dL_follows_586 rfl (fun r107 D107 P107 q107 => ?_)
        obtain ⟨rfl, rfl, rfl⟩ := q107
        have hR107 := hR105
        rw [e7_c]
        refine pv_iload (q := 591) C dL_follows_589 rfl rfl ?_
        refine pv_iconst (q := 592) (v := 2) C dL_follows_591 rfl (by decide) ?_
        refine pv_iadd (q := 593) C dL_follows_592 rfl ?_
        refine pv_icmp_ne (q := 596) (tgt := 725) C dL_follows_593 (by decide) rfl (fun c593_108 => False.elim (c593_108 (rc3))) (fun _ => ?_)
        refine pv_aload_n (q := 597) C dL_follows_596 rfl rfl rfl ?_
        refine pv_iload_n (q := 598) C dL_follows_597 rfl rfl rfl ?_
        refine pv_callLl (q := 601) (rest := []) C Z hNC hKl (c_L_amountAt l X D105 P105 hfl E_c (W + 800 * p + 130) hR107 (nI p)) tw_789 mw_L_amountAt ⟨rfl, rfl⟩ (by rw [hKR]; exact ⟨Nat.le_of_ble_eq_true rfl, Nat.le_of_ble_eq_true rfl⟩) (by rw [hKR]; constructor <;> (dsimp only; omega)) rfl rfl rfl (Nat.le_of_ble_eq_true rfl) dL_follows_598 rfl (fun r109 D109 P109 q109 => ?_)
        obtain ⟨e109, hR109⟩ := q109
        obtain rfl : r109 = ((((m_rep R0 p (R0 p) (nI (x % 50))) (16 + p)) : Int32).toInt64) := e109.trans (by rw [e7_c, wv_0 (kRow_0 hp (by rw [rc1]; exact e1)), ix_n (by omega)])
        refine pv_iload_n (q := 602) C dL_follows_601 rfl rfl rfl ?_
        refine pv_i2l (q := 603) C dL_follows_602 rfl ?_
        refine pv_ldc2 (q := 606) C dL_follows_603 rfl tw_946 ?_
        refine pv_lrem (q := 607) C dL_follows_606 rfl (by decide) ?_
        refine pv_lcmp (q := 608) C dL_follows_607 rfl ?_
        refine pv_if_ne (q := 611) (tgt := 725) C dL_follows_608 (by decide) rfl (fun c608_110 => False.elim (c608_110 ((lg_cmp_eq _ _).mpr (by rw [rc2]; exact (l_rem50 hx).symm)))) (fun _ => ?_)
        refine pv_aload_n (q := 612) C dL_follows_611 rfl rfl rfl ?_
        refine pv_callLl (q := 615) (rest := []) C Z hNC hKl (c_L_undo l X D109 P109 hfl E_c (W + 800 * p + 130) hR109 (by omega) s_c s5_c s3_c) tw_938 mw_L_undo ⟨rfl, rfl⟩ (by rw [hKR]; exact ⟨Nat.le_of_ble_eq_true rfl, Nat.le_of_ble_eq_true rfl⟩) (by rw [hKR]; constructor <;> (dsimp only; omega)) rfl rfl rfl (Nat.le_of_ble_eq_true rfl) dL_follows_612 rfl (fun r111 D111 P111 q111 => ?_)
        obtain ⟨e111, hR111⟩ := QE.ok q111 (if_neg s0_c)
        obtain rfl : r111 = ((nI (s_c - 1)).toInt64) := e111.trans (rfl)
        obtain ⟨N_2, hF, hRn_2⟩ := un_c _ _ _ hR111
        refine pv_lconst (q := 616) (v := 0) C dL_follows_615 rfl (by decide) ?_
        refine pv_lcmp (q := 617) C dL_follows_616 rfl ?_
        refine pv_if_lt (q := 620) (tgt := 725) C dL_follows_617 (by decide) rfl (fun c617_112 => False.elim (Int64.not_le.mpr ((lg_cmp_lt _ _).mp c617_112) (l_p (n := 0) (by omega) (by omega) (Nat.zero_le _)))) (fun _ => ?_)
        refine pv_aload_n (q := 621) C dL_follows_620 rfl rfl rfl ?_
        refine pv_iload_n (q := 622) C dL_follows_621 rfl rfl rfl ?_
        refine pv_iload_n (q := 623) C dL_follows_622 rfl rfl rfl ?_
        refine pv_iconst (q := 624) (v := 4) C dL_follows_623 rfl (by decide) ?_
        refine pv_iremN (q := 625) (a := x) (b := 4) C rfl rfl (by omega) (by decide) (by decide) dL_follows_624 rfl ?_
        refine pv_callLl (q := 628) (rest := []) C Z hNC hKl (c_L_regroup l X D111 P111 hfl N_2 (W + 800 * p + 130 + 130) hRn_2 (by omega) (nI p) (nI (x % 4))) tw_667 mw_L_regroup ⟨rfl, rfl⟩ (by rw [hKR]; exact ⟨Nat.le_of_ble_eq_true rfl, Nat.le_of_ble_eq_true rfl⟩) (by rw [hKR]; constructor <;> (dsimp only; omega)) rfl rfl rfl (Nat.le_of_ble_eq_true rfl) dL_follows_625 rfl (fun r113 D113 P113 q113 => ?_)
        obtain ⟨e113, hR113⟩ := QE.ok q113 (by unfold kReg; rw [if_pos ⟨rg_p hp, rg_g (Nat.mod_lt _ (by omega))⟩, ix_n (by omega), hF.1, if_neg e1])
        obtain rfl : r113 = ((R0 p - 1 : Int32).toInt64) := e113.trans (by rw [hF.1, ix_n (by omega)])
        obtain ⟨E_g, hE_g⟩ : ∃ E, E = va_up (m_save (clr N_2)) 7 (m_rep (N_2 7) (ix (nI p)) (nI (x % 4) + 1) (N_2 7 (16 + ix (nI p)))) := ⟨_, rfl⟩
        rw [← hE_g] at hR113
        obtain ⟨z7_g, s_g, s5_g, s3_g, s0_g, un_g⟩ := und_FI hF hE_g
        have e7_g : E_g 7 = m_rep R0 p (nI (x % 4) + 1) (R0 (16 + p)) := z7_g.trans (by rw [hF.1, ix_n (by omega)])
        have hS_g := hR113.1
        rw [e7_g] at hS_g
        refine pv_lload (q := 630) C dL_follows_628 rfl rfl ?_
        refine pv_lcmp (q := 631) C dL_follows_630 rfl ?_
        refine pv_if_ne (q := 634) (tgt := 725) C dL_follows_631 (by decide) rfl (fun c631_114 => False.elim (c631_114 ((lg_cmp_eq _ _).mpr (rfl)))) (fun _ => ?_)
        refine pv_aload_n (q := 635) C dL_follows_634 rfl rfl rfl ?_
        refine pv_iload_n (q := 636) C dL_follows_635 rfl rfl rfl ?_
        refine pv_callLl (q := 639) (rest := []) C Z hNC hKl (c_L_groupAt l X D113 P113 hfl E_g (W + 800 * p + 130 + 130 + 130) hR113 (nI p)) tw_785 mw_L_groupAt ⟨rfl, rfl⟩ (by rw [hKR]; exact ⟨Nat.le_of_ble_eq_true rfl, Nat.le_of_ble_eq_true rfl⟩) (by rw [hKR]; constructor <;> (dsimp only; omega)) rfl rfl rfl (Nat.le_of_ble_eq_true rfl) dL_follows_636 rfl (fun r115 D115 P115 q115 => ?_)
        obtain ⟨e115, hR115⟩ := q115
        obtain rfl : r115 = ((((m_rep R0 p (nI (x % 4) + 1) (R0 (16 + p))) p - 1) : Int32).toInt64) := e115.trans (by rw [e7_g, wv_0 (kRow_0 hp (by rw [rg1]; exact g1_ne (Nat.mod_lt _ (by omega)))), ix_n (by omega)])
        refine pv_iload_n (q := 640) C dL_follows_639 rfl rfl rfl ?_
        refine pv_i2l (q := 641) C dL_follows_640 rfl ?_
        refine pv_ldc2 (q := 644) C dL_follows_641 rfl tw_947 ?_
        refine pv_lrem (q := 645) C dL_follows_644 rfl (by decide) ?_
        refine pv_lcmp (q := 646) C dL_follows_645 rfl ?_
        refine pv_if_ne (q := 649) (tgt := 725) C dL_follows_646 (by decide) rfl (fun c646_116 => False.elim (c646_116 ((lg_cmp_eq _ _).mpr (by rw [rg1, i32_mp]; exact (l_rem4 hx).symm)))) (fun _ => ?_)
        refine pv_aload_n (q := 650) C dL_follows_649 rfl rfl rfl ?_
        refine pv_callLl (q := 653) (rest := []) C Z hNC hKl (c_L_undo l X D115 P115 hfl E_g (W + 800 * p + 130 + 130 + 130) hR115 (by omega) s_g s5_g s3_g) tw_938 mw_L_undo ⟨rfl, rfl⟩ (by rw [hKR]; exact ⟨Nat.le_of_ble_eq_true rfl, Nat.le_of_ble_eq_true rfl⟩) (by rw [hKR]; constructor <;> (dsimp only; omega)) rfl rfl rfl (Nat.le_of_ble_eq_true rfl) dL_follows_650 rfl (fun r117 D117 P117 q117 => ?_)
        obtain ⟨e117, hR117⟩ := QE.ok q117 (if_neg s0_g)
        obtain rfl : r117 = ((nI (s_g - 1)).toInt64) := e117.trans (rfl)
        obtain ⟨N_3, hF, hRn_3⟩ := un_g _ _ _ hR117
        refine pv_lconst (q := 654) (v := 0) C dL_follows_653 rfl (by decide) ?_
        refine pv_lcmp (q := 655) C dL_follows_654 rfl ?_
        refine pv_if_lt (q := 658) (tgt := 725) C dL_follows_655 (by decide) rfl (fun c655_118 => False.elim (Int64.not_le.mpr ((lg_cmp_lt _ _).mp c655_118) (l_p (n := 0) (by omega) (by omega) (Nat.zero_le _)))) (fun _ => ?_)
        refine pv_aload_n (q := 659) C dL_follows_658 rfl rfl rfl ?_
        refine pv_iload_n (q := 660) C dL_follows_659 rfl rfl rfl ?_
        refine pv_callLl (q := 663) (rest := []) C Z hNC hKl (c_L_delete l X D117 P117 hfl N_3 (W + 800 * p + 130 + 130 + 130 + 130) hRn_3 (by omega) (nI p)) tw_674 mw_L_delete ⟨rfl, rfl⟩ (by rw [hKR]; exact ⟨Nat.le_of_ble_eq_true rfl, Nat.le_of_ble_eq_true rfl⟩) (by rw [hKR]; constructor <;> (dsimp only; omega)) rfl rfl rfl (Nat.le_of_ble_eq_true rfl) dL_follows_660 rfl (fun r119 D119 P119 q119 => ?_)
        obtain ⟨e119, hR119⟩ := QE.ok q119 (by rw [hF.1]; exact kRow_0 hp e1)
        obtain rfl : r119 = ((R0 (16 + p) : Int32).toInt64) := e119.trans (by rw [hF.1, ix_n (by omega)])
        obtain ⟨E_d, hE_d⟩ : ∃ E, E = va_up (m_save (clr N_3)) 7 (m_del (N_3 7) (ix (nI p))) := ⟨_, rfl⟩
        rw [← hE_d] at hR119
        obtain ⟨z7_d, s_d, s5_d, s3_d, s0_d, un_d⟩ := und_FI hF hE_d
        have e7_d : E_d 7 = m_del R0 p := z7_d.trans (by rw [hF.1, ix_n (by omega)])
        have hS_d := hR119.1
        rw [e7_d] at hS_d
        refine pv_lload (q := 665) C dL_follows_663 rfl rfl ?_
        refine pv_lcmp (q := 666) C dL_follows_665 rfl ?_
        refine pv_if_ne (q := 669) (tgt := 725) C dL_follows_666 (by decide) rfl (fun c666_120 => False.elim (c666_120 ((lg_cmp_eq _ _).mpr (rfl)))) (fun _ => ?_)
        refine pv_aload_n (q := 670) C dL_follows_669 rfl rfl rfl ?_
        refine pv_callVi (q := 673) (rest := []) C hKl (c_X6_deltas l X D119 P119 E_d (W + 800 * p + 130 + 130 + 130 + 130 + 130) hR119) tw_901 (show kd 0 = 6 from rfl) (by decide) rfl mm_X6_deltas ⟨rfl, rfl⟩ (by rw [hKR]; exact ⟨Nat.le_of_ble_eq_true rfl, Nat.le_of_ble_eq_true rfl⟩) (by rw [hKR]; constructor <;> (dsimp only; omega)) rfl rfl rfl (Nat.le_of_ble_eq_true rfl) dL_follows_670 rfl (fun r121 D121 P121 q121 => ?_)
        obtain ⟨rfl, rfl, rfl⟩ := q121
        have hR121 := hR119
        rw [e7_d]
        refine pv_iload (q := 675) C dL_follows_673 rfl rfl ?_
        refine pv_iconst (q := 676) (v := 1) C dL_follows_675 rfl (by decide) ?_
        refine pv_iadd (q := 677) C dL_follows_676 rfl ?_
        refine pv_icmp_ne (q := 680) (tgt := 725) C dL_follows_677 (by decide) rfl (fun c677_122 => False.elim (c677_122 (rd2))) (fun _ => ?_)
        refine pv_aload_n (q := 681) C dL_follows_680 rfl rfl rfl ?_
        refine pv_iload_n (q := 682) C dL_follows_681 rfl rfl rfl ?_
        refine pv_callLl (q := 685) (rest := []) C Z hNC hKl (c_L_isFree l X D119 P119 hfl E_d (W + 800 * p + 130 + 130 + 130 + 130 + 130) hR121 (nI p)) tw_781 mw_L_isFree ⟨rfl, rfl⟩ (by rw [hKR]; exact ⟨Nat.le_of_ble_eq_true rfl, Nat.le_of_ble_eq_true rfl⟩) (by rw [hKR]; constructor <;> (dsimp only; omega)) rfl rfl rfl (Nat.le_of_ble_eq_true rfl) dL_follows_682 rfl (fun r123 D123 P123 q123 => ?_)
        obtain ⟨e123, hR123⟩ := q123
        obtain rfl : r123 = (((if (m_del R0 p) p = 0 then 1 else 0) : Int32).toInt64) := e123.trans (by rw [e7_d, wv_0 (kP_0 hp), ix_n (by omega)])
        refine pv_lconst (q := 686) (v := 1) C dL_follows_685 rfl (by decide) ?_
        refine pv_lcmp (q := 687) C dL_follows_686 rfl ?_
        refine pv_if_ne (q := 690) (tgt := 725) C dL_follows_687 (by decide) rfl (fun c687_124 => False.elim (c687_124 ((lg_cmp_eq _ _).mpr (by rw [rd1]; rfl)))) (fun _ => ?_)
        refine pv_aload_n (q := 691) C dL_follows_690 rfl rfl rfl ?_
        refine pv_callLl (q := 694) (rest := []) C Z hNC hKl (c_L_undo l X D123 P123 hfl E_d (W + 800 * p + 130 + 130 + 130 + 130 + 130) hR123 (by omega) s_d s5_d s3_d) tw_938 mw_L_undo ⟨rfl, rfl⟩ (by rw [hKR]; exact ⟨Nat.le_of_ble_eq_true rfl, Nat.le_of_ble_eq_true rfl⟩) (by rw [hKR]; constructor <;> (dsimp only; omega)) rfl rfl rfl (Nat.le_of_ble_eq_true rfl) dL_follows_691 rfl (fun r125 D125 P125 q125 => ?_)
        obtain ⟨e125, hR125⟩ := QE.ok q125 (if_neg s0_d)
        obtain rfl : r125 = ((nI (s_d - 1)).toInt64) := e125.trans (rfl)
        obtain ⟨N_4, hF, hRn_4⟩ := un_d _ _ _ hR125
        refine pv_lconst (q := 695) (v := 0) C dL_follows_694 rfl (by decide) ?_
        refine pv_lcmp (q := 696) C dL_follows_695 rfl ?_
        refine pv_if_lt (q := 699) (tgt := 725) C dL_follows_696 (by decide) rfl (fun c696_126 => False.elim (Int64.not_le.mpr ((lg_cmp_lt _ _).mp c696_126) (l_p (n := 0) (by omega) (by omega) (Nat.zero_le _)))) (fun _ => ?_)
        refine pv_aload_n (q := 700) C dL_follows_699 rfl rfl rfl ?_
        refine pv_iload_n (q := 701) C dL_follows_700 rfl rfl rfl ?_
        refine pv_callLl (q := 704) (rest := []) C Z hNC hKl (c_L_amountAt l X D125 P125 hfl N_4 (W + 800 * p + 130 + 130 + 130 + 130 + 130 + 130) hRn_4 (nI p)) tw_789 mw_L_amountAt ⟨rfl, rfl⟩ (by rw [hKR]; exact ⟨Nat.le_of_ble_eq_true rfl, Nat.le_of_ble_eq_true rfl⟩) (by rw [hKR]; constructor <;> (dsimp only; omega)) rfl rfl rfl (Nat.le_of_ble_eq_true rfl) dL_follows_701 rfl (fun r127 D127 P127 q127 => ?_)
        obtain ⟨e127, hR127⟩ := q127
        obtain rfl : r127 = (((R0 (16 + p)) : Int32).toInt64) := e127.trans (by rw [hF.1, wv_0 (kRow_0 hp (e1)), ix_n (by omega)])
        refine pv_lload (q := 706) C dL_follows_704 rfl rfl ?_
        refine pv_lcmp (q := 707) C dL_follows_706 rfl ?_
        refine pv_if_ne (q := 710) (tgt := 725) C dL_follows_707 (by decide) rfl (fun c707_128 => False.elim (c707_128 ((lg_cmp_eq _ _).mpr (rfl)))) (fun _ => ?_)
        refine pv_aload_n (q := 711) C dL_follows_710 rfl rfl rfl ?_
        refine pv_iload_n (q := 712) C dL_follows_711 rfl rfl rfl ?_
        refine pv_callLl (q := 715) (rest := []) C Z hNC hKl (c_L_groupAt l X D127 P127 hfl N_4 (W + 800 * p + 130 + 130 + 130 + 130 + 130 + 130) hR127 (nI p)) tw_785 mw_L_groupAt ⟨rfl, rfl⟩ (by rw [hKR]; exact ⟨Nat.le_of_ble_eq_true rfl, Nat.le_of_ble_eq_true rfl⟩) (by rw [hKR]; constructor <;> (dsimp only; omega)) rfl rfl rfl (Nat.le_of_ble_eq_true rfl) dL_follows_712 rfl (fun r129 D129 P129 q129 => ?_)
        obtain ⟨e129, hR129⟩ := q129
        obtain rfl : r129 = (((R0 p - 1) : Int32).toInt64) := e129.trans (by rw [hF.1, wv_0 (kRow_0 hp (e1)), ix_n (by omega)])
        refine pv_lload (q := 717) C dL_follows_715 rfl rfl ?_
        refine pv_lcmp (q := 718) C dL_follows_717 rfl ?_
        refine pv_if_ne (q := 721) (tgt := 725) C dL_follows_718 (by decide) rfl (fun c718_130 => False.elim (c718_130 ((lg_cmp_eq _ _).mpr (rfl)))) (fun _ => ?_)
        refine pv_iconst (q := 722) (v := 1) C dL_follows_721 rfl (by decide) ?_
        refine pv_goto (tgt := 726) C dL_follows_722 (by decide) ?_
        refine pv_istore_n (q := 727) C dL_follows_726 rfl rfl (Nat.le_of_ble_eq_true rfl) rfl ?_
        refine pv_iinc (q := 730) (v := nI (p + 1)) C dL_follows_727 rfl rfl (nI_add _ _) rfl ?_
        refine pv_goto (tgt := 395) C dL_follows_730 (by decide) ?_
        exact PV_widen (by omega) (by omega) (PV_le (ih (p + 1) D129 P129 N_4 hF (RI_W hR129 (by omega)) (by omega) (by omega)) ⟨Or.inr rfl, Or.inr rfl, Or.inr rfl, Or.inr rfl, Or.inl rfl, Or.inl rfl, Or.inl rfl, Or.inl rfl, Or.inl rfl, Or.inl rfl, Or.inl rfl, Or.inl rfl, Or.inl rfl, Or.inl rfl, Or.inl rfl, trivial⟩)
      ·
        have e1 := f11 c
        obtain ⟨io1, io2, io3, io4, io5⟩ := ins_o (g := nI ((x % 4 + p) % 4)) (a := (nI (x % 199) - 99)) hfl0 hdl0 hp
        refine pv_iload_n (q := 422) C dL_follows_421 rfl rfl rfl ?_
        refine pv_iconst (q := 423) (v := 4) C dL_follows_422 rfl (by decide) ?_
        refine pv_iremN (q := 424) (a := x) (b := 4) C rfl rfl (by omega) (by decide) (by decide) dL_follows_423 rfl ?_
        refine pv_iload_n (q := 425) C dL_follows_424 rfl rfl rfl ?_
        refine pv_iaddN (q := 426) (a := (x % 4)) (b := p) C rfl rfl dL_follows_425 rfl ?_
        refine pv_iconst (q := 427) (v := 4) C dL_follows_426 rfl (by decide) ?_
        refine pv_iremN (q := 428) (a := ((x % 4) + p)) (b := 4) C rfl rfl (by omega) (by decide) (by decide) dL_follows_427 rfl ?_
        refine pv_istore (q := 430) C dL_follows_428 rfl (Nat.le_of_ble_eq_true rfl) rfl ?_
        refine pv_iload_n (q := 431) C dL_follows_430 rfl rfl rfl ?_
        refine pv_sipush (q := 434) (v := 199) C dL_follows_431 rfl (by decide) ?_
        refine pv_iremN (q := 435) (a := x) (b := 199) C rfl rfl (by omega) (by decide) (by decide) dL_follows_434 rfl ?_
        refine pv_bipush (q := 437) (v := 99) C dL_follows_435 rfl (by decide) ?_
        refine pv_isub (q := 438) C dL_follows_437 rfl ?_
        refine pv_istore (q := 440) C dL_follows_438 rfl (Nat.le_of_ble_eq_true rfl) rfl ?_
        refine pv_aload_n (q := 441) C dL_follows_440 rfl rfl rfl ?_
        refine pv_callVi (q := 444) (rest := []) C hKl (c_X6_rows l X D101 P101 N (W + 800 * p) hR101) tw_259 (show kd 0 = 6 from rfl) (by decide) rfl mm_X6_rows ⟨rfl, rfl⟩ (by rw [hKR]; exact ⟨Nat.le_of_ble_eq_true rfl, Nat.le_of_ble_eq_true rfl⟩) (by rw [hKR]; constructor <;> (dsimp only; omega)) rfl rfl rfl (Nat.le_of_ble_eq_true rfl) dL_follows_441 rfl (fun r131 D131 P131 q131 => ?_)
        obtain ⟨rfl, rfl, rfl⟩ := q131
        have hR131 := hR101
        rw [hF.1]
        refine pv_istore (q := 446) C dL_follows_444 rfl (Nat.le_of_ble_eq_true rfl) rfl ?_
        refine pv_aload_n (q := 447) C dL_follows_446 rfl rfl rfl ?_
        refine pv_iconst (q := 448) (v := 0) C dL_follows_447 rfl (by decide) ?_
        refine PV_st (st' := [.int (nI 0), .ref (X.2.2 0)]) rfl ?_
        refine pv_iload (q := 450) C dL_follows_448 rfl rfl ?_
        refine pv_callLl (q := 453) (rest := []) C Z hNC hKl (c_L_tableCount l X D101 P101 hfl N (W + 800 * p) hR131 (nI 0) (nI (((x % 4) + p) % 4))) tw_876 mw_L_tableCount ⟨rfl, rfl⟩ (by rw [hKR]; exact ⟨Nat.le_of_ble_eq_true rfl, Nat.le_of_ble_eq_true rfl⟩) (by rw [hKR]; constructor <;> (dsimp only; omega)) rfl rfl rfl (Nat.le_of_ble_eq_true rfl) dL_follows_450 rfl (fun r132 D132 P132 q132 => ?_)
        obtain ⟨e132, hR132⟩ := q132
        obtain rfl : r132 = (((nI (TN (R0) 0 (((x % 4) + p) % 4))) : Int32).toInt64) := e132.trans (by rw [hF.1, wv_0 (kGr_0 (show 0 < 3 by omega) hgg), ix_n (by omega), ix_n (by omega)])
        refine pv_lstore (q := 455) C dL_follows_453 rfl (Nat.le_of_ble_eq_true rfl) rfl ?_
        refine pv_aload_n (q := 456) C dL_follows_455 rfl rfl rfl ?_
        refine pv_iload_n (q := 457) C dL_follows_456 rfl rfl rfl ?_
        refine pv_iload (q := 459) C dL_follows_457 rfl rfl ?_
        refine pv_iload (q := 461) C dL_follows_459 rfl rfl ?_
        refine pv_callLl (q := 464) (rest := []) C Z hNC hKl (c_L_insert l X D132 P132 hfl N (W + 800 * p) hR132 (by omega) (nI p) (nI (((x % 4) + p) % 4)) ((nI (x % 199)) - 99)) tw_598 mw_L_insert ⟨rfl, rfl⟩ (by rw [hKR]; exact ⟨Nat.le_of_ble_eq_true rfl, Nat.le_of_ble_eq_true rfl⟩) (by rw [hKR]; constructor <;> (dsimp only; omega)) rfl rfl rfl (Nat.le_of_ble_eq_true rfl) dL_follows_461 rfl (fun r133 D133 P133 q133 => ?_)
        obtain ⟨e133, hR133⟩ := QE.ok q133 (by unfold kIns; rw [if_pos ⟨rg_p hp, rg_g hgg⟩, if_pos (rg_a199 (Nat.mod_lt _ (by omega))), ix_n (by omega), hF.1, if_pos e1])
        obtain rfl : r133 = ((nI (tk R0 + 1)).toInt64) := e133.trans (by rw [hF.1, ix_n (by omega), tk_ins hp e1 io1 (by rw [io2]; exact g1_ne hgg)])
        obtain ⟨E_i, hE_i⟩ : ∃ E, E = va_up (m_save (clr N)) 7 (m_ins (N 7) (ix (nI p)) (nI ((x % 4 + p) % 4)) (nI (x % 199) - 99)) := ⟨_, rfl⟩
        rw [← hE_i] at hR133
        obtain ⟨z7_i, s_i, s5_i, s3_i, s0_i, un_i⟩ := und_FI hF hE_i
        have e7_i : E_i 7 = m_ins R0 p (nI ((x % 4 + p) % 4)) (nI (x % 199) - 99) := z7_i.trans (by rw [hF.1, ix_n (by omega)])
        have hS_i := hR133.1
        rw [e7_i] at hS_i
        refine pv_iload (q := 466) C dL_follows_464 rfl rfl ?_
        refine pv_i2l (q := 467) C dL_follows_466 rfl ?_
        refine pv_lconst (q := 468) (v := 1) C dL_follows_467 rfl (by decide) ?_
        refine pv_ladd (q := 469) C dL_follows_468 rfl ?_
        refine pv_lcmp (q := 470) C dL_follows_469 rfl ?_
        refine pv_if_ne (q := 473) (tgt := 551) C dL_follows_470 (by decide) rfl (fun c470_134 => False.elim (c470_134 ((lg_cmp_eq _ _).mpr (l_s1 (by omega))))) (fun _ => ?_)
        refine pv_aload_n (q := 474) C dL_follows_473 rfl rfl rfl ?_
        refine pv_callVi (q := 477) (rest := []) C hKl (c_X6_deltas l X D133 P133 E_i (W + 800 * p + 130) hR133) tw_901 (show kd 0 = 6 from rfl) (by decide) rfl mm_X6_deltas ⟨rfl, rfl⟩ (by rw [hKR]; exact ⟨Nat.le_of_ble_eq_true rfl, Nat.le_of_ble_eq_true rfl⟩) (by rw [hKR]; constructor <;> (dsimp only; omega)) rfl rfl rfl (Nat.le_of_ble_eq_true rfl) dL_follows_474 rfl (fun r135 D135 P135 q135 => ?_)
        obtain ⟨rfl, rfl, rfl⟩ := q135
        have hR135 := hR133
        rw [e7_i]
        refine pv_iload (q := 479) C dL_follows_477 rfl rfl ?_
        refine pv_iconst (q := 480) (v := 1) C dL_follows_479 rfl (by decide) ?_
        refine pv_iadd (q := 481) C dL_follows_480 rfl ?_
        refine pv_icmp_ne (q := 484) (tgt := 551) C dL_follows_481 (by decide) rfl (fun c481_136 => False.elim (c481_136 (io4))) (fun _ => ?_)
        refine pv_aload_n (q := 485) C dL_follows_484 rfl rfl rfl ?_
        refine pv_iload_n (q := 486) C dL_follows_485 rfl rfl rfl ?_
        refine pv_callLl (q := 489) (rest := []) C Z hNC hKl (c_L_amountAt l X D133 P133 hfl E_i (W + 800 * p + 130) hR135 (nI p)) tw_789 mw_L_amountAt ⟨rfl, rfl⟩ (by rw [hKR]; exact ⟨Nat.le_of_ble_eq_true rfl, Nat.le_of_ble_eq_true rfl⟩) (by rw [hKR]; constructor <;> (dsimp only; omega)) rfl rfl rfl (Nat.le_of_ble_eq_true rfl) dL_follows_486 rfl (fun r137 D137 P137 q137 => ?_)
        obtain ⟨e137, hR137⟩ := q137
        obtain rfl : r137 = ((((m_ins R0 p (nI ((x % 4 + p) % 4)) (nI (x % 199) - 99)) (16 + p)) : Int32).toInt64) := e137.trans (by rw [e7_i, wv_0 (kRow_0 hp (by rw [io2]; exact g1_ne hgg)), ix_n (by omega)])
        refine pv_iload (q := 491) C dL_follows_489 rfl rfl ?_
        refine pv_i2l (q := 492) C dL_follows_491 rfl ?_
        refine pv_lcmp (q := 493) C dL_follows_492 rfl ?_
        refine pv_if_ne (q := 496) (tgt := 551) C dL_follows_493 (by decide) rfl (fun c493_138 => False.elim (c493_138 ((lg_cmp_eq _ _).mpr (by rw [io3])))) (fun _ => ?_)
        refine pv_aload_n (q := 497) C dL_follows_496 rfl rfl rfl ?_
        refine pv_iconst (q := 498) (v := 0) C dL_follows_497 rfl (by decide) ?_
        refine PV_st (st' := [.int (nI 0), .ref (X.2.2 0)]) rfl ?_
        refine pv_iload (q := 500) C dL_follows_498 rfl rfl ?_
        refine pv_callLl (q := 503) (rest := []) C Z hNC hKl (c_L_tableCount l X D137 P137 hfl E_i (W + 800 * p + 130) hR137 (nI 0) (nI (((x % 4) + p) % 4))) tw_876 mw_L_tableCount ⟨rfl, rfl⟩ (by rw [hKR]; exact ⟨Nat.le_of_ble_eq_true rfl, Nat.le_of_ble_eq_true rfl⟩) (by rw [hKR]; constructor <;> (dsimp only; omega)) rfl rfl rfl (Nat.le_of_ble_eq_true rfl) dL_follows_500 rfl (fun r139 D139 P139 q139 => ?_)
        obtain ⟨e139, hR139⟩ := q139
        obtain rfl : r139 = (((nI (TN ((m_ins R0 p (nI ((x % 4 + p) % 4)) (nI (x % 199) - 99))) 0 (((x % 4) + p) % 4))) : Int32).toInt64) := e139.trans (by rw [e7_i, wv_0 (kGr_0 (show 0 < 3 by omega) hgg), ix_n (by omega), ix_n (by omega)])
        refine pv_iload (q := 505) C dL_follows_503 rfl rfl ?_
        refine pv_i2l (q := 506) C dL_follows_505 rfl ?_
        refine pv_aload_n (q := 507) C dL_follows_506 rfl rfl rfl ?_
        refine pv_iconst (q := 508) (v := 0) C dL_follows_507 rfl (by decide) ?_
        refine PV_st (st' := [.int (nI 0), .ref (X.2.2 0), .long (((nI (x % 199)) - 99)).toInt64, .long (((nI (TN ((m_ins R0 p (nI ((x % 4 + p) % 4)) (nI (x % 199) - 99))) 0 (((x % 4) + p) % 4))) : Int32).toInt64)]) rfl ?_
        refine pv_callLl (q := 511) (rest := [.long (((nI (x % 199)) - 99)).toInt64, .long (((nI (TN ((m_ins R0 p (nI ((x % 4 + p) % 4)) (nI (x % 199) - 99))) 0 (((x % 4) + p) % 4))) : Int32).toInt64)]) C Z hNC hKl (c_L_filterOf l X D139 P139 hfl E_i (W + 800 * p + 130) hR139 (nI 0)) tw_907 mw_L_filterOf ⟨rfl, rfl⟩ (by rw [hKR]; exact ⟨Nat.le_of_ble_eq_true rfl, Nat.le_of_ble_eq_true rfl⟩) (by rw [hKR]; constructor <;> (dsimp only; omega)) rfl rfl rfl (Nat.le_of_ble_eq_true rfl) dL_follows_508 rfl (fun r140 D140 P140 q140 => ?_)
        obtain ⟨e140, hR140⟩ := q140
        obtain rfl : r140 = ((((m_ins R0 p (nI ((x % 4 + p) % 4)) (nI (x % 199) - 99)) (32 + 38 * 0 + 34)) : Int32).toInt64) := e140.trans (by rw [e7_i, wv_0 (kView_0 (show 0 < 3 by omega)), ix_n (by omega)])
        refine pv_lcmp (q := 512) C dL_follows_511 rfl ?_
        refine pv_if_lt (q := 515) (tgt := 522) C dL_follows_512 (by decide) rfl (fun c5 => ?_) (fun c5 => ?_)
        ·
          have n5 : ¬ R0 (32 + 38 * 0 + 34) ≤ (nI (x % 199) - 99) := fun z => Int64.not_le.mpr ((lg_cmp_lt _ _).mp c5) (l_le.mpr (by rw [io5 0 (by omega)]; exact z))
          refine pv_lload (q := 524) C dL_follows_522 rfl rfl ?_
          refine pv_lcmp (q := 525) C dL_follows_524 rfl ?_
          refine pv_if_ne (q := 528) (tgt := 551) C dL_follows_525 (by decide) rfl (fun c525_142 => False.elim (c525_142 ((lg_cmp_eq _ _).mpr (by rw [TN_ins hp hgg e1 io1 io2 io3 (io5 0 (by omega)), if_neg n5, Nat.add_zero])))) (fun _ => ?_)
          refine pv_aload_n (q := 529) C dL_follows_528 rfl rfl rfl ?_
          refine pv_callLl (q := 532) (rest := []) C Z hNC hKl (c_L_undo l X D140 P140 hfl E_i (W + 800 * p + 130) hR140 (by omega) s_i s5_i s3_i) tw_938 mw_L_undo ⟨rfl, rfl⟩ (by rw [hKR]; exact ⟨Nat.le_of_ble_eq_true rfl, Nat.le_of_ble_eq_true rfl⟩) (by rw [hKR]; constructor <;> (dsimp only; omega)) rfl rfl rfl (Nat.le_of_ble_eq_true rfl) dL_follows_529 rfl (fun r143 D143 P143 q143 => ?_)
          obtain ⟨e143, hR143⟩ := QE.ok q143 (if_neg s0_i)
          obtain rfl : r143 = ((nI (s_i - 1)).toInt64) := e143.trans (rfl)
          obtain ⟨N_1, hF, hRn_1⟩ := un_i _ _ _ hR143
          refine pv_lconst (q := 533) (v := 0) C dL_follows_532 rfl (by decide) ?_
          refine pv_lcmp (q := 534) C dL_follows_533 rfl ?_
          refine pv_if_lt (q := 537) (tgt := 551) C dL_follows_534 (by decide) rfl (fun c534_144 => False.elim (Int64.not_le.mpr ((lg_cmp_lt _ _).mp c534_144) (l_p (n := 0) (by omega) (by omega) (Nat.zero_le _)))) (fun _ => ?_)
          refine pv_aload_n (q := 538) C dL_follows_537 rfl rfl rfl ?_
          refine pv_iload_n (q := 539) C dL_follows_538 rfl rfl rfl ?_
          refine pv_callLl (q := 542) (rest := []) C Z hNC hKl (c_L_isFree l X D143 P143 hfl N_1 (W + 800 * p + 130 + 130) hRn_1 (nI p)) tw_781 mw_L_isFree ⟨rfl, rfl⟩ (by rw [hKR]; exact ⟨Nat.le_of_ble_eq_true rfl, Nat.le_of_ble_eq_true rfl⟩) (by rw [hKR]; constructor <;> (dsimp only; omega)) rfl rfl rfl (Nat.le_of_ble_eq_true rfl) dL_follows_539 rfl (fun r145 D145 P145 q145 => ?_)
          obtain ⟨e145, hR145⟩ := q145
          obtain rfl : r145 = (((if R0 p = 0 then 1 else 0) : Int32).toInt64) := e145.trans (by rw [hF.1, wv_0 (kP_0 hp), ix_n (by omega)])
          refine pv_lconst (q := 543) (v := 1) C dL_follows_542 rfl (by decide) ?_
          refine pv_lcmp (q := 544) C dL_follows_543 rfl ?_
          refine pv_if_ne (q := 547) (tgt := 551) C dL_follows_544 (by decide) rfl (fun c544_146 => False.elim (c544_146 ((lg_cmp_eq _ _).mpr (by rw [e1]; rfl)))) (fun _ => ?_)
          refine pv_iconst (q := 548) (v := 1) C dL_follows_547 rfl (by decide) ?_
          refine pv_goto (tgt := 552) C dL_follows_548 (by decide) ?_
          refine pv_istore_n (q := 553) C dL_follows_552 rfl rfl (Nat.le_of_ble_eq_true rfl) rfl ?_
          refine pv_goto (tgt := 727) C dL_follows_553 (by decide) ?_
          refine pv_iinc (q := 730) (v := nI (p + 1)) C dL_follows_727 rfl rfl (nI_add _ _) rfl ?_
          refine pv_goto (tgt := 395) C dL_follows_730 (by decide) ?_
          exact PV_widen (by omega) (by omega) (PV_le (ih (p + 1) D145 P145 N_1 hF (RI_W hR145 (by omega)) (by omega) (by omega)) ⟨Or.inr rfl, Or.inr rfl, Or.inr rfl, Or.inr rfl, Or.inl rfl, Or.inl rfl, Or.inl rfl, Or.inl rfl, Or.inl rfl, Or.inl rfl, Or.inl rfl, Or.inl rfl, Or.inl rfl, Or.inl rfl, Or.inl rfl, trivial⟩)
        ·
          have n5 : R0 (32 + 38 * 0 + 34) ≤ (nI (x % 199) - 99) := by
            have z := l_le.mp (Int64.not_lt.mp (fun z => c5 ((lg_cmp_lt _ _).mpr z)))
            rw [io5 0 (by omega)] at z
            exact z
          refine pv_lload (q := 517) C dL_follows_515 rfl rfl ?_
          refine pv_lconst (q := 518) (v := 1) C dL_follows_517 rfl (by decide) ?_
          refine pv_ladd (q := 519) C dL_follows_518 rfl ?_
          refine pv_goto (tgt := 524) C dL_follows_519 (by decide) ?_
          refine pv_lcmp (q := 525) C dL_follows_524 rfl ?_
          refine pv_if_ne (q := 528) (tgt := 551) C dL_follows_525 (by decide) rfl (fun c525_147 => False.elim (c525_147 ((lg_cmp_eq _ _).mpr (by rw [TN_ins hp hgg e1 io1 io2 io3 (io5 0 (by omega)), if_pos n5, l_s1 (by have := TN_le R0 0 ((x % 4 + p) % 4); omega)])))) (fun _ => ?_)
          refine pv_aload_n (q := 529) C dL_follows_528 rfl rfl rfl ?_
          refine pv_callLl (q := 532) (rest := []) C Z hNC hKl (c_L_undo l X D140 P140 hfl E_i (W + 800 * p + 130) hR140 (by omega) s_i s5_i s3_i) tw_938 mw_L_undo ⟨rfl, rfl⟩ (by rw [hKR]; exact ⟨Nat.le_of_ble_eq_true rfl, Nat.le_of_ble_eq_true rfl⟩) (by rw [hKR]; constructor <;> (dsimp only; omega)) rfl rfl rfl (Nat.le_of_ble_eq_true rfl) dL_follows_529 rfl (fun r148 D148 P148 q148 => ?_)
          obtain ⟨e148, hR148⟩ := QE.ok q148 (if_neg s0_i)
          obtain rfl : r148 = ((nI (s_i - 1)).toInt64) := e148.trans (rfl)
          obtain ⟨N_1, hF, hRn_1⟩ := un_i _ _ _ hR148
          refine pv_lconst (q := 533) (v := 0) C dL_follows_532 rfl (by decide) ?_
          refine pv_lcmp (q := 534) C dL_follows_533 rfl ?_
          refine pv_if_lt (q := 537) (tgt := 551) C dL_follows_534 (by decide) rfl (fun c534_149 => False.elim (Int64.not_le.mpr ((lg_cmp_lt _ _).mp c534_149) (l_p (n := 0) (by omega) (by omega) (Nat.zero_le _)))) (fun _ => ?_)
          refine pv_aload_n (q := 538) C dL_follows_537 rfl rfl rfl ?_
          refine pv_iload_n (q := 539) C dL_follows_538 rfl rfl rfl ?_
          refine pv_callLl (q := 542) (rest := []) C Z hNC hKl (c_L_isFree l X D148 P148 hfl N_1 (W + 800 * p + 130 + 130) hRn_1 (nI p)) tw_781 mw_L_isFree ⟨rfl, rfl⟩ (by rw [hKR]; exact ⟨Nat.le_of_ble_eq_true rfl, Nat.le_of_ble_eq_true rfl⟩) (by rw [hKR]; constructor <;> (dsimp only; omega)) rfl rfl rfl (Nat.le_of_ble_eq_true rfl) dL_follows_539 rfl (fun r150 D150 P150 q150 => ?_)
          obtain ⟨e150, hR150⟩ := q150
          obtain rfl : r150 = (((if R0 p = 0 then 1 else 0) : Int32).toInt64) := e150.trans (by rw [hF.1, wv_0 (kP_0 hp), ix_n (by omega)])
          refine pv_lconst (q := 543) (v := 1) C dL_follows_542 rfl (by decide) ?_
          refine pv_lcmp (q := 544) C dL_follows_543 rfl ?_
          refine pv_if_ne (q := 547) (tgt := 551) C dL_follows_544 (by decide) rfl (fun c544_151 => False.elim (c544_151 ((lg_cmp_eq _ _).mpr (by rw [e1]; rfl)))) (fun _ => ?_)
          refine pv_iconst (q := 548) (v := 1) C dL_follows_547 rfl (by decide) ?_
          refine pv_goto (tgt := 552) C dL_follows_548 (by decide) ?_
          refine pv_istore_n (q := 553) C dL_follows_552 rfl rfl (Nat.le_of_ble_eq_true rfl) rfl ?_
          refine pv_goto (tgt := 727) C dL_follows_553 (by decide) ?_
          refine pv_iinc (q := 730) (v := nI (p + 1)) C dL_follows_727 rfl rfl (nI_add _ _) rfl ?_
          refine pv_goto (tgt := 395) C dL_follows_730 (by decide) ?_
          exact PV_widen (by omega) (by omega) (PV_le (ih (p + 1) D150 P150 N_1 hF (RI_W hR150 (by omega)) (by omega) (by omega)) ⟨Or.inr rfl, Or.inr rfl, Or.inr rfl, Or.inr rfl, Or.inl rfl, Or.inl rfl, Or.inl rfl, Or.inl rfl, Or.inl rfl, Or.inl rfl, Or.inl rfl, Or.inl rfl, Or.inl rfl, Or.inl rfl, Or.inl rfl, trivial⟩)
set_option maxRecDepth 100000 in
set_option maxHeartbeats 8000000 in
theorem c_L_follows (l : Launch) (X : XT) (D : DT) (P : PT) (hfl : l.stackTraces = false) (M : DT) (W : Nat) (h : RI D P M W) (hW : W + 90000 < 2 ^ 29) (V x : Nat) (hJ : JJ (M 7) V) (hx : x < 2 ^ 31) : LM l X yL_follows (.code yL_follows cL_follows 15 (some .boolean)) ({ frames := 10, cells := 700, slots := 4200, locals := 360 } : Room) [.ref (X.2.2 0), .int (nI x)] (qI X (fun r D' P' => r = 1 ∧ ∃ N, FI (M 7) (M 12) (M 6 9) N ∧ RI D' P' N (W + 20000))) D P 700 4200 := by
  refine lm_of (by decide +kernel) (Nat.le_of_ble_eq_true rfl) ?_
  intro K hKl hKR C Z hNC
  have L : LK l K X cL_follows RL _ 15 (some .boolean) ({ frames := 10, cells := 700, slots := 4200, locals := 360 } : Room) := ⟨hKl, hKR, C, Z, hNC, hfl⟩
  refine PV_lv (lv' := [some (.ref (X.2.2 0)), some (.int (nI x)), none, none, none, none, none, none, none, none, none, none, none, none, none]) rfl ?_
  refine pv_aload_n (q := 1) C dL_follows_0 rfl rfl rfl ?_
  refine pv_callVi (q := 4) (rest := []) C hKl (c_X6_keep l X D P M (W) h (by omega)) tw_226 (show kd 0 = 6 from rfl) (by decide) rfl mm_X6_keep ⟨rfl, rfl⟩ (by rw [hKR]; exact ⟨Nat.le_of_ble_eq_true rfl, Nat.le_of_ble_eq_true rfl⟩) (by rw [hKR]; constructor <;> (dsimp only; omega)) rfl rfl rfl (Nat.le_of_ble_eq_true rfl) dL_follows_1 rfl (fun r152 D152 P152 q152 => ?_)
  obtain ⟨rfl, hR152, -⟩ := q152
  have hF0 := keep_FI hR152
  obtain ⟨N1, hN1⟩ : ∃ N, N = m_keep (clr M) := ⟨_, rfl⟩
  rw [← hN1] at hR152 hF0
  have hF := hF0
  refine pv_aload_n (q := 5) C dL_follows_4 rfl rfl rfl ?_
  refine pv_callVi (q := 8) (rest := [.int (nI (tk (M 7)))]) C hKl (c_X6_rows l X D152 P152 N1 (W + 130) hR152) tw_259 (show kd 0 = 6 from rfl) (by decide) rfl mm_X6_rows ⟨rfl, rfl⟩ (by rw [hKR]; exact ⟨Nat.le_of_ble_eq_true rfl, Nat.le_of_ble_eq_true rfl⟩) (by rw [hKR]; constructor <;> (dsimp only; omega)) rfl rfl rfl (Nat.le_of_ble_eq_true rfl) dL_follows_5 rfl (fun r153 D153 P153 q153 => ?_)
  obtain ⟨rfl, rfl, rfl⟩ := q153
  have hR153 := hR152
  rw [hF.1]
  refine pv_icmp_ne (q := 11) (tgt := 15) C dL_follows_8 (by decide) rfl (fun c8_154 => False.elim (c8_154 (rfl))) (fun _ => ?_)
  refine pv_iconst (q := 12) (v := 1) C dL_follows_11 rfl (by decide) ?_
  refine pv_goto (tgt := 16) C dL_follows_12 (by decide) ?_
  refine pv_istore_n (q := 17) C dL_follows_16 rfl rfl (Nat.le_of_ble_eq_true rfl) rfl ?_
  refine pv_iconst (q := 18) (v := 0) C dL_follows_17 rfl (by decide) ?_
  refine pv_istore_n (q := 19) C dL_follows_18 rfl rfl (Nat.le_of_ble_eq_true rfl) rfl ?_
  refine PV_lv (lv' := [some (.ref (X.2.2 0)), some (.int (nI x)), some (.int 1), some (.int (nI 0)), none, none, none, none, none, none, none, none, none, none, none]) rfl ?_
  refine PV_widen (ce' := 0) (sl' := 6 * 0) (by omega) (by omega) (fo_v (W := W + 130) (by omega) hx hJ L (cb := 0) (by omega) (fun D3 P3 N3 hF3 h3 => ?_) 4 0 D152 P152 N1 hF hR153 (by omega) (by omega))
  refine pv_iconst (q := 394) (v := 0) C dL_follows_393 rfl (by decide) ?_
  refine pv_istore_n (q := 395) C dL_follows_394 rfl rfl (Nat.le_of_ble_eq_true rfl) rfl ?_
  refine PV_lv (lv' := [some (.ref (X.2.2 0)), some (.int (nI x)), some (.int 1), some (.int (nI 0)), none, none, none, none, none, none, none, none, none, none, none]) rfl ?_
  refine PV_widen (ce' := 90) (sl' := 6 * 90) (by omega) (by omega) (fo_p (W := W + 130 + 3600) (by omega) hx hJ L (cb := 90) (by omega) (fun D4 P4 N4 hF4 h4 => ?_) 17 0 D3 P3 N3 hF3 h3 (by omega) (by omega))
  refine pv_iload_n (q := 734) C dL_follows_733 rfl rfl rfl ?_
  refine pv_if_eq (q := 737) (tgt := 754) C dL_follows_734 (by decide) rfl (fun c734_155 => absurd c734_155 (by decide)) (fun _ => ?_)
  refine pv_aload_n (q := 738) C dL_follows_737 rfl rfl rfl ?_
  refine pv_callLl (q := 741) (rest := []) C Z hNC hKl (c_L_restore l X D4 P4 hfl N4 (W + 130 + 3600 + 12800) h4 (by omega)) tw_268 mw_L_restore ⟨rfl, rfl⟩ (by rw [hKR]; exact ⟨Nat.le_of_ble_eq_true rfl, Nat.le_of_ble_eq_true rfl⟩) (by rw [hKR]; constructor <;> (dsimp only; omega)) rfl rfl rfl (Nat.le_of_ble_eq_true rfl) dL_follows_738 rfl (fun r156 D156 P156 q156 => ?_)
  obtain ⟨e156, hR156⟩ := QE.ok q156 (if_neg (by rw [hF4.2.1]; decide))
  obtain rfl : r156 = ((nI (tk (M 7))).toInt64) := e156.trans (by rw [tk_cong (fun k hk => hF4.2.2.1 k (by omega))])
  obtain ⟨N5, hF5, hR5⟩ := rest_FI hF4 hR156
  refine pv_aload_n (q := 742) C dL_follows_741 rfl rfl rfl ?_
  refine pv_callVi (q := 745) (rest := [.long ((nI (tk (M 7))).toInt64)]) C hKl (c_X6_rows l X D156 P156 N5 (W + 130 + 3600 + 12800 + 130) hR5) tw_259 (show kd 0 = 6 from rfl) (by decide) rfl mm_X6_rows ⟨rfl, rfl⟩ (by rw [hKR]; exact ⟨Nat.le_of_ble_eq_true rfl, Nat.le_of_ble_eq_true rfl⟩) (by rw [hKR]; constructor <;> (dsimp only; omega)) rfl rfl rfl (Nat.le_of_ble_eq_true rfl) dL_follows_742 rfl (fun r157 D157 P157 q157 => ?_)
  obtain ⟨rfl, rfl, rfl⟩ := q157
  have hR157 := hR5
  rw [hF5.1]
  refine pv_i2l (q := 746) C dL_follows_745 rfl ?_
  refine pv_lcmp (q := 747) C dL_follows_746 rfl ?_
  refine pv_if_ne (q := 750) (tgt := 754) C dL_follows_747 (by decide) rfl (fun c747_158 => False.elim (c747_158 ((lg_cmp_eq _ _).mpr (rfl)))) (fun _ => ?_)
  refine pv_iconst (q := 751) (v := 1) C dL_follows_750 rfl (by decide) ?_
  refine pv_goto (tgt := 755) C dL_follows_751 (by decide) ?_
  exact XK.of (pv_zret C (Or.inr rfl) ⟨rfl, N5, hF5, RI_W hR157 (by omega)⟩ (by omega) (by omega) dL_follows_755)
