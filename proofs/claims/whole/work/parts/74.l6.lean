set_option maxRecDepth 100000 in
set_option maxHeartbeats 4000000 in
theorem law_28 (l : Launch) (K : KT) (X : XT) (b L : Nat) (xs : Nat → Int32) (hC : LC l K X b L xs) (Q : State → Prop) (ce sl i W : Nat) (D : DT) (P : PT) (hi : i + 4 ≤ L) (h : RI D P D W) (hW : W + 200 < 2 ^ 29) (hce : ce + 171 ≤ 601024) (hsl : sl + 1026 ≤ 7293034) (tl : ∀ (D2 : DT) (P2 : PT), RI D2 P2 D2 (W + 130) → PV K X Q (ce + 171) (sl + 1026) 2865 [some (.ref b), some (.ref (X.2.2 0)), some (.ref (X.2.2 6)), some (.ref (X.2.2 13)), some (.int (nI i)), none, none, none, none] [] D2 P2) : PV K X Q ce sl 1538 [some (.ref b), some (.ref (X.2.2 0)), some (.ref (X.2.2 6)), some (.ref (X.2.2 13)), some (.int (nI i)), none, none, none, none] [] D P := by
  obtain ⟨hKl, hKR, C, Z, hNC, hfl, hX, hbl, hbA, hL⟩ := hC
  obtain ⟨⟨s, hs5, hs3⟩, hf0, hd0, hse0, hsk0, n, hn60, hn9⟩ := law_pre h hW
  refine pv_aload_n (q := 1539) C dL_law_1538 rfl rfl rfl ?_
  refine pv_aload_n (q := 1540) C dL_law_1539 rfl rfl rfl ?_
  refine pv_iload (q := 1542) C dL_law_1540 rfl rfl ?_
  refine pv_iconst (q := 1543) (v := 1) C dL_law_1542 rfl (by decide) ?_
  refine pv_iaddN (q := 1544) (a := i) (b := 1) C rfl rfl dL_law_1543 rfl ?_
  refine pv_sld (q := 1545) (j := i + 1) C hX hbl hbA rfl (by omega) (by omega) dL_law_1544 rfl ?_
  refine pv_aload_n (q := 1546) C dL_law_1545 rfl rfl rfl ?_
  refine pv_callL (q := 1549) C Z hNC hKl (c_L_napOf l X D P hfl D W h (xs (i + 1))) tw_876 mw_L_napOf ⟨rfl, rfl⟩ (by rw [hKR]; exact ⟨Nat.le_of_ble_eq_true rfl, Nat.le_of_ble_eq_true rfl⟩) (by rw [hKR, room_c.1, room_c.2]; constructor <;> omega) rfl rfl rfl (by decide) dL_law_1546 rfl (fun r5 D1 P1 hw => ?_)
  have hFX := hw.2.1
  refine pv_istore (q := 1551) C dL_law_1549 rfl (Nat.le_of_ble_eq_true rfl) rfl ?_
  refine pv_aload_n (q := 1552) C dL_law_1551 rfl rfl rfl ?_
  refine pv_aload_n (q := 1553) C dL_law_1552 rfl rfl rfl ?_
  refine pv_iload (q := 1555) C dL_law_1553 rfl rfl ?_
  refine pv_iconst (q := 1556) (v := 1) C dL_law_1555 rfl (by decide) ?_
  refine pv_iaddN (q := 1557) (a := i) (b := 1) C rfl rfl dL_law_1556 rfl ?_
  refine pv_sld (q := 1558) (j := i + 1) C hX hbl hbA rfl (by omega) (by omega) dL_law_1557 rfl ?_
  have e6 := hFX 6 (by decide) (by decide)
  have e7 := hFX 7 (by decide) (by decide)
  have e9 := hFX 9 (by decide) (by decide)
  have e12 := hFX 12 (by decide) (by decide)
  refine pv_callVi (q := 1561) C hKl (c_X7_napOf l X D1 P1 (xs (i + 1))) tw_1308 (show kd 6 = 7 from rfl) (by decide) rfl mm_X7_napOf ⟨rfl, rfl⟩ (by rw [hKR]; exact ⟨Nat.le_of_ble_eq_true rfl, Nat.le_of_ble_eq_true rfl⟩) (by rw [hKR, room_c.1, room_c.2]; constructor <;> omega) rfl rfl rfl (Nat.le_of_ble_eq_true rfl) dL_law_1558 rfl (fun r6 D2 P2 hp => ?_)
  obtain ⟨hp, rfl⟩ := hp
  skip
  try simp only [e6, e7, e9, e12] at hp
  have hm := zMQ_rd hp
  have hnx := law_next hw hm (agr_FX hFX) (off_rf _)
  refine pv_istore (q := 1563) C dL_law_1561 rfl (Nat.le_of_ble_eq_true rfl) rfl ?_
  refine pv_aload_n (q := 1564) C dL_law_1563 rfl rfl rfl ?_
  refine pv_callVi (q := 1567) C hKl (c_X7_thrown l X D2 P1) tw_1041 (show kd 6 = 7 from rfl) (by decide) rfl mm_X7_thrown ⟨rfl, rfl⟩ (by rw [hKR]; exact ⟨Nat.le_of_ble_eq_true rfl, Nat.le_of_ble_eq_true rfl⟩) (by rw [hKR, room_c.1, room_c.2]; constructor <;> omega) rfl rfl rfl (by decide) dL_law_1564 rfl (fun r7 D3 P3 hp3 => ?_)
  obtain ⟨rfl, rfl, rfl⟩ := hp3
  refine pv_iload (q := 1569) C dL_law_1567 rfl rfl ?_
  refine pv_icmp_eq (q := 1572) (tgt := 1574) C dL_law_1569 (by decide) rfl (fun _ => ?_) (fun z => absurd (hm.1.trans hw.1.symm) z)
  refine pv_iload (q := 1576) C dL_law_1574 rfl rfl ?_
  refine pv_if_ne (q := 1579) (tgt := 1591) C dL_law_1576 (by decide) rfl (fun c0 => ?_) (fun c0 => ?_)
  ·
    refine pv_goto (tgt := 2865) C dL_law_1591 (by decide) ?_
    exact PV_widen (ce' := ce + 171) (sl' := sl + 1026) (by omega) (by omega) (PV_le (tl D2 P1 (hnx)) ⟨Or.inr rfl, Or.inr rfl, Or.inr rfl, Or.inr rfl, Or.inr rfl, Or.inl rfl, Or.inl rfl, Or.inl rfl, Or.inl rfl, trivial⟩)
  ·
    obtain ⟨hk0, hv⟩ := WQ_v hw c0
    have hr6 := hm.2.1 hk0
    refine pv_aload_n (q := 1580) C dL_law_1579 rfl rfl rfl ?_
    refine pv_iconst (q := 1581) (v := 0) C dL_law_1580 rfl (by decide) ?_
    refine pv_lald (q := 1582) C rfl dL_law_1581 rfl ?_
    refine pv_iload (q := 1584) C dL_law_1582 rfl rfl ?_
    refine pv_i2l (q := 1585) C dL_law_1584 rfl ?_
    refine pv_lcmp (q := 1586) C dL_law_1585 rfl ?_
    refine pv_if_eq (q := 1589) (tgt := 1591) C dL_law_1586 (by decide) rfl (fun _ => ?_) (fun z => absurd (lg_eq (hv.trans (congrArg Int32.toInt64 hr6.symm))) z)
    refine pv_goto (tgt := 2865) C dL_law_1591 (by decide) ?_
    exact PV_widen (ce' := ce + 171) (sl' := sl + 1026) (by omega) (by omega) (PV_le (tl D2 P1 (hnx)) ⟨Or.inr rfl, Or.inr rfl, Or.inr rfl, Or.inr rfl, Or.inr rfl, Or.inl rfl, Or.inl rfl, Or.inl rfl, Or.inl rfl, trivial⟩)
set_option maxRecDepth 100000 in
set_option maxHeartbeats 4000000 in
theorem law_29 (l : Launch) (K : KT) (X : XT) (b L : Nat) (xs : Nat → Int32) (hC : LC l K X b L xs) (Q : State → Prop) (ce sl i W : Nat) (D : DT) (P : PT) (hi : i + 4 ≤ L) (h : RI D P D W) (hW : W + 200 < 2 ^ 29) (hce : ce + 171 ≤ 601024) (hsl : sl + 1026 ≤ 7293034) (tl : ∀ (D2 : DT) (P2 : PT), RI D2 P2 D2 (W + 130) → PV K X Q (ce + 171) (sl + 1026) 2865 [some (.ref b), some (.ref (X.2.2 0)), some (.ref (X.2.2 6)), some (.ref (X.2.2 13)), some (.int (nI i)), none, none, none, none] [] D2 P2) : PV K X Q ce sl 1594 [some (.ref b), some (.ref (X.2.2 0)), some (.ref (X.2.2 6)), some (.ref (X.2.2 13)), some (.int (nI i)), none, none, none, none] [] D P := by
  obtain ⟨hKl, hKR, C, Z, hNC, hfl, hX, hbl, hbA, hL⟩ := hC
  obtain ⟨⟨s, hs5, hs3⟩, hf0, hd0, hse0, hsk0, n, hn60, hn9⟩ := law_pre h hW
  refine pv_aload_n (q := 1595) C dL_law_1594 rfl rfl rfl ?_
  refine pv_aload_n (q := 1596) C dL_law_1595 rfl rfl rfl ?_
  refine pv_iload (q := 1598) C dL_law_1596 rfl rfl ?_
  refine pv_iconst (q := 1599) (v := 1) C dL_law_1598 rfl (by decide) ?_
  refine pv_iaddN (q := 1600) (a := i) (b := 1) C rfl rfl dL_law_1599 rfl ?_
  refine pv_sld (q := 1601) (j := i + 1) C hX hbl hbA rfl (by omega) (by omega) dL_law_1600 rfl ?_
  refine pv_aload_n (q := 1602) C dL_law_1601 rfl rfl rfl ?_
  refine pv_callL (q := 1605) C Z hNC hKl (c_L_filterOf l X D P hfl D W h (xs (i + 1))) tw_880 mw_L_filterOf ⟨rfl, rfl⟩ (by rw [hKR]; exact ⟨Nat.le_of_ble_eq_true rfl, Nat.le_of_ble_eq_true rfl⟩) (by rw [hKR, room_c.1, room_c.2]; constructor <;> omega) rfl rfl rfl (by decide) dL_law_1602 rfl (fun r5 D1 P1 hw => ?_)
  have hFX := hw.2.1
  refine pv_istore (q := 1607) C dL_law_1605 rfl (Nat.le_of_ble_eq_true rfl) rfl ?_
  refine pv_aload_n (q := 1608) C dL_law_1607 rfl rfl rfl ?_
  refine pv_aload_n (q := 1609) C dL_law_1608 rfl rfl rfl ?_
  refine pv_iload (q := 1611) C dL_law_1609 rfl rfl ?_
  refine pv_iconst (q := 1612) (v := 1) C dL_law_1611 rfl (by decide) ?_
  refine pv_iaddN (q := 1613) (a := i) (b := 1) C rfl rfl dL_law_1612 rfl ?_
  refine pv_sld (q := 1614) (j := i + 1) C hX hbl hbA rfl (by omega) (by omega) dL_law_1613 rfl ?_
  have e6 := hFX 6 (by decide) (by decide)
  have e7 := hFX 7 (by decide) (by decide)
  have e9 := hFX 9 (by decide) (by decide)
  have e12 := hFX 12 (by decide) (by decide)
  refine pv_callVi (q := 1617) C hKl (c_X7_filterOf l X D1 P1 (xs (i + 1))) tw_1312 (show kd 6 = 7 from rfl) (by decide) rfl mm_X7_filterOf ⟨rfl, rfl⟩ (by rw [hKR]; exact ⟨Nat.le_of_ble_eq_true rfl, Nat.le_of_ble_eq_true rfl⟩) (by rw [hKR, room_c.1, room_c.2]; constructor <;> omega) rfl rfl rfl (Nat.le_of_ble_eq_true rfl) dL_law_1614 rfl (fun r6 D2 P2 hp => ?_)
  obtain ⟨hp, rfl⟩ := hp
  skip
  try simp only [e6, e7, e9, e12] at hp
  have hm := zMQ_rd hp
  have hnx := law_next hw hm (agr_FX hFX) (off_rf _)
  refine pv_istore (q := 1619) C dL_law_1617 rfl (Nat.le_of_ble_eq_true rfl) rfl ?_
  refine pv_aload_n (q := 1620) C dL_law_1619 rfl rfl rfl ?_
  refine pv_callVi (q := 1623) C hKl (c_X7_thrown l X D2 P1) tw_1041 (show kd 6 = 7 from rfl) (by decide) rfl mm_X7_thrown ⟨rfl, rfl⟩ (by rw [hKR]; exact ⟨Nat.le_of_ble_eq_true rfl, Nat.le_of_ble_eq_true rfl⟩) (by rw [hKR, room_c.1, room_c.2]; constructor <;> omega) rfl rfl rfl (by decide) dL_law_1620 rfl (fun r7 D3 P3 hp3 => ?_)
  obtain ⟨rfl, rfl, rfl⟩ := hp3
  refine pv_iload (q := 1625) C dL_law_1623 rfl rfl ?_
  refine pv_icmp_eq (q := 1628) (tgt := 1630) C dL_law_1625 (by decide) rfl (fun _ => ?_) (fun z => absurd (hm.1.trans hw.1.symm) z)
  refine pv_iload (q := 1632) C dL_law_1630 rfl rfl ?_
  refine pv_if_ne (q := 1635) (tgt := 1647) C dL_law_1632 (by decide) rfl (fun c0 => ?_) (fun c0 => ?_)
  ·
    refine pv_goto (tgt := 2865) C dL_law_1647 (by decide) ?_
    exact PV_widen (ce' := ce + 171) (sl' := sl + 1026) (by omega) (by omega) (PV_le (tl D2 P1 (hnx)) ⟨Or.inr rfl, Or.inr rfl, Or.inr rfl, Or.inr rfl, Or.inr rfl, Or.inl rfl, Or.inl rfl, Or.inl rfl, Or.inl rfl, trivial⟩)
  ·
    obtain ⟨hk0, hv⟩ := WQ_v hw c0
    have hr6 := hm.2.1 hk0
    refine pv_aload_n (q := 1636) C dL_law_1635 rfl rfl rfl ?_
    refine pv_iconst (q := 1637) (v := 0) C dL_law_1636 rfl (by decide) ?_
    refine pv_lald (q := 1638) C rfl dL_law_1637 rfl ?_
    refine pv_iload (q := 1640) C dL_law_1638 rfl rfl ?_
    refine pv_i2l (q := 1641) C dL_law_1640 rfl ?_
    refine pv_lcmp (q := 1642) C dL_law_1641 rfl ?_
    refine pv_if_eq (q := 1645) (tgt := 1647) C dL_law_1642 (by decide) rfl (fun _ => ?_) (fun z => absurd (lg_eq (hv.trans (congrArg Int32.toInt64 hr6.symm))) z)
    refine pv_goto (tgt := 2865) C dL_law_1647 (by decide) ?_
    exact PV_widen (ce' := ce + 171) (sl' := sl + 1026) (by omega) (by omega) (PV_le (tl D2 P1 (hnx)) ⟨Or.inr rfl, Or.inr rfl, Or.inr rfl, Or.inr rfl, Or.inr rfl, Or.inl rfl, Or.inl rfl, Or.inl rfl, Or.inl rfl, trivial⟩)
set_option maxRecDepth 100000 in
set_option maxHeartbeats 4000000 in
theorem law_30 (l : Launch) (K : KT) (X : XT) (b L : Nat) (xs : Nat → Int32) (hC : LC l K X b L xs) (Q : State → Prop) (ce sl i W : Nat) (D : DT) (P : PT) (hi : i + 4 ≤ L) (h : RI D P D W) (hW : W + 200 < 2 ^ 29) (hce : ce + 171 ≤ 601024) (hsl : sl + 1026 ≤ 7293034) (tl : ∀ (D2 : DT) (P2 : PT), RI D2 P2 D2 (W + 130) → PV K X Q (ce + 171) (sl + 1026) 2865 [some (.ref b), some (.ref (X.2.2 0)), some (.ref (X.2.2 6)), some (.ref (X.2.2 13)), some (.int (nI i)), none, none, none, none] [] D2 P2) : PV K X Q ce sl 1650 [some (.ref b), some (.ref (X.2.2 0)), some (.ref (X.2.2 6)), some (.ref (X.2.2 13)), some (.int (nI i)), none, none, none, none] [] D P := by
  obtain ⟨hKl, hKR, C, Z, hNC, hfl, hX, hbl, hbA, hL⟩ := hC
  obtain ⟨⟨s, hs5, hs3⟩, hf0, hd0, hse0, hsk0, n, hn60, hn9⟩ := law_pre h hW
  refine pv_aload_n (q := 1651) C dL_law_1650 rfl rfl rfl ?_
  refine pv_aload_n (q := 1652) C dL_law_1651 rfl rfl rfl ?_
  refine pv_iload (q := 1654) C dL_law_1652 rfl rfl ?_
  refine pv_iconst (q := 1655) (v := 1) C dL_law_1654 rfl (by decide) ?_
  refine pv_iaddN (q := 1656) (a := i) (b := 1) C rfl rfl dL_law_1655 rfl ?_
  refine pv_sld (q := 1657) (j := i + 1) C hX hbl hbA rfl (by omega) (by omega) dL_law_1656 rfl ?_
  refine pv_aload_n (q := 1658) C dL_law_1657 rfl rfl rfl ?_
  refine pv_callL (q := 1661) C Z hNC hKl (c_L_waiting l X D P hfl D W h (xs (i + 1))) tw_884 mw_L_waiting ⟨rfl, rfl⟩ (by rw [hKR]; exact ⟨Nat.le_of_ble_eq_true rfl, Nat.le_of_ble_eq_true rfl⟩) (by rw [hKR, room_c.1, room_c.2]; constructor <;> omega) rfl rfl rfl (by decide) dL_law_1658 rfl (fun r5 D1 P1 hw => ?_)
  have hFX := hw.2.1
  refine pv_istore (q := 1663) C dL_law_1661 rfl (Nat.le_of_ble_eq_true rfl) rfl ?_
  refine pv_aload_n (q := 1664) C dL_law_1663 rfl rfl rfl ?_
  refine pv_aload_n (q := 1665) C dL_law_1664 rfl rfl rfl ?_
  refine pv_iload (q := 1667) C dL_law_1665 rfl rfl ?_
  refine pv_iconst (q := 1668) (v := 1) C dL_law_1667 rfl (by decide) ?_
  refine pv_iaddN (q := 1669) (a := i) (b := 1) C rfl rfl dL_law_1668 rfl ?_
  refine pv_sld (q := 1670) (j := i + 1) C hX hbl hbA rfl (by omega) (by omega) dL_law_1669 rfl ?_
  have e6 := hFX 6 (by decide) (by decide)
  have e7 := hFX 7 (by decide) (by decide)
  have e9 := hFX 9 (by decide) (by decide)
  have e12 := hFX 12 (by decide) (by decide)
  refine pv_callVi (q := 1673) C hKl (c_X7_waiting l X D1 P1 (xs (i + 1))) tw_1316 (show kd 6 = 7 from rfl) (by decide) rfl mm_X7_waiting ⟨rfl, rfl⟩ (by rw [hKR]; exact ⟨Nat.le_of_ble_eq_true rfl, Nat.le_of_ble_eq_true rfl⟩) (by rw [hKR, room_c.1, room_c.2]; constructor <;> omega) rfl rfl rfl (Nat.le_of_ble_eq_true rfl) dL_law_1670 rfl (fun r6 D2 P2 hp => ?_)
  obtain ⟨hp, rfl⟩ := hp
  skip
  try simp only [e6, e7, e9, e12] at hp
  have hm := zMQ_rd hp
  have hnx := law_next hw hm (agr_FX hFX) (off_rf _)
  refine pv_istore (q := 1675) C dL_law_1673 rfl (Nat.le_of_ble_eq_true rfl) rfl ?_
  refine pv_aload_n (q := 1676) C dL_law_1675 rfl rfl rfl ?_
  refine pv_callVi (q := 1679) C hKl (c_X7_thrown l X D2 P1) tw_1041 (show kd 6 = 7 from rfl) (by decide) rfl mm_X7_thrown ⟨rfl, rfl⟩ (by rw [hKR]; exact ⟨Nat.le_of_ble_eq_true rfl, Nat.le_of_ble_eq_true rfl⟩) (by rw [hKR, room_c.1, room_c.2]; constructor <;> omega) rfl rfl rfl (by decide) dL_law_1676 rfl (fun r7 D3 P3 hp3 => ?_)
  obtain ⟨rfl, rfl, rfl⟩ := hp3
  refine pv_iload (q := 1681) C dL_law_1679 rfl rfl ?_
  refine pv_icmp_eq (q := 1684) (tgt := 1686) C dL_law_1681 (by decide) rfl (fun _ => ?_) (fun z => absurd (hm.1.trans hw.1.symm) z)
  refine pv_iload (q := 1688) C dL_law_1686 rfl rfl ?_
  refine pv_if_ne (q := 1691) (tgt := 1703) C dL_law_1688 (by decide) rfl (fun c0 => ?_) (fun c0 => ?_)
  ·
    refine pv_goto (tgt := 2865) C dL_law_1703 (by decide) ?_
    exact PV_widen (ce' := ce + 171) (sl' := sl + 1026) (by omega) (by omega) (PV_le (tl D2 P1 (hnx)) ⟨Or.inr rfl, Or.inr rfl, Or.inr rfl, Or.inr rfl, Or.inr rfl, Or.inl rfl, Or.inl rfl, Or.inl rfl, Or.inl rfl, trivial⟩)
  ·
    obtain ⟨hk0, hv⟩ := WQ_v hw c0
    have hr6 := hm.2.1 hk0
    refine pv_aload_n (q := 1692) C dL_law_1691 rfl rfl rfl ?_
    refine pv_iconst (q := 1693) (v := 0) C dL_law_1692 rfl (by decide) ?_
    refine pv_lald (q := 1694) C rfl dL_law_1693 rfl ?_
    refine pv_iload (q := 1696) C dL_law_1694 rfl rfl ?_
    refine pv_i2l (q := 1697) C dL_law_1696 rfl ?_
    refine pv_lcmp (q := 1698) C dL_law_1697 rfl ?_
    refine pv_if_eq (q := 1701) (tgt := 1703) C dL_law_1698 (by decide) rfl (fun _ => ?_) (fun z => absurd (lg_eq (hv.trans (congrArg Int32.toInt64 hr6.symm))) z)
    refine pv_goto (tgt := 2865) C dL_law_1703 (by decide) ?_
    exact PV_widen (ce' := ce + 171) (sl' := sl + 1026) (by omega) (by omega) (PV_le (tl D2 P1 (hnx)) ⟨Or.inr rfl, Or.inr rfl, Or.inr rfl, Or.inr rfl, Or.inr rfl, Or.inl rfl, Or.inl rfl, Or.inl rfl, Or.inl rfl, trivial⟩)
set_option maxRecDepth 100000 in
set_option maxHeartbeats 4000000 in
theorem law_31 (l : Launch) (K : KT) (X : XT) (b L : Nat) (xs : Nat → Int32) (hC : LC l K X b L xs) (Q : State → Prop) (ce sl i W : Nat) (D : DT) (P : PT) (hi : i + 4 ≤ L) (h : RI D P D W) (hW : W + 200 < 2 ^ 29) (hce : ce + 171 ≤ 601024) (hsl : sl + 1026 ≤ 7293034) (tl : ∀ (D2 : DT) (P2 : PT), RI D2 P2 D2 (W + 130) → PV K X Q (ce + 171) (sl + 1026) 2865 [some (.ref b), some (.ref (X.2.2 0)), some (.ref (X.2.2 6)), some (.ref (X.2.2 13)), some (.int (nI i)), none, none, none, none] [] D2 P2) : PV K X Q ce sl 1706 [some (.ref b), some (.ref (X.2.2 0)), some (.ref (X.2.2 6)), some (.ref (X.2.2 13)), some (.int (nI i)), none, none, none, none] [] D P := by
  obtain ⟨hKl, hKR, C, Z, hNC, hfl, hX, hbl, hbA, hL⟩ := hC
  obtain ⟨⟨s, hs5, hs3⟩, hf0, hd0, hse0, hsk0, n, hn60, hn9⟩ := law_pre h hW
  refine pv_aload_n (q := 1707) C dL_law_1706 rfl rfl rfl ?_
  refine pv_aload_n (q := 1708) C dL_law_1707 rfl rfl rfl ?_
  refine pv_iload (q := 1710) C dL_law_1708 rfl rfl ?_
  refine pv_iconst (q := 1711) (v := 1) C dL_law_1710 rfl (by decide) ?_
  refine pv_iaddN (q := 1712) (a := i) (b := 1) C rfl rfl dL_law_1711 rfl ?_
  refine pv_sld (q := 1713) (j := i + 1) C hX hbl hbA rfl (by omega) (by omega) dL_law_1712 rfl ?_
  refine pv_aload_n (q := 1714) C dL_law_1713 rfl rfl rfl ?_
  refine pv_callL (q := 1717) C Z hNC hKl (c_L_waitingByNumbers l X D P hfl D W h (xs (i + 1))) tw_888 mw_L_waitingByNumbers ⟨rfl, rfl⟩ (by rw [hKR]; exact ⟨Nat.le_of_ble_eq_true rfl, Nat.le_of_ble_eq_true rfl⟩) (by rw [hKR, room_c.1, room_c.2]; constructor <;> omega) rfl rfl rfl (by decide) dL_law_1714 rfl (fun r5 D1 P1 hw => ?_)
  have hFX := hw.2.1
  refine pv_istore (q := 1719) C dL_law_1717 rfl (Nat.le_of_ble_eq_true rfl) rfl ?_
  refine pv_aload_n (q := 1720) C dL_law_1719 rfl rfl rfl ?_
  refine pv_aload_n (q := 1721) C dL_law_1720 rfl rfl rfl ?_
  refine pv_iload (q := 1723) C dL_law_1721 rfl rfl ?_
  refine pv_iconst (q := 1724) (v := 1) C dL_law_1723 rfl (by decide) ?_
  refine pv_iaddN (q := 1725) (a := i) (b := 1) C rfl rfl dL_law_1724 rfl ?_
  refine pv_sld (q := 1726) (j := i + 1) C hX hbl hbA rfl (by omega) (by omega) dL_law_1725 rfl ?_
  have e6 := hFX 6 (by decide) (by decide)
  have e7 := hFX 7 (by decide) (by decide)
  have e9 := hFX 9 (by decide) (by decide)
  have e12 := hFX 12 (by decide) (by decide)
  refine pv_callVi (q := 1729) C hKl (c_X7_waitingByNumbers l X D1 P1 (xs (i + 1))) tw_1320 (show kd 6 = 7 from rfl) (by decide) rfl mm_X7_waitingByNumbers ⟨rfl, rfl⟩ (by rw [hKR]; exact ⟨Nat.le_of_ble_eq_true rfl, Nat.le_of_ble_eq_true rfl⟩) (by rw [hKR, room_c.1, room_c.2]; constructor <;> omega) rfl rfl rfl (Nat.le_of_ble_eq_true rfl) dL_law_1726 rfl (fun r6 D2 P2 hp => ?_)
  obtain ⟨hp, rfl⟩ := hp
  skip
  try simp only [e6, e7, e9, e12] at hp
  have hm := zMQ_rd hp
  have hnx := law_next hw hm (agr_FX hFX) (off_rf _)
  refine pv_istore (q := 1731) C dL_law_1729 rfl (Nat.le_of_ble_eq_true rfl) rfl ?_
  refine pv_aload_n (q := 1732) C dL_law_1731 rfl rfl rfl ?_
  refine pv_callVi (q := 1735) C hKl (c_X7_thrown l X D2 P1) tw_1041 (show kd 6 = 7 from rfl) (by decide) rfl mm_X7_thrown ⟨rfl, rfl⟩ (by rw [hKR]; exact ⟨Nat.le_of_ble_eq_true rfl, Nat.le_of_ble_eq_true rfl⟩) (by rw [hKR, room_c.1, room_c.2]; constructor <;> omega) rfl rfl rfl (by decide) dL_law_1732 rfl (fun r7 D3 P3 hp3 => ?_)
  obtain ⟨rfl, rfl, rfl⟩ := hp3
  refine pv_iload (q := 1737) C dL_law_1735 rfl rfl ?_
  refine pv_icmp_eq (q := 1740) (tgt := 1742) C dL_law_1737 (by decide) rfl (fun _ => ?_) (fun z => absurd (hm.1.trans hw.1.symm) z)
  refine pv_iload (q := 1744) C dL_law_1742 rfl rfl ?_
  refine pv_if_ne (q := 1747) (tgt := 1759) C dL_law_1744 (by decide) rfl (fun c0 => ?_) (fun c0 => ?_)
  ·
    refine pv_goto (tgt := 2865) C dL_law_1759 (by decide) ?_
    exact PV_widen (ce' := ce + 171) (sl' := sl + 1026) (by omega) (by omega) (PV_le (tl D2 P1 (hnx)) ⟨Or.inr rfl, Or.inr rfl, Or.inr rfl, Or.inr rfl, Or.inr rfl, Or.inl rfl, Or.inl rfl, Or.inl rfl, Or.inl rfl, trivial⟩)
  ·
    obtain ⟨hk0, hv⟩ := WQ_v hw c0
    have hr6 := hm.2.1 hk0
    refine pv_aload_n (q := 1748) C dL_law_1747 rfl rfl rfl ?_
    refine pv_iconst (q := 1749) (v := 0) C dL_law_1748 rfl (by decide) ?_
    refine pv_lald (q := 1750) C rfl dL_law_1749 rfl ?_
    refine pv_iload (q := 1752) C dL_law_1750 rfl rfl ?_
    refine pv_i2l (q := 1753) C dL_law_1752 rfl ?_
    refine pv_lcmp (q := 1754) C dL_law_1753 rfl ?_
    refine pv_if_eq (q := 1757) (tgt := 1759) C dL_law_1754 (by decide) rfl (fun _ => ?_) (fun z => absurd (lg_eq (hv.trans (congrArg Int32.toInt64 hr6.symm))) z)
    refine pv_goto (tgt := 2865) C dL_law_1759 (by decide) ?_
    exact PV_widen (ce' := ce + 171) (sl' := sl + 1026) (by omega) (by omega) (PV_le (tl D2 P1 (hnx)) ⟨Or.inr rfl, Or.inr rfl, Or.inr rfl, Or.inr rfl, Or.inr rfl, Or.inl rfl, Or.inl rfl, Or.inl rfl, Or.inl rfl, trivial⟩)
set_option maxRecDepth 100000 in
set_option maxHeartbeats 4000000 in
theorem law_32 (l : Launch) (K : KT) (X : XT) (b L : Nat) (xs : Nat → Int32) (hC : LC l K X b L xs) (Q : State → Prop) (ce sl i W : Nat) (D : DT) (P : PT) (hi : i + 4 ≤ L) (h : RI D P D W) (hW : W + 200 < 2 ^ 29) (hce : ce + 171 ≤ 601024) (hsl : sl + 1026 ≤ 7293034) (tl : ∀ (D2 : DT) (P2 : PT), RI D2 P2 D2 (W + 130) → PV K X Q (ce + 171) (sl + 1026) 2865 [some (.ref b), some (.ref (X.2.2 0)), some (.ref (X.2.2 6)), some (.ref (X.2.2 13)), some (.int (nI i)), none, none, none, none] [] D2 P2) : PV K X Q ce sl 1762 [some (.ref b), some (.ref (X.2.2 0)), some (.ref (X.2.2 6)), some (.ref (X.2.2 13)), some (.int (nI i)), none, none, none, none] [] D P := by
  obtain ⟨hKl, hKR, C, Z, hNC, hfl, hX, hbl, hbA, hL⟩ := hC
  obtain ⟨⟨s, hs5, hs3⟩, hf0, hd0, hse0, hsk0, n, hn60, hn9⟩ := law_pre h hW
  refine pv_aload_n (q := 1763) C dL_law_1762 rfl rfl rfl ?_
  refine pv_aload_n (q := 1764) C dL_law_1763 rfl rfl rfl ?_
  refine pv_iload (q := 1766) C dL_law_1764 rfl rfl ?_
  refine pv_iconst (q := 1767) (v := 1) C dL_law_1766 rfl (by decide) ?_
  refine pv_iaddN (q := 1768) (a := i) (b := 1) C rfl rfl dL_law_1767 rfl ?_
  refine pv_sld (q := 1769) (j := i + 1) C hX hbl hbA rfl (by omega) (by omega) dL_law_1768 rfl ?_
  refine pv_aload_n (q := 1770) C dL_law_1769 rfl rfl rfl ?_
  refine pv_callL (q := 1773) C Z hNC hKl (c_L_matters l X D P hfl D W h (xs (i + 1))) tw_892 mw_L_matters ⟨rfl, rfl⟩ (by rw [hKR]; exact ⟨Nat.le_of_ble_eq_true rfl, Nat.le_of_ble_eq_true rfl⟩) (by rw [hKR, room_c.1, room_c.2]; constructor <;> omega) rfl rfl rfl (by decide) dL_law_1770 rfl (fun r5 D1 P1 hw => ?_)
  have hFX := hw.2.1
  refine pv_istore (q := 1775) C dL_law_1773 rfl (Nat.le_of_ble_eq_true rfl) rfl ?_
  refine pv_aload_n (q := 1776) C dL_law_1775 rfl rfl rfl ?_
  refine pv_aload_n (q := 1777) C dL_law_1776 rfl rfl rfl ?_
  refine pv_iload (q := 1779) C dL_law_1777 rfl rfl ?_
  refine pv_iconst (q := 1780) (v := 1) C dL_law_1779 rfl (by decide) ?_
  refine pv_iaddN (q := 1781) (a := i) (b := 1) C rfl rfl dL_law_1780 rfl ?_
  refine pv_sld (q := 1782) (j := i + 1) C hX hbl hbA rfl (by omega) (by omega) dL_law_1781 rfl ?_
  have e6 := hFX 6 (by decide) (by decide)
  have e7 := hFX 7 (by decide) (by decide)
  have e9 := hFX 9 (by decide) (by decide)
  have e12 := hFX 12 (by decide) (by decide)
  refine pv_callVi (q := 1785) C hKl (c_X7_matters l X D1 P1 (xs (i + 1)) (by rw [e7]; exact hse0)) tw_1324 (show kd 6 = 7 from rfl) (by decide) rfl mm_X7_matters ⟨rfl, rfl⟩ (by rw [hKR]; exact ⟨Nat.le_of_ble_eq_true rfl, Nat.le_of_ble_eq_true rfl⟩) (by rw [hKR, room_c.1, room_c.2]; constructor <;> omega) rfl rfl rfl (Nat.le_of_ble_eq_true rfl) dL_law_1782 rfl (fun r6 D2 P2 hp => ?_)
  obtain ⟨hp, rfl⟩ := hp
  skip
  try simp only [e6, e7, e9, e12] at hp
  have hm := zMQ_rd hp
  have hnx := law_next hw hm (agr_FX hFX) (off_rf _)
  refine pv_istore (q := 1787) C dL_law_1785 rfl (Nat.le_of_ble_eq_true rfl) rfl ?_
  refine pv_aload_n (q := 1788) C dL_law_1787 rfl rfl rfl ?_
  refine pv_callVi (q := 1791) C hKl (c_X7_thrown l X D2 P1) tw_1041 (show kd 6 = 7 from rfl) (by decide) rfl mm_X7_thrown ⟨rfl, rfl⟩ (by rw [hKR]; exact ⟨Nat.le_of_ble_eq_true rfl, Nat.le_of_ble_eq_true rfl⟩) (by rw [hKR, room_c.1, room_c.2]; constructor <;> omega) rfl rfl rfl (by decide) dL_law_1788 rfl (fun r7 D3 P3 hp3 => ?_)
  obtain ⟨rfl, rfl, rfl⟩ := hp3
  refine pv_iload (q := 1793) C dL_law_1791 rfl rfl ?_
  refine pv_icmp_eq (q := 1796) (tgt := 1798) C dL_law_1793 (by decide) rfl (fun _ => ?_) (fun z => absurd (hm.1.trans hw.1.symm) z)
  refine pv_iload (q := 1800) C dL_law_1798 rfl rfl ?_
  refine pv_if_ne (q := 1803) (tgt := 1815) C dL_law_1800 (by decide) rfl (fun c0 => ?_) (fun c0 => ?_)
  ·
    refine pv_goto (tgt := 2865) C dL_law_1815 (by decide) ?_
    exact PV_widen (ce' := ce + 171) (sl' := sl + 1026) (by omega) (by omega) (PV_le (tl D2 P1 (hnx)) ⟨Or.inr rfl, Or.inr rfl, Or.inr rfl, Or.inr rfl, Or.inr rfl, Or.inl rfl, Or.inl rfl, Or.inl rfl, Or.inl rfl, trivial⟩)
  ·
    obtain ⟨hk0, hv⟩ := WQ_v hw c0
    have hr6 := hm.2.1 hk0
    refine pv_aload_n (q := 1804) C dL_law_1803 rfl rfl rfl ?_
    refine pv_iconst (q := 1805) (v := 0) C dL_law_1804 rfl (by decide) ?_
    refine pv_lald (q := 1806) C rfl dL_law_1805 rfl ?_
    refine pv_iload (q := 1808) C dL_law_1806 rfl rfl ?_
    refine pv_i2l (q := 1809) C dL_law_1808 rfl ?_
    refine pv_lcmp (q := 1810) C dL_law_1809 rfl ?_
    refine pv_if_eq (q := 1813) (tgt := 1815) C dL_law_1810 (by decide) rfl (fun _ => ?_) (fun z => absurd (lg_eq (hv.trans (congrArg Int32.toInt64 hr6.symm))) z)
    refine pv_goto (tgt := 2865) C dL_law_1815 (by decide) ?_
    exact PV_widen (ce' := ce + 171) (sl' := sl + 1026) (by omega) (by omega) (PV_le (tl D2 P1 (hnx)) ⟨Or.inr rfl, Or.inr rfl, Or.inr rfl, Or.inr rfl, Or.inr rfl, Or.inl rfl, Or.inl rfl, Or.inl rfl, Or.inl rfl, trivial⟩)
set_option maxRecDepth 100000 in
set_option maxHeartbeats 4000000 in
theorem law_33 (l : Launch) (K : KT) (X : XT) (b L : Nat) (xs : Nat → Int32) (hC : LC l K X b L xs) (Q : State → Prop) (ce sl i W : Nat) (D : DT) (P : PT) (hi : i + 4 ≤ L) (h : RI D P D W) (hW : W + 200 < 2 ^ 29) (hce : ce + 171 ≤ 601024) (hsl : sl + 1026 ≤ 7293034) (tl : ∀ (D2 : DT) (P2 : PT), RI D2 P2 D2 (W + 130) → PV K X Q (ce + 171) (sl + 1026) 2865 [some (.ref b), some (.ref (X.2.2 0)), some (.ref (X.2.2 6)), some (.ref (X.2.2 13)), some (.int (nI i)), none, none, none, none] [] D2 P2) : PV K X Q ce sl 1818 [some (.ref b), some (.ref (X.2.2 0)), some (.ref (X.2.2 6)), some (.ref (X.2.2 13)), some (.int (nI i)), none, none, none, none] [] D P := by
  obtain ⟨hKl, hKR, C, Z, hNC, hfl, hX, hbl, hbA, hL⟩ := hC
  obtain ⟨⟨s, hs5, hs3⟩, hf0, hd0, hse0, hsk0, n, hn60, hn9⟩ := law_pre h hW
  refine pv_aload_n (q := 1819) C dL_law_1818 rfl rfl rfl ?_
  refine pv_callVi (q := 1822) C hKl (c_X6_wakings l X D P D W h) tw_317 (show kd 0 = 6 from rfl) (by decide) rfl mm_X6_wakings ⟨rfl, rfl⟩ (by rw [hKR]; exact ⟨Nat.le_of_ble_eq_true rfl, Nat.le_of_ble_eq_true rfl⟩) (by rw [hKR, room_c.1, room_c.2]; constructor <;> omega) rfl rfl rfl (by decide) dL_law_1819 rfl (fun r5 D1 P1 hc => ?_)
  obtain ⟨hr, rfl, rfl⟩ := hc
  have hFX : FX D D := fun _ _ _ => rfl
  have hw : WQ 0 P.2 D D D W 0 D P := ⟨rfl, hFX, Or.inl ⟨rfl, rfl, RI_W h (by omega)⟩⟩
  refine pv_aload_n (q := 1823) C dL_law_1822 rfl rfl rfl ?_
  have e6 := hFX 6 (by decide) (by decide)
  have e7 := hFX 7 (by decide) (by decide)
  have e9 := hFX 9 (by decide) (by decide)
  have e12 := hFX 12 (by decide) (by decide)
  refine pv_callVi (q := 1826) C hKl (c_X7_wakings l X D P ) tw_1332 (show kd 6 = 7 from rfl) (by decide) rfl mm_X7_wakings ⟨rfl, rfl⟩ (by rw [hKR]; exact ⟨Nat.le_of_ble_eq_true rfl, Nat.le_of_ble_eq_true rfl⟩) (by rw [hKR, room_c.1, room_c.2]; constructor <;> omega) rfl rfl rfl (Nat.le_of_ble_eq_true rfl) dL_law_1823 rfl (fun r6 D2 P2 hp => ?_)
  obtain ⟨hp, rfl⟩ := hp
  skip
  try simp only [e6, e7, e9, e12] at hp
  have hm := zMQ_rd hp
  have hnx := law_next hw hm (agr_FX hFX) (off_rf _)
  have hr6 := hm.2.1 rfl
  refine pv_icmp_eq (q := 1829) (tgt := 2865) C dL_law_1826 (by decide) rfl (fun _ => ?_) (fun z => absurd (hr.trans hr6.symm) z)
  exact PV_widen (ce' := ce + 171) (sl' := sl + 1026) (by omega) (by omega) (PV_le (tl D2 P (hnx)) ⟨Or.inr rfl, Or.inr rfl, Or.inr rfl, Or.inr rfl, Or.inr rfl, Or.inl rfl, Or.inl rfl, Or.inl rfl, Or.inl rfl, trivial⟩)
set_option maxRecDepth 100000 in
set_option maxHeartbeats 4000000 in
theorem law_34 (l : Launch) (K : KT) (X : XT) (b L : Nat) (xs : Nat → Int32) (hC : LC l K X b L xs) (Q : State → Prop) (ce sl i W : Nat) (D : DT) (P : PT) (hi : i + 4 ≤ L) (h : RI D P D W) (hW : W + 200 < 2 ^ 29) (hce : ce + 171 ≤ 601024) (hsl : sl + 1026 ≤ 7293034) (tl : ∀ (D2 : DT) (P2 : PT), RI D2 P2 D2 (W + 130) → PV K X Q (ce + 171) (sl + 1026) 2865 [some (.ref b), some (.ref (X.2.2 0)), some (.ref (X.2.2 6)), some (.ref (X.2.2 13)), some (.int (nI i)), none, none, none, none] [] D2 P2) : PV K X Q ce sl 1831 [some (.ref b), some (.ref (X.2.2 0)), some (.ref (X.2.2 6)), some (.ref (X.2.2 13)), some (.int (nI i)), none, none, none, none] [] D P := by
  obtain ⟨hKl, hKR, C, Z, hNC, hfl, hX, hbl, hbA, hL⟩ := hC
  obtain ⟨⟨s, hs5, hs3⟩, hf0, hd0, hse0, hsk0, n, hn60, hn9⟩ := law_pre h hW
  refine pv_aload_n (q := 1832) C dL_law_1831 rfl rfl rfl ?_
  refine pv_callVi (q := 1835) C hKl (c_X6_wakingsByThemselves l X D P D W h) tw_321 (show kd 0 = 6 from rfl) (by decide) rfl mm_X6_wakingsByThemselves ⟨rfl, rfl⟩ (by rw [hKR]; exact ⟨Nat.le_of_ble_eq_true rfl, Nat.le_of_ble_eq_true rfl⟩) (by rw [hKR, room_c.1, room_c.2]; constructor <;> omega) rfl rfl rfl (by decide) dL_law_1832 rfl (fun r5 D1 P1 hc => ?_)
  obtain ⟨hr, rfl, rfl⟩ := hc
  have hFX : FX D D := fun _ _ _ => rfl
  have hw : WQ 0 P.2 D D D W 0 D P := ⟨rfl, hFX, Or.inl ⟨rfl, rfl, RI_W h (by omega)⟩⟩
  refine pv_aload_n (q := 1836) C dL_law_1835 rfl rfl rfl ?_
  have e6 := hFX 6 (by decide) (by decide)
  have e7 := hFX 7 (by decide) (by decide)
  have e9 := hFX 9 (by decide) (by decide)
  have e12 := hFX 12 (by decide) (by decide)
  refine pv_callVi (q := 1839) C hKl (c_X7_wakingsByThemselves l X D P ) tw_1336 (show kd 6 = 7 from rfl) (by decide) rfl mm_X7_wakingsByThemselves ⟨rfl, rfl⟩ (by rw [hKR]; exact ⟨Nat.le_of_ble_eq_true rfl, Nat.le_of_ble_eq_true rfl⟩) (by rw [hKR, room_c.1, room_c.2]; constructor <;> omega) rfl rfl rfl (Nat.le_of_ble_eq_true rfl) dL_law_1836 rfl (fun r6 D2 P2 hp => ?_)
  obtain ⟨hp, rfl⟩ := hp
  skip
  try simp only [e6, e7, e9, e12] at hp
  have hm := zMQ_rd hp
  have hnx := law_next hw hm (agr_FX hFX) (off_rf _)
  have hr6 := hm.2.1 rfl
  refine pv_icmp_eq (q := 1842) (tgt := 2865) C dL_law_1839 (by decide) rfl (fun _ => ?_) (fun z => absurd (hr.trans hr6.symm) z)
  exact PV_widen (ce' := ce + 171) (sl' := sl + 1026) (by omega) (by omega) (PV_le (tl D2 P (hnx)) ⟨Or.inr rfl, Or.inr rfl, Or.inr rfl, Or.inr rfl, Or.inr rfl, Or.inl rfl, Or.inl rfl, Or.inl rfl, Or.inl rfl, trivial⟩)
set_option maxRecDepth 100000 in
set_option maxHeartbeats 4000000 in
theorem law_35 (l : Launch) (K : KT) (X : XT) (b L : Nat) (xs : Nat → Int32) (hC : LC l K X b L xs) (Q : State → Prop) (ce sl i W : Nat) (D : DT) (P : PT) (hi : i + 4 ≤ L) (h : RI D P D W) (hW : W + 200 < 2 ^ 29) (hce : ce + 171 ≤ 601024) (hsl : sl + 1026 ≤ 7293034) (tl : ∀ (D2 : DT) (P2 : PT), RI D2 P2 D2 (W + 130) → PV K X Q (ce + 171) (sl + 1026) 2865 [some (.ref b), some (.ref (X.2.2 0)), some (.ref (X.2.2 6)), some (.ref (X.2.2 13)), some (.int (nI i)), none, none, none, none] [] D2 P2) : PV K X Q ce sl 1844 [some (.ref b), some (.ref (X.2.2 0)), some (.ref (X.2.2 6)), some (.ref (X.2.2 13)), some (.int (nI i)), none, none, none, none] [] D P := by
  obtain ⟨hKl, hKR, C, Z, hNC, hfl, hX, hbl, hbA, hL⟩ := hC
  obtain ⟨⟨s, hs5, hs3⟩, hf0, hd0, hse0, hsk0, n, hn60, hn9⟩ := law_pre h hW
  refine pv_aload_n (q := 1845) C dL_law_1844 rfl rfl rfl ?_
  refine pv_callVi (q := 1848) C hKl (c_X6_refreshes l X D P D W h) tw_325 (show kd 0 = 6 from rfl) (by decide) rfl mm_X6_refreshes ⟨rfl, rfl⟩ (by rw [hKR]; exact ⟨Nat.le_of_ble_eq_true rfl, Nat.le_of_ble_eq_true rfl⟩) (by rw [hKR, room_c.1, room_c.2]; constructor <;> omega) rfl rfl rfl (by decide) dL_law_1845 rfl (fun r5 D1 P1 hc => ?_)
  obtain ⟨hr, rfl, rfl⟩ := hc
  have hFX : FX D D := fun _ _ _ => rfl
  have hw : WQ 0 P.2 D D D W 0 D P := ⟨rfl, hFX, Or.inl ⟨rfl, rfl, RI_W h (by omega)⟩⟩
  refine pv_aload_n (q := 1849) C dL_law_1848 rfl rfl rfl ?_
  have e6 := hFX 6 (by decide) (by decide)
  have e7 := hFX 7 (by decide) (by decide)
  have e9 := hFX 9 (by decide) (by decide)
  have e12 := hFX 12 (by decide) (by decide)
  refine pv_callVi (q := 1852) C hKl (c_X7_refreshes l X D P ) tw_1340 (show kd 6 = 7 from rfl) (by decide) rfl mm_X7_refreshes ⟨rfl, rfl⟩ (by rw [hKR]; exact ⟨Nat.le_of_ble_eq_true rfl, Nat.le_of_ble_eq_true rfl⟩) (by rw [hKR, room_c.1, room_c.2]; constructor <;> omega) rfl rfl rfl (Nat.le_of_ble_eq_true rfl) dL_law_1849 rfl (fun r6 D2 P2 hp => ?_)
  obtain ⟨hp, rfl⟩ := hp
  skip
  try simp only [e6, e7, e9, e12] at hp
  have hm := zMQ_rd hp
  have hnx := law_next hw hm (agr_FX hFX) (off_rf _)
  have hr6 := hm.2.1 rfl
  refine pv_icmp_eq (q := 1855) (tgt := 2865) C dL_law_1852 (by decide) rfl (fun _ => ?_) (fun z => absurd (hr.trans hr6.symm) z)
  exact PV_widen (ce' := ce + 171) (sl' := sl + 1026) (by omega) (by omega) (PV_le (tl D2 P (hnx)) ⟨Or.inr rfl, Or.inr rfl, Or.inr rfl, Or.inr rfl, Or.inr rfl, Or.inl rfl, Or.inl rfl, Or.inl rfl, Or.inl rfl, trivial⟩)
set_option maxRecDepth 100000 in
set_option maxHeartbeats 4000000 in
theorem law_36 (l : Launch) (K : KT) (X : XT) (b L : Nat) (xs : Nat → Int32) (hC : LC l K X b L xs) (Q : State → Prop) (ce sl i W : Nat) (D : DT) (P : PT) (hi : i + 4 ≤ L) (h : RI D P D W) (hW : W + 200 < 2 ^ 29) (hce : ce + 171 ≤ 601024) (hsl : sl + 1026 ≤ 7293034) (tl : ∀ (D2 : DT) (P2 : PT), RI D2 P2 D2 (W + 130) → PV K X Q (ce + 171) (sl + 1026) 2865 [some (.ref b), some (.ref (X.2.2 0)), some (.ref (X.2.2 6)), some (.ref (X.2.2 13)), some (.int (nI i)), none, none, none, none] [] D2 P2) : PV K X Q ce sl 1857 [some (.ref b), some (.ref (X.2.2 0)), some (.ref (X.2.2 6)), some (.ref (X.2.2 13)), some (.int (nI i)), none, none, none, none] [] D P := by
  obtain ⟨hKl, hKR, C, Z, hNC, hfl, hX, hbl, hbA, hL⟩ := hC
  obtain ⟨⟨s, hs5, hs3⟩, hf0, hd0, hse0, hsk0, n, hn60, hn9⟩ := law_pre h hW
  refine pv_aload_n (q := 1858) C dL_law_1857 rfl rfl rfl ?_
  refine pv_callVi (q := 1861) C hKl (c_X6_logLength l X D P D W h) tw_329 (show kd 0 = 6 from rfl) (by decide) rfl mm_X6_logLength ⟨rfl, rfl⟩ (by rw [hKR]; exact ⟨Nat.le_of_ble_eq_true rfl, Nat.le_of_ble_eq_true rfl⟩) (by rw [hKR, room_c.1, room_c.2]; constructor <;> omega) rfl rfl rfl (by decide) dL_law_1858 rfl (fun r5 D1 P1 hc => ?_)
  obtain ⟨hr, rfl, rfl⟩ := hc
  have hFX : FX D D := fun _ _ _ => rfl
  have hw : WQ 0 P.2 D D D W 0 D P := ⟨rfl, hFX, Or.inl ⟨rfl, rfl, RI_W h (by omega)⟩⟩
  refine pv_aload_n (q := 1862) C dL_law_1861 rfl rfl rfl ?_
  have e6 := hFX 6 (by decide) (by decide)
  have e7 := hFX 7 (by decide) (by decide)
  have e9 := hFX 9 (by decide) (by decide)
  have e12 := hFX 12 (by decide) (by decide)
  refine pv_callVi (q := 1865) C hKl (c_X7_logLength l X D P ) tw_1344 (show kd 6 = 7 from rfl) (by decide) rfl mm_X7_logLength ⟨rfl, rfl⟩ (by rw [hKR]; exact ⟨Nat.le_of_ble_eq_true rfl, Nat.le_of_ble_eq_true rfl⟩) (by rw [hKR, room_c.1, room_c.2]; constructor <;> omega) rfl rfl rfl (Nat.le_of_ble_eq_true rfl) dL_law_1862 rfl (fun r6 D2 P2 hp => ?_)
  obtain ⟨hp, rfl⟩ := hp
  skip
  try simp only [e6, e7, e9, e12] at hp
  have hm := zMQ_rd hp
  have hnx := law_next hw hm (agr_FX hFX) (off_rf _)
  have hr6 := hm.2.1 rfl
  refine pv_icmp_eq (q := 1868) (tgt := 2865) C dL_law_1865 (by decide) rfl (fun _ => ?_) (fun z => absurd (hr.trans hr6.symm) z)
  exact PV_widen (ce' := ce + 171) (sl' := sl + 1026) (by omega) (by omega) (PV_le (tl D2 P (hnx)) ⟨Or.inr rfl, Or.inr rfl, Or.inr rfl, Or.inr rfl, Or.inr rfl, Or.inl rfl, Or.inl rfl, Or.inl rfl, Or.inl rfl, trivial⟩)
set_option maxRecDepth 100000 in
set_option maxHeartbeats 4000000 in
theorem law_37 (l : Launch) (K : KT) (X : XT) (b L : Nat) (xs : Nat → Int32) (hC : LC l K X b L xs) (Q : State → Prop) (ce sl i W : Nat) (D : DT) (P : PT) (hi : i + 4 ≤ L) (h : RI D P D W) (hW : W + 200 < 2 ^ 29) (hce : ce + 171 ≤ 601024) (hsl : sl + 1026 ≤ 7293034) (tl : ∀ (D2 : DT) (P2 : PT), RI D2 P2 D2 (W + 130) → PV K X Q (ce + 171) (sl + 1026) 2865 [some (.ref b), some (.ref (X.2.2 0)), some (.ref (X.2.2 6)), some (.ref (X.2.2 13)), some (.int (nI i)), none, none, none, none] [] D2 P2) : PV K X Q ce sl 1870 [some (.ref b), some (.ref (X.2.2 0)), some (.ref (X.2.2 6)), some (.ref (X.2.2 13)), some (.int (nI i)), none, none, none, none] [] D P := by
  obtain ⟨hKl, hKR, C, Z, hNC, hfl, hX, hbl, hbA, hL⟩ := hC
  obtain ⟨⟨s, hs5, hs3⟩, hf0, hd0, hse0, hsk0, n, hn60, hn9⟩ := law_pre h hW
  refine pv_aload_n (q := 1871) C dL_law_1870 rfl rfl rfl ?_
  refine pv_aload_n (q := 1872) C dL_law_1871 rfl rfl rfl ?_
  refine pv_iload (q := 1874) C dL_law_1872 rfl rfl ?_
  refine pv_iconst (q := 1875) (v := 1) C dL_law_1874 rfl (by decide) ?_
  refine pv_iaddN (q := 1876) (a := i) (b := 1) C rfl rfl dL_law_1875 rfl ?_
  refine pv_sld (q := 1877) (j := i + 1) C hX hbl hbA rfl (by omega) (by omega) dL_law_1876 rfl ?_
  refine pv_aload_n (q := 1878) C dL_law_1877 rfl rfl rfl ?_
  refine pv_iload (q := 1880) C dL_law_1878 rfl rfl ?_
  refine pv_iconst (q := 1881) (v := 2) C dL_law_1880 rfl (by decide) ?_
  refine pv_iaddN (q := 1882) (a := i) (b := 2) C rfl rfl dL_law_1881 rfl ?_
  refine pv_sld (q := 1883) (j := i + 2) C hX hbl hbA rfl (by omega) (by omega) dL_law_1882 rfl ?_
  refine pv_aload_n (q := 1884) C dL_law_1883 rfl rfl rfl ?_
  refine pv_callL (q := 1887) C Z hNC hKl (c_L_countOf l X D P hfl D W h (xs (i + 1)) (xs (i + 2))) tw_896 mw_L_countOf ⟨rfl, rfl⟩ (by rw [hKR]; exact ⟨Nat.le_of_ble_eq_true rfl, Nat.le_of_ble_eq_true rfl⟩) (by rw [hKR, room_c.1, room_c.2]; constructor <;> omega) rfl rfl rfl (by decide) dL_law_1884 rfl (fun r5 D1 P1 hw => ?_)
  have hFX := hw.2.1
  refine pv_istore (q := 1889) C dL_law_1887 rfl (Nat.le_of_ble_eq_true rfl) rfl ?_
  refine pv_aload_n (q := 1890) C dL_law_1889 rfl rfl rfl ?_
  refine pv_aload_n (q := 1891) C dL_law_1890 rfl rfl rfl ?_
  refine pv_iload (q := 1893) C dL_law_1891 rfl rfl ?_
  refine pv_iconst (q := 1894) (v := 1) C dL_law_1893 rfl (by decide) ?_
  refine pv_iaddN (q := 1895) (a := i) (b := 1) C rfl rfl dL_law_1894 rfl ?_
  refine pv_sld (q := 1896) (j := i + 1) C hX hbl hbA rfl (by omega) (by omega) dL_law_1895 rfl ?_
  refine pv_aload_n (q := 1897) C dL_law_1896 rfl rfl rfl ?_
  refine pv_iload (q := 1899) C dL_law_1897 rfl rfl ?_
  refine pv_iconst (q := 1900) (v := 2) C dL_law_1899 rfl (by decide) ?_
  refine pv_iaddN (q := 1901) (a := i) (b := 2) C rfl rfl dL_law_1900 rfl ?_
  refine pv_sld (q := 1902) (j := i + 2) C hX hbl hbA rfl (by omega) (by omega) dL_law_1901 rfl ?_
  have e6 := hFX 6 (by decide) (by decide)
  have e7 := hFX 7 (by decide) (by decide)
  have e9 := hFX 9 (by decide) (by decide)
  have e12 := hFX 12 (by decide) (by decide)
  refine pv_callVi (q := 1905) C hKl (c_X7_countOf l X D1 P1 (xs (i + 1)) (xs (i + 2))) tw_1352 (show kd 6 = 7 from rfl) (by decide) rfl mm_X7_countOf ⟨rfl, rfl⟩ (by rw [hKR]; exact ⟨Nat.le_of_ble_eq_true rfl, Nat.le_of_ble_eq_true rfl⟩) (by rw [hKR, room_c.1, room_c.2]; constructor <;> omega) rfl rfl rfl (Nat.le_of_ble_eq_true rfl) dL_law_1902 rfl (fun r6 D2 P2 hp => ?_)
  obtain ⟨hp, rfl⟩ := hp
  skip
  try simp only [e6, e7, e9, e12] at hp
  have hm := zMQ_rd hp
  have hnx := law_next hw hm (agr_FX hFX) (off_rf _)
  refine pv_istore (q := 1907) C dL_law_1905 rfl (Nat.le_of_ble_eq_true rfl) rfl ?_
  refine pv_aload_n (q := 1908) C dL_law_1907 rfl rfl rfl ?_
  refine pv_callVi (q := 1911) C hKl (c_X7_thrown l X D2 P1) tw_1041 (show kd 6 = 7 from rfl) (by decide) rfl mm_X7_thrown ⟨rfl, rfl⟩ (by rw [hKR]; exact ⟨Nat.le_of_ble_eq_true rfl, Nat.le_of_ble_eq_true rfl⟩) (by rw [hKR, room_c.1, room_c.2]; constructor <;> omega) rfl rfl rfl (by decide) dL_law_1908 rfl (fun r7 D3 P3 hp3 => ?_)
  obtain ⟨rfl, rfl, rfl⟩ := hp3
  refine pv_iload (q := 1913) C dL_law_1911 rfl rfl ?_
  refine pv_icmp_eq (q := 1916) (tgt := 1918) C dL_law_1913 (by decide) rfl (fun _ => ?_) (fun z => absurd (hm.1.trans hw.1.symm) z)
  refine pv_iload (q := 1920) C dL_law_1918 rfl rfl ?_
  refine pv_if_ne (q := 1923) (tgt := 1935) C dL_law_1920 (by decide) rfl (fun c0 => ?_) (fun c0 => ?_)
  ·
    refine pv_goto (tgt := 2865) C dL_law_1935 (by decide) ?_
    exact PV_widen (ce' := ce + 171) (sl' := sl + 1026) (by omega) (by omega) (PV_le (tl D2 P1 (hnx)) ⟨Or.inr rfl, Or.inr rfl, Or.inr rfl, Or.inr rfl, Or.inr rfl, Or.inl rfl, Or.inl rfl, Or.inl rfl, Or.inl rfl, trivial⟩)
  ·
    obtain ⟨hk0, hv⟩ := WQ_v hw c0
    have hr6 := hm.2.1 hk0
    refine pv_aload_n (q := 1924) C dL_law_1923 rfl rfl rfl ?_
    refine pv_iconst (q := 1925) (v := 0) C dL_law_1924 rfl (by decide) ?_
    refine pv_lald (q := 1926) C rfl dL_law_1925 rfl ?_
    refine pv_iload (q := 1928) C dL_law_1926 rfl rfl ?_
    refine pv_i2l (q := 1929) C dL_law_1928 rfl ?_
    refine pv_lcmp (q := 1930) C dL_law_1929 rfl ?_
    refine pv_if_eq (q := 1933) (tgt := 1935) C dL_law_1930 (by decide) rfl (fun _ => ?_) (fun z => absurd (lg_eq (hv.trans (congrArg Int32.toInt64 hr6.symm))) z)
    refine pv_goto (tgt := 2865) C dL_law_1935 (by decide) ?_
    exact PV_widen (ce' := ce + 171) (sl' := sl + 1026) (by omega) (by omega) (PV_le (tl D2 P1 (hnx)) ⟨Or.inr rfl, Or.inr rfl, Or.inr rfl, Or.inr rfl, Or.inr rfl, Or.inl rfl, Or.inl rfl, Or.inl rfl, Or.inl rfl, trivial⟩)
set_option maxRecDepth 100000 in
set_option maxHeartbeats 4000000 in
theorem law_38 (l : Launch) (K : KT) (X : XT) (b L : Nat) (xs : Nat → Int32) (hC : LC l K X b L xs) (Q : State → Prop) (ce sl i W : Nat) (D : DT) (P : PT) (hi : i + 4 ≤ L) (h : RI D P D W) (hW : W + 200 < 2 ^ 29) (hce : ce + 171 ≤ 601024) (hsl : sl + 1026 ≤ 7293034) (tl : ∀ (D2 : DT) (P2 : PT), RI D2 P2 D2 (W + 130) → PV K X Q (ce + 171) (sl + 1026) 2865 [some (.ref b), some (.ref (X.2.2 0)), some (.ref (X.2.2 6)), some (.ref (X.2.2 13)), some (.int (nI i)), none, none, none, none] [] D2 P2) : PV K X Q ce sl 1938 [some (.ref b), some (.ref (X.2.2 0)), some (.ref (X.2.2 6)), some (.ref (X.2.2 13)), some (.int (nI i)), none, none, none, none] [] D P := by
  obtain ⟨hKl, hKR, C, Z, hNC, hfl, hX, hbl, hbA, hL⟩ := hC
  obtain ⟨⟨s, hs5, hs3⟩, hf0, hd0, hse0, hsk0, n, hn60, hn9⟩ := law_pre h hW
  refine pv_aload_n (q := 1939) C dL_law_1938 rfl rfl rfl ?_
  refine pv_aload_n (q := 1940) C dL_law_1939 rfl rfl rfl ?_
  refine pv_iload (q := 1942) C dL_law_1940 rfl rfl ?_
  refine pv_iconst (q := 1943) (v := 1) C dL_law_1942 rfl (by decide) ?_
  refine pv_iaddN (q := 1944) (a := i) (b := 1) C rfl rfl dL_law_1943 rfl ?_
  refine pv_sld (q := 1945) (j := i + 1) C hX hbl hbA rfl (by omega) (by omega) dL_law_1944 rfl ?_
  refine pv_aload_n (q := 1946) C dL_law_1945 rfl rfl rfl ?_
  refine pv_iload (q := 1948) C dL_law_1946 rfl rfl ?_
  refine pv_iconst (q := 1949) (v := 2) C dL_law_1948 rfl (by decide) ?_
  refine pv_iaddN (q := 1950) (a := i) (b := 2) C rfl rfl dL_law_1949 rfl ?_
  refine pv_sld (q := 1951) (j := i + 2) C hX hbl hbA rfl (by omega) (by omega) dL_law_1950 rfl ?_
  refine pv_aload_n (q := 1952) C dL_law_1951 rfl rfl rfl ?_
  refine pv_callL (q := 1955) C Z hNC hKl (c_L_sumOf l X D P hfl D W h (xs (i + 1)) (xs (i + 2))) tw_903 mw_L_sumOf ⟨rfl, rfl⟩ (by rw [hKR]; exact ⟨Nat.le_of_ble_eq_true rfl, Nat.le_of_ble_eq_true rfl⟩) (by rw [hKR, room_c.1, room_c.2]; constructor <;> omega) rfl rfl rfl (by decide) dL_law_1952 rfl (fun r5 D1 P1 hw => ?_)
  have hFX := hw.2.1
  refine pv_istore (q := 1957) C dL_law_1955 rfl (Nat.le_of_ble_eq_true rfl) rfl ?_
  refine pv_aload_n (q := 1958) C dL_law_1957 rfl rfl rfl ?_
  refine pv_aload_n (q := 1959) C dL_law_1958 rfl rfl rfl ?_
  refine pv_iload (q := 1961) C dL_law_1959 rfl rfl ?_
  refine pv_iconst (q := 1962) (v := 1) C dL_law_1961 rfl (by decide) ?_
  refine pv_iaddN (q := 1963) (a := i) (b := 1) C rfl rfl dL_law_1962 rfl ?_
  refine pv_sld (q := 1964) (j := i + 1) C hX hbl hbA rfl (by omega) (by omega) dL_law_1963 rfl ?_
  refine pv_aload_n (q := 1965) C dL_law_1964 rfl rfl rfl ?_
  refine pv_iload (q := 1967) C dL_law_1965 rfl rfl ?_
  refine pv_iconst (q := 1968) (v := 2) C dL_law_1967 rfl (by decide) ?_
  refine pv_iaddN (q := 1969) (a := i) (b := 2) C rfl rfl dL_law_1968 rfl ?_
  refine pv_sld (q := 1970) (j := i + 2) C hX hbl hbA rfl (by omega) (by omega) dL_law_1969 rfl ?_
  have e6 := hFX 6 (by decide) (by decide)
  have e7 := hFX 7 (by decide) (by decide)
  have e9 := hFX 9 (by decide) (by decide)
  have e12 := hFX 12 (by decide) (by decide)
  refine pv_callVi (q := 1973) C hKl (c_X7_sumOf l X D1 P1 (xs (i + 1)) (xs (i + 2))) tw_1368 (show kd 6 = 7 from rfl) (by decide) rfl mm_X7_sumOf ⟨rfl, rfl⟩ (by rw [hKR]; exact ⟨Nat.le_of_ble_eq_true rfl, Nat.le_of_ble_eq_true rfl⟩) (by rw [hKR, room_c.1, room_c.2]; constructor <;> omega) rfl rfl rfl (Nat.le_of_ble_eq_true rfl) dL_law_1970 rfl (fun r6 D2 P2 hp => ?_)
  obtain ⟨hp, rfl⟩ := hp
  skip
  try simp only [e6, e7, e9, e12] at hp
  have hm := zMQ_rd hp
  have hnx := law_next hw hm (agr_FX hFX) (off_rf _)
  refine pv_istore (q := 1975) C dL_law_1973 rfl (Nat.le_of_ble_eq_true rfl) rfl ?_
  refine pv_aload_n (q := 1976) C dL_law_1975 rfl rfl rfl ?_
  refine pv_callVi (q := 1979) C hKl (c_X7_thrown l X D2 P1) tw_1041 (show kd 6 = 7 from rfl) (by decide) rfl mm_X7_thrown ⟨rfl, rfl⟩ (by rw [hKR]; exact ⟨Nat.le_of_ble_eq_true rfl, Nat.le_of_ble_eq_true rfl⟩) (by rw [hKR, room_c.1, room_c.2]; constructor <;> omega) rfl rfl rfl (by decide) dL_law_1976 rfl (fun r7 D3 P3 hp3 => ?_)
  obtain ⟨rfl, rfl, rfl⟩ := hp3
  refine pv_iload (q := 1981) C dL_law_1979 rfl rfl ?_
  refine pv_icmp_eq (q := 1984) (tgt := 1986) C dL_law_1981 (by decide) rfl (fun _ => ?_) (fun z => absurd (hm.1.trans hw.1.symm) z)
  refine pv_iload (q := 1988) C dL_law_1986 rfl rfl ?_
  refine pv_if_ne (q := 1991) (tgt := 2003) C dL_law_1988 (by decide) rfl (fun c0 => ?_) (fun c0 => ?_)
  ·
    refine pv_goto (tgt := 2865) C dL_law_2003 (by decide) ?_
    exact PV_widen (ce' := ce + 171) (sl' := sl + 1026) (by omega) (by omega) (PV_le (tl D2 P1 (hnx)) ⟨Or.inr rfl, Or.inr rfl, Or.inr rfl, Or.inr rfl, Or.inr rfl, Or.inl rfl, Or.inl rfl, Or.inl rfl, Or.inl rfl, trivial⟩)
  ·
    obtain ⟨hk0, hv⟩ := WQ_v hw c0
    have hr6 := hm.2.1 hk0
    refine pv_aload_n (q := 1992) C dL_law_1991 rfl rfl rfl ?_
    refine pv_iconst (q := 1993) (v := 0) C dL_law_1992 rfl (by decide) ?_
    refine pv_lald (q := 1994) C rfl dL_law_1993 rfl ?_
    refine pv_iload (q := 1996) C dL_law_1994 rfl rfl ?_
    refine pv_i2l (q := 1997) C dL_law_1996 rfl ?_
    refine pv_lcmp (q := 1998) C dL_law_1997 rfl ?_
    refine pv_if_eq (q := 2001) (tgt := 2003) C dL_law_1998 (by decide) rfl (fun _ => ?_) (fun z => absurd (lg_eq (hv.trans (congrArg Int32.toInt64 hr6.symm))) z)
    refine pv_goto (tgt := 2865) C dL_law_2003 (by decide) ?_
    exact PV_widen (ce' := ce + 171) (sl' := sl + 1026) (by omega) (by omega) (PV_le (tl D2 P1 (hnx)) ⟨Or.inr rfl, Or.inr rfl, Or.inr rfl, Or.inr rfl, Or.inr rfl, Or.inl rfl, Or.inl rfl, Or.inl rfl, Or.inl rfl, trivial⟩)
set_option maxRecDepth 100000 in
set_option maxHeartbeats 4000000 in
theorem law_39 (l : Launch) (K : KT) (X : XT) (b L : Nat) (xs : Nat → Int32) (hC : LC l K X b L xs) (Q : State → Prop) (ce sl i W : Nat) (D : DT) (P : PT) (hi : i + 4 ≤ L) (h : RI D P D W) (hW : W + 200 < 2 ^ 29) (hce : ce + 171 ≤ 601024) (hsl : sl + 1026 ≤ 7293034) (tl : ∀ (D2 : DT) (P2 : PT), RI D2 P2 D2 (W + 130) → PV K X Q (ce + 171) (sl + 1026) 2865 [some (.ref b), some (.ref (X.2.2 0)), some (.ref (X.2.2 6)), some (.ref (X.2.2 13)), some (.int (nI i)), none, none, none, none] [] D2 P2) : PV K X Q ce sl 2006 [some (.ref b), some (.ref (X.2.2 0)), some (.ref (X.2.2 6)), some (.ref (X.2.2 13)), some (.int (nI i)), none, none, none, none] [] D P := by
  obtain ⟨hKl, hKR, C, Z, hNC, hfl, hX, hbl, hbA, hL⟩ := hC
  obtain ⟨⟨s, hs5, hs3⟩, hf0, hd0, hse0, hsk0, n, hn60, hn9⟩ := law_pre h hW
  refine pv_aload_n (q := 2007) C dL_law_2006 rfl rfl rfl ?_
  refine pv_aload_n (q := 2008) C dL_law_2007 rfl rfl rfl ?_
  refine pv_iload (q := 2010) C dL_law_2008 rfl rfl ?_
  refine pv_iconst (q := 2011) (v := 1) C dL_law_2010 rfl (by decide) ?_
  refine pv_iaddN (q := 2012) (a := i) (b := 1) C rfl rfl dL_law_2011 rfl ?_
  refine pv_sld (q := 2013) (j := i + 1) C hX hbl hbA rfl (by omega) (by omega) dL_law_2012 rfl ?_
  refine pv_aload_n (q := 2014) C dL_law_2013 rfl rfl rfl ?_
  refine pv_iload (q := 2016) C dL_law_2014 rfl rfl ?_
  refine pv_iconst (q := 2017) (v := 2) C dL_law_2016 rfl (by decide) ?_
  refine pv_iaddN (q := 2018) (a := i) (b := 2) C rfl rfl dL_law_2017 rfl ?_
  refine pv_sld (q := 2019) (j := i + 2) C hX hbl hbA rfl (by omega) (by omega) dL_law_2018 rfl ?_
  refine pv_aload_n (q := 2020) C dL_law_2019 rfl rfl rfl ?_
  refine pv_callL (q := 2023) C Z hNC hKl (c_L_leastOf l X D P hfl D W h (xs (i + 1)) (xs (i + 2))) tw_910 mw_L_leastOf ⟨rfl, rfl⟩ (by rw [hKR]; exact ⟨Nat.le_of_ble_eq_true rfl, Nat.le_of_ble_eq_true rfl⟩) (by rw [hKR, room_c.1, room_c.2]; constructor <;> omega) rfl rfl rfl (by decide) dL_law_2020 rfl (fun r5 D1 P1 hw => ?_)
  have hFX := hw.2.1
  refine pv_istore (q := 2025) C dL_law_2023 rfl (Nat.le_of_ble_eq_true rfl) rfl ?_
  refine pv_aload_n (q := 2026) C dL_law_2025 rfl rfl rfl ?_
  refine pv_aload_n (q := 2027) C dL_law_2026 rfl rfl rfl ?_
  refine pv_iload (q := 2029) C dL_law_2027 rfl rfl ?_
  refine pv_iconst (q := 2030) (v := 1) C dL_law_2029 rfl (by decide) ?_
  refine pv_iaddN (q := 2031) (a := i) (b := 1) C rfl rfl dL_law_2030 rfl ?_
  refine pv_sld (q := 2032) (j := i + 1) C hX hbl hbA rfl (by omega) (by omega) dL_law_2031 rfl ?_
  refine pv_aload_n (q := 2033) C dL_law_2032 rfl rfl rfl ?_
  refine pv_iload (q := 2035) C dL_law_2033 rfl rfl ?_
  refine pv_iconst (q := 2036) (v := 2) C dL_law_2035 rfl (by decide) ?_
  refine pv_iaddN (q := 2037) (a := i) (b := 2) C rfl rfl dL_law_2036 rfl ?_
  refine pv_sld (q := 2038) (j := i + 2) C hX hbl hbA rfl (by omega) (by omega) dL_law_2037 rfl ?_
  have e6 := hFX 6 (by decide) (by decide)
  have e7 := hFX 7 (by decide) (by decide)
  have e9 := hFX 9 (by decide) (by decide)
  have e12 := hFX 12 (by decide) (by decide)
  refine pv_callVi (q := 2041) C hKl (c_X7_leastOf l X D1 P1 (xs (i + 1)) (xs (i + 2))) tw_1375 (show kd 6 = 7 from rfl) (by decide) rfl mm_X7_leastOf ⟨rfl, rfl⟩ (by rw [hKR]; exact ⟨Nat.le_of_ble_eq_true rfl, Nat.le_of_ble_eq_true rfl⟩) (by rw [hKR, room_c.1, room_c.2]; constructor <;> omega) rfl rfl rfl (Nat.le_of_ble_eq_true rfl) dL_law_2038 rfl (fun r6 D2 P2 hp => ?_)
  obtain ⟨hp, rfl⟩ := hp
  skip
  try simp only [e6, e7, e9, e12] at hp
  have hm := zMQ_rd hp
  have hnx := law_next hw hm (agr_FX hFX) (off_rf _)
  refine pv_istore (q := 2043) C dL_law_2041 rfl (Nat.le_of_ble_eq_true rfl) rfl ?_
  refine pv_aload_n (q := 2044) C dL_law_2043 rfl rfl rfl ?_
  refine pv_callVi (q := 2047) C hKl (c_X7_thrown l X D2 P1) tw_1041 (show kd 6 = 7 from rfl) (by decide) rfl mm_X7_thrown ⟨rfl, rfl⟩ (by rw [hKR]; exact ⟨Nat.le_of_ble_eq_true rfl, Nat.le_of_ble_eq_true rfl⟩) (by rw [hKR, room_c.1, room_c.2]; constructor <;> omega) rfl rfl rfl (by decide) dL_law_2044 rfl (fun r7 D3 P3 hp3 => ?_)
  obtain ⟨rfl, rfl, rfl⟩ := hp3
  refine pv_iload (q := 2049) C dL_law_2047 rfl rfl ?_
  refine pv_icmp_eq (q := 2052) (tgt := 2054) C dL_law_2049 (by decide) rfl (fun _ => ?_) (fun z => absurd (hm.1.trans hw.1.symm) z)
  refine pv_iload (q := 2056) C dL_law_2054 rfl rfl ?_
  refine pv_if_ne (q := 2059) (tgt := 2071) C dL_law_2056 (by decide) rfl (fun c0 => ?_) (fun c0 => ?_)
  ·
    refine pv_goto (tgt := 2865) C dL_law_2071 (by decide) ?_
    exact PV_widen (ce' := ce + 171) (sl' := sl + 1026) (by omega) (by omega) (PV_le (tl D2 P1 (hnx)) ⟨Or.inr rfl, Or.inr rfl, Or.inr rfl, Or.inr rfl, Or.inr rfl, Or.inl rfl, Or.inl rfl, Or.inl rfl, Or.inl rfl, trivial⟩)
  ·
    obtain ⟨hk0, hv⟩ := WQ_v hw c0
    have hr6 := hm.2.1 hk0
    refine pv_aload_n (q := 2060) C dL_law_2059 rfl rfl rfl ?_
    refine pv_iconst (q := 2061) (v := 0) C dL_law_2060 rfl (by decide) ?_
    refine pv_lald (q := 2062) C rfl dL_law_2061 rfl ?_
    refine pv_iload (q := 2064) C dL_law_2062 rfl rfl ?_
    refine pv_i2l (q := 2065) C dL_law_2064 rfl ?_
    refine pv_lcmp (q := 2066) C dL_law_2065 rfl ?_
    refine pv_if_eq (q := 2069) (tgt := 2071) C dL_law_2066 (by decide) rfl (fun _ => ?_) (fun z => absurd (lg_eq (hv.trans (congrArg Int32.toInt64 hr6.symm))) z)
    refine pv_goto (tgt := 2865) C dL_law_2071 (by decide) ?_
    exact PV_widen (ce' := ce + 171) (sl' := sl + 1026) (by omega) (by omega) (PV_le (tl D2 P1 (hnx)) ⟨Or.inr rfl, Or.inr rfl, Or.inr rfl, Or.inr rfl, Or.inr rfl, Or.inl rfl, Or.inl rfl, Or.inl rfl, Or.inl rfl, trivial⟩)
set_option maxRecDepth 100000 in
set_option maxHeartbeats 4000000 in
theorem law_40 (l : Launch) (K : KT) (X : XT) (b L : Nat) (xs : Nat → Int32) (hC : LC l K X b L xs) (Q : State → Prop) (ce sl i W : Nat) (D : DT) (P : PT) (hi : i + 4 ≤ L) (h : RI D P D W) (hW : W + 200 < 2 ^ 29) (hce : ce + 171 ≤ 601024) (hsl : sl + 1026 ≤ 7293034) (tl : ∀ (D2 : DT) (P2 : PT), RI D2 P2 D2 (W + 130) → PV K X Q (ce + 171) (sl + 1026) 2865 [some (.ref b), some (.ref (X.2.2 0)), some (.ref (X.2.2 6)), some (.ref (X.2.2 13)), some (.int (nI i)), none, none, none, none] [] D2 P2) : PV K X Q ce sl 2074 [some (.ref b), some (.ref (X.2.2 0)), some (.ref (X.2.2 6)), some (.ref (X.2.2 13)), some (.int (nI i)), none, none, none, none] [] D P := by
  obtain ⟨hKl, hKR, C, Z, hNC, hfl, hX, hbl, hbA, hL⟩ := hC
  obtain ⟨⟨s, hs5, hs3⟩, hf0, hd0, hse0, hsk0, n, hn60, hn9⟩ := law_pre h hW
  refine pv_aload_n (q := 2075) C dL_law_2074 rfl rfl rfl ?_
  refine pv_aload_n (q := 2076) C dL_law_2075 rfl rfl rfl ?_
  refine pv_iload (q := 2078) C dL_law_2076 rfl rfl ?_
  refine pv_iconst (q := 2079) (v := 1) C dL_law_2078 rfl (by decide) ?_
  refine pv_iaddN (q := 2080) (a := i) (b := 1) C rfl rfl dL_law_2079 rfl ?_
  refine pv_sld (q := 2081) (j := i + 1) C hX hbl hbA rfl (by omega) (by omega) dL_law_2080 rfl ?_
  refine pv_aload_n (q := 2082) C dL_law_2081 rfl rfl rfl ?_
  refine pv_iload (q := 2084) C dL_law_2082 rfl rfl ?_
  refine pv_iconst (q := 2085) (v := 2) C dL_law_2084 rfl (by decide) ?_
  refine pv_iaddN (q := 2086) (a := i) (b := 2) C rfl rfl dL_law_2085 rfl ?_
  refine pv_sld (q := 2087) (j := i + 2) C hX hbl hbA rfl (by omega) (by omega) dL_law_2086 rfl ?_
  refine pv_aload_n (q := 2088) C dL_law_2087 rfl rfl rfl ?_
  refine pv_callL (q := 2091) C Z hNC hKl (c_L_greatestOf l X D P hfl D W h (xs (i + 1)) (xs (i + 2))) tw_921 mw_L_greatestOf ⟨rfl, rfl⟩ (by rw [hKR]; exact ⟨Nat.le_of_ble_eq_true rfl, Nat.le_of_ble_eq_true rfl⟩) (by rw [hKR, room_c.1, room_c.2]; constructor <;> omega) rfl rfl rfl (by decide) dL_law_2088 rfl (fun r5 D1 P1 hw => ?_)
  have hFX := hw.2.1
  refine pv_istore (q := 2093) C dL_law_2091 rfl (Nat.le_of_ble_eq_true rfl) rfl ?_
  refine pv_aload_n (q := 2094) C dL_law_2093 rfl rfl rfl ?_
  refine pv_aload_n (q := 2095) C dL_law_2094 rfl rfl rfl ?_
  refine pv_iload (q := 2097) C dL_law_2095 rfl rfl ?_
  refine pv_iconst (q := 2098) (v := 1) C dL_law_2097 rfl (by decide) ?_
  refine pv_iaddN (q := 2099) (a := i) (b := 1) C rfl rfl dL_law_2098 rfl ?_
  refine pv_sld (q := 2100) (j := i + 1) C hX hbl hbA rfl (by omega) (by omega) dL_law_2099 rfl ?_
  refine pv_aload_n (q := 2101) C dL_law_2100 rfl rfl rfl ?_
  refine pv_iload (q := 2103) C dL_law_2101 rfl rfl ?_
  refine pv_iconst (q := 2104) (v := 2) C dL_law_2103 rfl (by decide) ?_
  refine pv_iaddN (q := 2105) (a := i) (b := 2) C rfl rfl dL_law_2104 rfl ?_
  refine pv_sld (q := 2106) (j := i + 2) C hX hbl hbA rfl (by omega) (by omega) dL_law_2105 rfl ?_
  have e6 := hFX 6 (by decide) (by decide)
  have e7 := hFX 7 (by decide) (by decide)
  have e9 := hFX 9 (by decide) (by decide)
  have e12 := hFX 12 (by decide) (by decide)
  refine pv_callVi (q := 2109) C hKl (c_X7_greatestOf l X D1 P1 (xs (i + 1)) (xs (i + 2))) tw_1383 (show kd 6 = 7 from rfl) (by decide) rfl mm_X7_greatestOf ⟨rfl, rfl⟩ (by rw [hKR]; exact ⟨Nat.le_of_ble_eq_true rfl, Nat.le_of_ble_eq_true rfl⟩) (by rw [hKR, room_c.1, room_c.2]; constructor <;> omega) rfl rfl rfl (Nat.le_of_ble_eq_true rfl) dL_law_2106 rfl (fun r6 D2 P2 hp => ?_)
  obtain ⟨hp, rfl⟩ := hp
  skip
  try simp only [e6, e7, e9, e12] at hp
  have hm := zMQ_rd hp
  have hnx := law_next hw hm (agr_FX hFX) (off_rf _)
  refine pv_istore (q := 2111) C dL_law_2109 rfl (Nat.le_of_ble_eq_true rfl) rfl ?_
  refine pv_aload_n (q := 2112) C dL_law_2111 rfl rfl rfl ?_
  refine pv_callVi (q := 2115) C hKl (c_X7_thrown l X D2 P1) tw_1041 (show kd 6 = 7 from rfl) (by decide) rfl mm_X7_thrown ⟨rfl, rfl⟩ (by rw [hKR]; exact ⟨Nat.le_of_ble_eq_true rfl, Nat.le_of_ble_eq_true rfl⟩) (by rw [hKR, room_c.1, room_c.2]; constructor <;> omega) rfl rfl rfl (by decide) dL_law_2112 rfl (fun r7 D3 P3 hp3 => ?_)
  obtain ⟨rfl, rfl, rfl⟩ := hp3
  refine pv_iload (q := 2117) C dL_law_2115 rfl rfl ?_
  refine pv_icmp_eq (q := 2120) (tgt := 2122) C dL_law_2117 (by decide) rfl (fun _ => ?_) (fun z => absurd (hm.1.trans hw.1.symm) z)
  refine pv_iload (q := 2124) C dL_law_2122 rfl rfl ?_
  refine pv_if_ne (q := 2127) (tgt := 2139) C dL_law_2124 (by decide) rfl (fun c0 => ?_) (fun c0 => ?_)
  ·
    refine pv_goto (tgt := 2865) C dL_law_2139 (by decide) ?_
    exact PV_widen (ce' := ce + 171) (sl' := sl + 1026) (by omega) (by omega) (PV_le (tl D2 P1 (hnx)) ⟨Or.inr rfl, Or.inr rfl, Or.inr rfl, Or.inr rfl, Or.inr rfl, Or.inl rfl, Or.inl rfl, Or.inl rfl, Or.inl rfl, trivial⟩)
  ·
    obtain ⟨hk0, hv⟩ := WQ_v hw c0
    have hr6 := hm.2.1 hk0
    refine pv_aload_n (q := 2128) C dL_law_2127 rfl rfl rfl ?_
    refine pv_iconst (q := 2129) (v := 0) C dL_law_2128 rfl (by decide) ?_
    refine pv_lald (q := 2130) C rfl dL_law_2129 rfl ?_
    refine pv_iload (q := 2132) C dL_law_2130 rfl rfl ?_
    refine pv_i2l (q := 2133) C dL_law_2132 rfl ?_
    refine pv_lcmp (q := 2134) C dL_law_2133 rfl ?_
    refine pv_if_eq (q := 2137) (tgt := 2139) C dL_law_2134 (by decide) rfl (fun _ => ?_) (fun z => absurd (lg_eq (hv.trans (congrArg Int32.toInt64 hr6.symm))) z)
    refine pv_goto (tgt := 2865) C dL_law_2139 (by decide) ?_
    exact PV_widen (ce' := ce + 171) (sl' := sl + 1026) (by omega) (by omega) (PV_le (tl D2 P1 (hnx)) ⟨Or.inr rfl, Or.inr rfl, Or.inr rfl, Or.inr rfl, Or.inr rfl, Or.inl rfl, Or.inl rfl, Or.inl rfl, Or.inl rfl, trivial⟩)
set_option maxRecDepth 100000 in
set_option maxHeartbeats 4000000 in
theorem law_41 (l : Launch) (K : KT) (X : XT) (b L : Nat) (xs : Nat → Int32) (hC : LC l K X b L xs) (Q : State → Prop) (ce sl i W : Nat) (D : DT) (P : PT) (hi : i + 4 ≤ L) (h : RI D P D W) (hW : W + 200 < 2 ^ 29) (hce : ce + 171 ≤ 601024) (hsl : sl + 1026 ≤ 7293034) (tl : ∀ (D2 : DT) (P2 : PT), RI D2 P2 D2 (W + 130) → PV K X Q (ce + 171) (sl + 1026) 2865 [some (.ref b), some (.ref (X.2.2 0)), some (.ref (X.2.2 6)), some (.ref (X.2.2 13)), some (.int (nI i)), none, none, none, none] [] D2 P2) : PV K X Q ce sl 2142 [some (.ref b), some (.ref (X.2.2 0)), some (.ref (X.2.2 6)), some (.ref (X.2.2 13)), some (.int (nI i)), none, none, none, none] [] D P := by
  obtain ⟨hKl, hKR, C, Z, hNC, hfl, hX, hbl, hbA, hL⟩ := hC
  obtain ⟨⟨s, hs5, hs3⟩, hf0, hd0, hse0, hsk0, n, hn60, hn9⟩ := law_pre h hW
  refine pv_aload_n (q := 2143) C dL_law_2142 rfl rfl rfl ?_
  refine pv_aload_n (q := 2144) C dL_law_2143 rfl rfl rfl ?_
  refine pv_iload (q := 2146) C dL_law_2144 rfl rfl ?_
  refine pv_iconst (q := 2147) (v := 1) C dL_law_2146 rfl (by decide) ?_
  refine pv_iaddN (q := 2148) (a := i) (b := 1) C rfl rfl dL_law_2147 rfl ?_
  refine pv_sld (q := 2149) (j := i + 1) C hX hbl hbA rfl (by omega) (by omega) dL_law_2148 rfl ?_
  refine pv_aload_n (q := 2150) C dL_law_2149 rfl rfl rfl ?_
  refine pv_iload (q := 2152) C dL_law_2150 rfl rfl ?_
  refine pv_iconst (q := 2153) (v := 2) C dL_law_2152 rfl (by decide) ?_
  refine pv_iaddN (q := 2154) (a := i) (b := 2) C rfl rfl dL_law_2153 rfl ?_
  refine pv_sld (q := 2155) (j := i + 2) C hX hbl hbA rfl (by omega) (by omega) dL_law_2154 rfl ?_
  refine pv_aload_n (q := 2156) C dL_law_2155 rfl rfl rfl ?_
  refine pv_callL (q := 2159) C Z hNC hKl (c_L_medianOf l X D P hfl D W h (xs (i + 1)) (xs (i + 2))) tw_928 mw_L_medianOf ⟨rfl, rfl⟩ (by rw [hKR]; exact ⟨Nat.le_of_ble_eq_true rfl, Nat.le_of_ble_eq_true rfl⟩) (by rw [hKR, room_c.1, room_c.2]; constructor <;> omega) rfl rfl rfl (by decide) dL_law_2156 rfl (fun r5 D1 P1 hw => ?_)
  have hFX := hw.2.1
  refine pv_istore (q := 2161) C dL_law_2159 rfl (Nat.le_of_ble_eq_true rfl) rfl ?_
  refine pv_aload_n (q := 2162) C dL_law_2161 rfl rfl rfl ?_
  refine pv_aload_n (q := 2163) C dL_law_2162 rfl rfl rfl ?_
  refine pv_iload (q := 2165) C dL_law_2163 rfl rfl ?_
  refine pv_iconst (q := 2166) (v := 1) C dL_law_2165 rfl (by decide) ?_
  refine pv_iaddN (q := 2167) (a := i) (b := 1) C rfl rfl dL_law_2166 rfl ?_
  refine pv_sld (q := 2168) (j := i + 1) C hX hbl hbA rfl (by omega) (by omega) dL_law_2167 rfl ?_
  refine pv_aload_n (q := 2169) C dL_law_2168 rfl rfl rfl ?_
  refine pv_iload (q := 2171) C dL_law_2169 rfl rfl ?_
  refine pv_iconst (q := 2172) (v := 2) C dL_law_2171 rfl (by decide) ?_
  refine pv_iaddN (q := 2173) (a := i) (b := 2) C rfl rfl dL_law_2172 rfl ?_
  refine pv_sld (q := 2174) (j := i + 2) C hX hbl hbA rfl (by omega) (by omega) dL_law_2173 rfl ?_
  have e6 := hFX 6 (by decide) (by decide)
  have e7 := hFX 7 (by decide) (by decide)
  have e9 := hFX 9 (by decide) (by decide)
  have e12 := hFX 12 (by decide) (by decide)
  refine pv_callVi (q := 2177) C hKl (c_X7_medianOf l X D1 P1 (xs (i + 1)) (xs (i + 2))) tw_1387 (show kd 6 = 7 from rfl) (by decide) rfl mm_X7_medianOf ⟨rfl, rfl⟩ (by rw [hKR]; exact ⟨Nat.le_of_ble_eq_true rfl, Nat.le_of_ble_eq_true rfl⟩) (by rw [hKR, room_c.1, room_c.2]; constructor <;> omega) rfl rfl rfl (Nat.le_of_ble_eq_true rfl) dL_law_2174 rfl (fun r6 D2 P2 hp => ?_)
  obtain ⟨hp, rfl⟩ := hp
  skip
  try simp only [e6, e7, e9, e12] at hp
  have hm := zMQ_rd hp
  have hnx := law_next hw hm (agr_FX hFX) (off_rf _)
  refine pv_istore (q := 2179) C dL_law_2177 rfl (Nat.le_of_ble_eq_true rfl) rfl ?_
  refine pv_aload_n (q := 2180) C dL_law_2179 rfl rfl rfl ?_
  refine pv_callVi (q := 2183) C hKl (c_X7_thrown l X D2 P1) tw_1041 (show kd 6 = 7 from rfl) (by decide) rfl mm_X7_thrown ⟨rfl, rfl⟩ (by rw [hKR]; exact ⟨Nat.le_of_ble_eq_true rfl, Nat.le_of_ble_eq_true rfl⟩) (by rw [hKR, room_c.1, room_c.2]; constructor <;> omega) rfl rfl rfl (by decide) dL_law_2180 rfl (fun r7 D3 P3 hp3 => ?_)
  obtain ⟨rfl, rfl, rfl⟩ := hp3
  refine pv_iload (q := 2185) C dL_law_2183 rfl rfl ?_
  refine pv_icmp_eq (q := 2188) (tgt := 2190) C dL_law_2185 (by decide) rfl (fun _ => ?_) (fun z => absurd (hm.1.trans hw.1.symm) z)
  refine pv_iload (q := 2192) C dL_law_2190 rfl rfl ?_
  refine pv_if_ne (q := 2195) (tgt := 2207) C dL_law_2192 (by decide) rfl (fun c0 => ?_) (fun c0 => ?_)
  ·
    refine pv_goto (tgt := 2865) C dL_law_2207 (by decide) ?_
    exact PV_widen (ce' := ce + 171) (sl' := sl + 1026) (by omega) (by omega) (PV_le (tl D2 P1 (hnx)) ⟨Or.inr rfl, Or.inr rfl, Or.inr rfl, Or.inr rfl, Or.inr rfl, Or.inl rfl, Or.inl rfl, Or.inl rfl, Or.inl rfl, trivial⟩)
  ·
    obtain ⟨hk0, hv⟩ := WQ_v hw c0
    have hr6 := hm.2.1 hk0
    refine pv_aload_n (q := 2196) C dL_law_2195 rfl rfl rfl ?_
    refine pv_iconst (q := 2197) (v := 0) C dL_law_2196 rfl (by decide) ?_
    refine pv_lald (q := 2198) C rfl dL_law_2197 rfl ?_
    refine pv_iload (q := 2200) C dL_law_2198 rfl rfl ?_
    refine pv_i2l (q := 2201) C dL_law_2200 rfl ?_
    refine pv_lcmp (q := 2202) C dL_law_2201 rfl ?_
    refine pv_if_eq (q := 2205) (tgt := 2207) C dL_law_2202 (by decide) rfl (fun _ => ?_) (fun z => absurd (lg_eq (hv.trans (congrArg Int32.toInt64 hr6.symm))) z)
    refine pv_goto (tgt := 2865) C dL_law_2207 (by decide) ?_
    exact PV_widen (ce' := ce + 171) (sl' := sl + 1026) (by omega) (by omega) (PV_le (tl D2 P1 (hnx)) ⟨Or.inr rfl, Or.inr rfl, Or.inr rfl, Or.inr rfl, Or.inr rfl, Or.inl rfl, Or.inl rfl, Or.inl rfl, Or.inl rfl, trivial⟩)
