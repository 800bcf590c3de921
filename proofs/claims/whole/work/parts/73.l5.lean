set_option maxRecDepth 100000 in
set_option maxHeartbeats 4000000 in
theorem law_14 (l : Launch) (K : KT) (X : XT) (b L : Nat) (xs : Nat → Int32) (hC : LC l K X b L xs) (Q : State → Prop) (ce sl i W : Nat) (D : DT) (P : PT) (hi : i + 4 ≤ L) (h : RI D P D W) (hW : W + 200 < 2 ^ 29) (hce : ce + 171 ≤ 601024) (hsl : sl + 1026 ≤ 7293034) (tl : ∀ (D2 : DT) (P2 : PT), RI D2 P2 D2 (W + 130) → PV K X Q (ce + 171) (sl + 1026) 2865 [some (.ref b), some (.ref (X.2.2 0)), some (.ref (X.2.2 6)), some (.ref (X.2.2 13)), some (.int (nI i)), none, none, none, none] [] D2 P2) : PV K X Q ce sl 1046 [some (.ref b), some (.ref (X.2.2 0)), some (.ref (X.2.2 6)), some (.ref (X.2.2 13)), some (.int (nI i)), none, none, none, none] [] D P := by
  obtain ⟨hKl, hKR, C, Z, hNC, hfl, hX, hbl, hbA, hL⟩ := hC
  obtain ⟨⟨s, hs5, hs3⟩, hf0, hd0, hse0, hsk0, n, hn60, hn9⟩ := law_pre h hW
  refine pv_aload_n (q := 1047) C dL_law_1046 rfl rfl rfl ?_
  refine pv_aload_n (q := 1048) C dL_law_1047 rfl rfl rfl ?_
  refine pv_callL (q := 1051) C Z hNC hKl (c_L_replay l X D P hfl D W h hW n hn60 hn9) tw_809 mw_L_replay ⟨rfl, rfl⟩ (by rw [hKR]; exact ⟨Nat.le_of_ble_eq_true rfl, Nat.le_of_ble_eq_true rfl⟩) (by rw [hKR, room_c.1, room_c.2]; constructor <;> omega) rfl rfl rfl (by decide) dL_law_1048 rfl (fun r5 D1 P1 hw => ?_)
  have hFX := hw.2.1
  refine pv_istore (q := 1053) C dL_law_1051 rfl (Nat.le_of_ble_eq_true rfl) rfl ?_
  refine pv_aload_n (q := 1054) C dL_law_1053 rfl rfl rfl ?_
  have e6 := hFX 6 (by decide) (by decide)
  have e7 := hFX 7 (by decide) (by decide)
  have e9 := hFX 9 (by decide) (by decide)
  have e12 := hFX 12 (by decide) (by decide)
  refine pv_callVi (q := 1057) C hKl (c_X7_replay l X D1 P1 n (by rw [e6]; exact hn9) hn60 (⟨s, hs5, by rw [e6]; exact hs3⟩ : sok D1) (by rw [e7]; exact ⟨hf0, hd0 _ (by omega)⟩)) tw_1244 (show kd 6 = 7 from rfl) (by decide) rfl mm_X7_replay ⟨rfl, rfl⟩ (by rw [hKR]; exact ⟨Nat.le_of_ble_eq_true rfl, Nat.le_of_ble_eq_true rfl⟩) (by rw [hKR, room_c.1, room_c.2]; constructor <;> omega) rfl rfl rfl (Nat.le_of_ble_eq_true rfl) dL_law_1054 rfl (fun r6 D2 P2 hp => ?_)
  obtain ⟨hp, rfl⟩ := hp
  try rw [kRpl_eq e12] at hp
  try simp only [e6, e7, e9, e12] at hp
  have hm := zMQ_rp hp
  have hnx := law_next hw hm (agr_rpl (agr_FX hFX)) (off_rpl _ _)
  refine pv_istore (q := 1059) C dL_law_1057 rfl (Nat.le_of_ble_eq_true rfl) rfl ?_
  refine pv_aload_n (q := 1060) C dL_law_1059 rfl rfl rfl ?_
  refine pv_callVi (q := 1063) C hKl (c_X7_thrown l X D2 P1) tw_1041 (show kd 6 = 7 from rfl) (by decide) rfl mm_X7_thrown ⟨rfl, rfl⟩ (by rw [hKR]; exact ⟨Nat.le_of_ble_eq_true rfl, Nat.le_of_ble_eq_true rfl⟩) (by rw [hKR, room_c.1, room_c.2]; constructor <;> omega) rfl rfl rfl (by decide) dL_law_1060 rfl (fun r7 D3 P3 hp3 => ?_)
  obtain ⟨rfl, rfl, rfl⟩ := hp3
  refine pv_iload (q := 1065) C dL_law_1063 rfl rfl ?_
  refine pv_icmp_eq (q := 1068) (tgt := 1070) C dL_law_1065 (by decide) rfl (fun _ => ?_) (fun z => absurd (hm.1.trans hw.1.symm) z)
  refine pv_iload (q := 1072) C dL_law_1070 rfl rfl ?_
  refine pv_if_ne (q := 1075) (tgt := 1087) C dL_law_1072 (by decide) rfl (fun c0 => ?_) (fun c0 => ?_)
  ·
    refine pv_goto (tgt := 2865) C dL_law_1087 (by decide) ?_
    exact PV_widen (ce' := ce + 171) (sl' := sl + 1026) (by omega) (by omega) (PV_le (tl D2 P1 (hnx)) ⟨Or.inr rfl, Or.inr rfl, Or.inr rfl, Or.inr rfl, Or.inr rfl, Or.inl rfl, Or.inl rfl, Or.inl rfl, Or.inl rfl, trivial⟩)
  ·
    obtain ⟨hk0, hv⟩ := WQ_v hw c0
    have hr6 := hm.2.1 hk0
    refine pv_aload_n (q := 1076) C dL_law_1075 rfl rfl rfl ?_
    refine pv_iconst (q := 1077) (v := 0) C dL_law_1076 rfl (by decide) ?_
    refine pv_lald (q := 1078) C rfl dL_law_1077 rfl ?_
    refine pv_iload (q := 1080) C dL_law_1078 rfl rfl ?_
    refine pv_i2l (q := 1081) C dL_law_1080 rfl ?_
    refine pv_lcmp (q := 1082) C dL_law_1081 rfl ?_
    refine pv_if_eq (q := 1085) (tgt := 1087) C dL_law_1082 (by decide) rfl (fun _ => ?_) (fun z => absurd (lg_eq (hv.trans (congrArg Int32.toInt64 hr6.symm))) z)
    refine pv_goto (tgt := 2865) C dL_law_1087 (by decide) ?_
    exact PV_widen (ce' := ce + 171) (sl' := sl + 1026) (by omega) (by omega) (PV_le (tl D2 P1 (hnx)) ⟨Or.inr rfl, Or.inr rfl, Or.inr rfl, Or.inr rfl, Or.inr rfl, Or.inl rfl, Or.inl rfl, Or.inl rfl, Or.inl rfl, trivial⟩)
set_option maxRecDepth 100000 in
set_option maxHeartbeats 4000000 in
theorem law_15 (l : Launch) (K : KT) (X : XT) (b L : Nat) (xs : Nat → Int32) (hC : LC l K X b L xs) (Q : State → Prop) (ce sl i W : Nat) (D : DT) (P : PT) (hi : i + 4 ≤ L) (h : RI D P D W) (hW : W + 200 < 2 ^ 29) (hce : ce + 171 ≤ 601024) (hsl : sl + 1026 ≤ 7293034) (tl : ∀ (D2 : DT) (P2 : PT), RI D2 P2 D2 (W + 130) → PV K X Q (ce + 171) (sl + 1026) 2865 [some (.ref b), some (.ref (X.2.2 0)), some (.ref (X.2.2 6)), some (.ref (X.2.2 13)), some (.int (nI i)), none, none, none, none] [] D2 P2) : PV K X Q ce sl 1090 [some (.ref b), some (.ref (X.2.2 0)), some (.ref (X.2.2 6)), some (.ref (X.2.2 13)), some (.int (nI i)), none, none, none, none] [] D P := by
  obtain ⟨hKl, hKR, C, Z, hNC, hfl, hX, hbl, hbA, hL⟩ := hC
  obtain ⟨⟨s, hs5, hs3⟩, hf0, hd0, hse0, hsk0, n, hn60, hn9⟩ := law_pre h hW
  refine pv_aload_n (q := 1091) C dL_law_1090 rfl rfl rfl ?_
  refine pv_callVi (q := 1094) C hKl (c_X6_hasStopped l X D P D W h) tw_264 (show kd 0 = 6 from rfl) (by decide) rfl mm_X6_hasStopped ⟨rfl, rfl⟩ (by rw [hKR]; exact ⟨Nat.le_of_ble_eq_true rfl, Nat.le_of_ble_eq_true rfl⟩) (by rw [hKR, room_c.1, room_c.2]; constructor <;> omega) rfl rfl rfl (by decide) dL_law_1091 rfl (fun r5 D1 P1 hc => ?_)
  obtain ⟨hr, rfl, rfl⟩ := hc
  have hFX : FX D D := fun _ _ _ => rfl
  have hw : WQ 0 P.2 D D D W 0 D P := ⟨rfl, hFX, Or.inl ⟨rfl, rfl, RI_W h (by omega)⟩⟩
  refine pv_aload_n (q := 1095) C dL_law_1094 rfl rfl rfl ?_
  have e6 := hFX 6 (by decide) (by decide)
  have e7 := hFX 7 (by decide) (by decide)
  have e9 := hFX 9 (by decide) (by decide)
  have e12 := hFX 12 (by decide) (by decide)
  refine pv_callVi (q := 1098) C hKl (c_X7_hasStopped l X D P ) tw_1248 (show kd 6 = 7 from rfl) (by decide) rfl mm_X7_hasStopped ⟨rfl, rfl⟩ (by rw [hKR]; exact ⟨Nat.le_of_ble_eq_true rfl, Nat.le_of_ble_eq_true rfl⟩) (by rw [hKR, room_c.1, room_c.2]; constructor <;> omega) rfl rfl rfl (Nat.le_of_ble_eq_true rfl) dL_law_1095 rfl (fun r6 D2 P2 hp => ?_)
  obtain ⟨hp, rfl⟩ := hp
  skip
  try simp only [e6, e7, e9, e12] at hp
  have hm := zMQ_rd hp
  have hnx := law_next hw hm (agr_FX hFX) (off_rf _)
  have hr6 := hm.2.1 rfl
  refine pv_icmp_eq (q := 1101) (tgt := 2865) C dL_law_1098 (by decide) rfl (fun _ => ?_) (fun z => absurd (hr.trans hr6.symm) z)
  exact PV_widen (ce' := ce + 171) (sl' := sl + 1026) (by omega) (by omega) (PV_le (tl D2 P (hnx)) ⟨Or.inr rfl, Or.inr rfl, Or.inr rfl, Or.inr rfl, Or.inr rfl, Or.inl rfl, Or.inl rfl, Or.inl rfl, Or.inl rfl, trivial⟩)
set_option maxRecDepth 100000 in
set_option maxHeartbeats 4000000 in
theorem law_16 (l : Launch) (K : KT) (X : XT) (b L : Nat) (xs : Nat → Int32) (hC : LC l K X b L xs) (Q : State → Prop) (ce sl i W : Nat) (D : DT) (P : PT) (hi : i + 4 ≤ L) (h : RI D P D W) (hW : W + 200 < 2 ^ 29) (hce : ce + 171 ≤ 601024) (hsl : sl + 1026 ≤ 7293034) (tl : ∀ (D2 : DT) (P2 : PT), RI D2 P2 D2 (W + 130) → PV K X Q (ce + 171) (sl + 1026) 2865 [some (.ref b), some (.ref (X.2.2 0)), some (.ref (X.2.2 6)), some (.ref (X.2.2 13)), some (.int (nI i)), none, none, none, none] [] D2 P2) : PV K X Q ce sl 1103 [some (.ref b), some (.ref (X.2.2 0)), some (.ref (X.2.2 6)), some (.ref (X.2.2 13)), some (.int (nI i)), none, none, none, none] [] D P := by
  obtain ⟨hKl, hKR, C, Z, hNC, hfl, hX, hbl, hbA, hL⟩ := hC
  obtain ⟨⟨s, hs5, hs3⟩, hf0, hd0, hse0, hsk0, n, hn60, hn9⟩ := law_pre h hW
  refine pv_aload_n (q := 1104) C dL_law_1103 rfl rfl rfl ?_
  refine pv_aload_n (q := 1105) C dL_law_1104 rfl rfl rfl ?_
  refine pv_callL (q := 1108) C Z hNC hKl (c_L_stoppedPart l X D P hfl D W h) tw_836 mw_L_stoppedPart ⟨rfl, rfl⟩ (by rw [hKR]; exact ⟨Nat.le_of_ble_eq_true rfl, Nat.le_of_ble_eq_true rfl⟩) (by rw [hKR, room_c.1, room_c.2]; constructor <;> omega) rfl rfl rfl (by decide) dL_law_1105 rfl (fun r5 D1 P1 hw => ?_)
  have hFX := hw.2.1
  refine pv_istore (q := 1110) C dL_law_1108 rfl (Nat.le_of_ble_eq_true rfl) rfl ?_
  refine pv_aload_n (q := 1111) C dL_law_1110 rfl rfl rfl ?_
  have e6 := hFX 6 (by decide) (by decide)
  have e7 := hFX 7 (by decide) (by decide)
  have e9 := hFX 9 (by decide) (by decide)
  have e12 := hFX 12 (by decide) (by decide)
  refine pv_callVi (q := 1114) C hKl (c_X7_stoppedPart l X D1 P1 ) tw_1252 (show kd 6 = 7 from rfl) (by decide) rfl mm_X7_stoppedPart ⟨rfl, rfl⟩ (by rw [hKR]; exact ⟨Nat.le_of_ble_eq_true rfl, Nat.le_of_ble_eq_true rfl⟩) (by rw [hKR, room_c.1, room_c.2]; constructor <;> omega) rfl rfl rfl (Nat.le_of_ble_eq_true rfl) dL_law_1111 rfl (fun r6 D2 P2 hp => ?_)
  obtain ⟨hp, rfl⟩ := hp
  skip
  try simp only [e6, e7, e9, e12] at hp
  have hm := zMQ_rd hp
  have hnx := law_next hw hm (agr_FX hFX) (off_rf _)
  refine pv_istore (q := 1116) C dL_law_1114 rfl (Nat.le_of_ble_eq_true rfl) rfl ?_
  refine pv_aload_n (q := 1117) C dL_law_1116 rfl rfl rfl ?_
  refine pv_callVi (q := 1120) C hKl (c_X7_thrown l X D2 P1) tw_1041 (show kd 6 = 7 from rfl) (by decide) rfl mm_X7_thrown ⟨rfl, rfl⟩ (by rw [hKR]; exact ⟨Nat.le_of_ble_eq_true rfl, Nat.le_of_ble_eq_true rfl⟩) (by rw [hKR, room_c.1, room_c.2]; constructor <;> omega) rfl rfl rfl (by decide) dL_law_1117 rfl (fun r7 D3 P3 hp3 => ?_)
  obtain ⟨rfl, rfl, rfl⟩ := hp3
  refine pv_iload (q := 1122) C dL_law_1120 rfl rfl ?_
  refine pv_icmp_eq (q := 1125) (tgt := 1127) C dL_law_1122 (by decide) rfl (fun _ => ?_) (fun z => absurd (hm.1.trans hw.1.symm) z)
  refine pv_iload (q := 1129) C dL_law_1127 rfl rfl ?_
  refine pv_if_ne (q := 1132) (tgt := 1144) C dL_law_1129 (by decide) rfl (fun c0 => ?_) (fun c0 => ?_)
  ·
    refine pv_goto (tgt := 2865) C dL_law_1144 (by decide) ?_
    exact PV_widen (ce' := ce + 171) (sl' := sl + 1026) (by omega) (by omega) (PV_le (tl D2 P1 (hnx)) ⟨Or.inr rfl, Or.inr rfl, Or.inr rfl, Or.inr rfl, Or.inr rfl, Or.inl rfl, Or.inl rfl, Or.inl rfl, Or.inl rfl, trivial⟩)
  ·
    obtain ⟨hk0, hv⟩ := WQ_v hw c0
    have hr6 := hm.2.1 hk0
    refine pv_aload_n (q := 1133) C dL_law_1132 rfl rfl rfl ?_
    refine pv_iconst (q := 1134) (v := 0) C dL_law_1133 rfl (by decide) ?_
    refine pv_lald (q := 1135) C rfl dL_law_1134 rfl ?_
    refine pv_iload (q := 1137) C dL_law_1135 rfl rfl ?_
    refine pv_i2l (q := 1138) C dL_law_1137 rfl ?_
    refine pv_lcmp (q := 1139) C dL_law_1138 rfl ?_
    refine pv_if_eq (q := 1142) (tgt := 1144) C dL_law_1139 (by decide) rfl (fun _ => ?_) (fun z => absurd (lg_eq (hv.trans (congrArg Int32.toInt64 hr6.symm))) z)
    refine pv_goto (tgt := 2865) C dL_law_1144 (by decide) ?_
    exact PV_widen (ce' := ce + 171) (sl' := sl + 1026) (by omega) (by omega) (PV_le (tl D2 P1 (hnx)) ⟨Or.inr rfl, Or.inr rfl, Or.inr rfl, Or.inr rfl, Or.inr rfl, Or.inl rfl, Or.inl rfl, Or.inl rfl, Or.inl rfl, trivial⟩)
set_option maxRecDepth 100000 in
set_option maxHeartbeats 4000000 in
theorem law_17 (l : Launch) (K : KT) (X : XT) (b L : Nat) (xs : Nat → Int32) (hC : LC l K X b L xs) (Q : State → Prop) (ce sl i W : Nat) (D : DT) (P : PT) (hi : i + 4 ≤ L) (h : RI D P D W) (hW : W + 200 < 2 ^ 29) (hce : ce + 171 ≤ 601024) (hsl : sl + 1026 ≤ 7293034) (tl : ∀ (D2 : DT) (P2 : PT), RI D2 P2 D2 (W + 130) → PV K X Q (ce + 171) (sl + 1026) 2865 [some (.ref b), some (.ref (X.2.2 0)), some (.ref (X.2.2 6)), some (.ref (X.2.2 13)), some (.int (nI i)), none, none, none, none] [] D2 P2) : PV K X Q ce sl 1147 [some (.ref b), some (.ref (X.2.2 0)), some (.ref (X.2.2 6)), some (.ref (X.2.2 13)), some (.int (nI i)), none, none, none, none] [] D P := by
  obtain ⟨hKl, hKR, C, Z, hNC, hfl, hX, hbl, hbA, hL⟩ := hC
  obtain ⟨⟨s, hs5, hs3⟩, hf0, hd0, hse0, hsk0, n, hn60, hn9⟩ := law_pre h hW
  refine pv_aload_n (q := 1148) C dL_law_1147 rfl rfl rfl ?_
  refine pv_aload_n (q := 1149) C dL_law_1148 rfl rfl rfl ?_
  refine pv_callL (q := 1152) C Z hNC hKl (c_L_undo l X D P hfl D W h hW s hs5 hs3) tw_844 mw_L_undo ⟨rfl, rfl⟩ (by rw [hKR]; exact ⟨Nat.le_of_ble_eq_true rfl, Nat.le_of_ble_eq_true rfl⟩) (by rw [hKR, room_c.1, room_c.2]; constructor <;> omega) rfl rfl rfl (by decide) dL_law_1149 rfl (fun r5 D1 P1 hw => ?_)
  have hFX := hw.2.1
  refine pv_istore (q := 1154) C dL_law_1152 rfl (Nat.le_of_ble_eq_true rfl) rfl ?_
  refine pv_aload_n (q := 1155) C dL_law_1154 rfl rfl rfl ?_
  have e6 := hFX 6 (by decide) (by decide)
  have e7 := hFX 7 (by decide) (by decide)
  have e9 := hFX 9 (by decide) (by decide)
  have e12 := hFX 12 (by decide) (by decide)
  refine pv_callVi (q := 1158) C hKl (c_X7_undo l X D1 P1 s hs5 (by rw [e6]; exact hs3)) tw_1256 (show kd 6 = 7 from rfl) (by decide) rfl mm_X7_undo ⟨rfl, rfl⟩ (by rw [hKR]; exact ⟨Nat.le_of_ble_eq_true rfl, Nat.le_of_ble_eq_true rfl⟩) (by rw [hKR, room_c.1, room_c.2]; constructor <;> omega) rfl rfl rfl (Nat.le_of_ble_eq_true rfl) dL_law_1155 rfl (fun r6 D2 P2 hp => ?_)
  obtain ⟨hp, rfl⟩ := hp
  skip
  try simp only [e6, e7, e9, e12] at hp
  have hm := zMQ_mr hp rfl
  have hnx := law_next hw hm (agr_und (agr_clr (agr_FX hFX))) (off_und (off_clr _))
  refine pv_istore (q := 1160) C dL_law_1158 rfl (Nat.le_of_ble_eq_true rfl) rfl ?_
  refine pv_aload_n (q := 1161) C dL_law_1160 rfl rfl rfl ?_
  refine pv_callVi (q := 1164) C hKl (c_X7_thrown l X D2 P1) tw_1041 (show kd 6 = 7 from rfl) (by decide) rfl mm_X7_thrown ⟨rfl, rfl⟩ (by rw [hKR]; exact ⟨Nat.le_of_ble_eq_true rfl, Nat.le_of_ble_eq_true rfl⟩) (by rw [hKR, room_c.1, room_c.2]; constructor <;> omega) rfl rfl rfl (by decide) dL_law_1161 rfl (fun r7 D3 P3 hp3 => ?_)
  obtain ⟨rfl, rfl, rfl⟩ := hp3
  refine pv_iload (q := 1166) C dL_law_1164 rfl rfl ?_
  refine pv_icmp_eq (q := 1169) (tgt := 1171) C dL_law_1166 (by decide) rfl (fun _ => ?_) (fun z => absurd (hm.1.trans hw.1.symm) z)
  refine pv_iload (q := 1173) C dL_law_1171 rfl rfl ?_
  refine pv_if_ne (q := 1176) (tgt := 1188) C dL_law_1173 (by decide) rfl (fun c0 => ?_) (fun c0 => ?_)
  ·
    refine pv_goto (tgt := 2865) C dL_law_1188 (by decide) ?_
    exact PV_widen (ce' := ce + 171) (sl' := sl + 1026) (by omega) (by omega) (PV_le (tl D2 P1 (hnx)) ⟨Or.inr rfl, Or.inr rfl, Or.inr rfl, Or.inr rfl, Or.inr rfl, Or.inl rfl, Or.inl rfl, Or.inl rfl, Or.inl rfl, trivial⟩)
  ·
    obtain ⟨hk0, hv⟩ := WQ_v hw c0
    have hr6 := hm.2.1 hk0
    refine pv_aload_n (q := 1177) C dL_law_1176 rfl rfl rfl ?_
    refine pv_iconst (q := 1178) (v := 0) C dL_law_1177 rfl (by decide) ?_
    refine pv_lald (q := 1179) C rfl dL_law_1178 rfl ?_
    refine pv_iload (q := 1181) C dL_law_1179 rfl rfl ?_
    refine pv_i2l (q := 1182) C dL_law_1181 rfl ?_
    refine pv_lcmp (q := 1183) C dL_law_1182 rfl ?_
    refine pv_if_eq (q := 1186) (tgt := 1188) C dL_law_1183 (by decide) rfl (fun _ => ?_) (fun z => absurd (lg_eq (hv.trans (congrArg Int32.toInt64 hr6.symm))) z)
    refine pv_goto (tgt := 2865) C dL_law_1188 (by decide) ?_
    exact PV_widen (ce' := ce + 171) (sl' := sl + 1026) (by omega) (by omega) (PV_le (tl D2 P1 (hnx)) ⟨Or.inr rfl, Or.inr rfl, Or.inr rfl, Or.inr rfl, Or.inr rfl, Or.inl rfl, Or.inl rfl, Or.inl rfl, Or.inl rfl, trivial⟩)
set_option maxRecDepth 100000 in
set_option maxHeartbeats 4000000 in
theorem law_18 (l : Launch) (K : KT) (X : XT) (b L : Nat) (xs : Nat → Int32) (hC : LC l K X b L xs) (Q : State → Prop) (ce sl i W : Nat) (D : DT) (P : PT) (hi : i + 4 ≤ L) (h : RI D P D W) (hW : W + 200 < 2 ^ 29) (hce : ce + 171 ≤ 601024) (hsl : sl + 1026 ≤ 7293034) (tl : ∀ (D2 : DT) (P2 : PT), RI D2 P2 D2 (W + 130) → PV K X Q (ce + 171) (sl + 1026) 2865 [some (.ref b), some (.ref (X.2.2 0)), some (.ref (X.2.2 6)), some (.ref (X.2.2 13)), some (.int (nI i)), none, none, none, none] [] D2 P2) : PV K X Q ce sl 1191 [some (.ref b), some (.ref (X.2.2 0)), some (.ref (X.2.2 6)), some (.ref (X.2.2 13)), some (.int (nI i)), none, none, none, none] [] D P := by
  obtain ⟨hKl, hKR, C, Z, hNC, hfl, hX, hbl, hbA, hL⟩ := hC
  obtain ⟨⟨s, hs5, hs3⟩, hf0, hd0, hse0, hsk0, n, hn60, hn9⟩ := law_pre h hW
  refine pv_aload_n (q := 1192) C dL_law_1191 rfl rfl rfl ?_
  refine pv_callVi (q := 1195) C hKl (c_X6_keep l X D P D W h hW) tw_268 (show kd 0 = 6 from rfl) (by decide) rfl mm_X6_keep ⟨rfl, rfl⟩ (by rw [hKR]; exact ⟨Nat.le_of_ble_eq_true rfl, Nat.le_of_ble_eq_true rfl⟩) (by rw [hKR, room_c.1, room_c.2]; constructor <;> omega) rfl rfl rfl (by decide) dL_law_1192 rfl (fun r5 D1 P1 hc => ?_)
  obtain ⟨hr, hRI2, hFX⟩ := hc
  have hw : WQ 0 P1.2 D (m_keep (clr D)) D W 0 D1 P1 := ⟨rfl, hFX, Or.inl ⟨rfl, rfl, hRI2⟩⟩
  refine pv_aload_n (q := 1196) C dL_law_1195 rfl rfl rfl ?_
  have e6 := hFX 6 (by decide) (by decide)
  have e7 := hFX 7 (by decide) (by decide)
  have e9 := hFX 9 (by decide) (by decide)
  have e12 := hFX 12 (by decide) (by decide)
  refine pv_callVi (q := 1199) C hKl (c_X7_keep l X D1 P1 ) tw_1260 (show kd 6 = 7 from rfl) (by decide) rfl mm_X7_keep ⟨rfl, rfl⟩ (by rw [hKR]; exact ⟨Nat.le_of_ble_eq_true rfl, Nat.le_of_ble_eq_true rfl⟩) (by rw [hKR, room_c.1, room_c.2]; constructor <;> omega) rfl rfl rfl (Nat.le_of_ble_eq_true rfl) dL_law_1196 rfl (fun r6 D2 P2 hp => ?_)
  obtain ⟨hp, rfl⟩ := hp
  skip
  try simp only [e6, e7, e9, e12] at hp
  have hm := zMQ_mr hp rfl
  have hnx := law_next hw hm (agr_keep (agr_clr (agr_FX hFX))) (off_keep (off_clr _))
  have hr6 := hm.2.1 rfl
  refine pv_icmp_eq (q := 1202) (tgt := 2865) C dL_law_1199 (by decide) rfl (fun _ => ?_) (fun z => absurd (hr.trans hr6.symm) z)
  exact PV_widen (ce' := ce + 171) (sl' := sl + 1026) (by omega) (by omega) (PV_le (tl D2 P1 (hnx)) ⟨Or.inr rfl, Or.inr rfl, Or.inr rfl, Or.inr rfl, Or.inr rfl, Or.inl rfl, Or.inl rfl, Or.inl rfl, Or.inl rfl, trivial⟩)
set_option maxRecDepth 100000 in
set_option maxHeartbeats 4000000 in
theorem law_19 (l : Launch) (K : KT) (X : XT) (b L : Nat) (xs : Nat → Int32) (hC : LC l K X b L xs) (Q : State → Prop) (ce sl i W : Nat) (D : DT) (P : PT) (hi : i + 4 ≤ L) (h : RI D P D W) (hW : W + 200 < 2 ^ 29) (hce : ce + 171 ≤ 601024) (hsl : sl + 1026 ≤ 7293034) (tl : ∀ (D2 : DT) (P2 : PT), RI D2 P2 D2 (W + 130) → PV K X Q (ce + 171) (sl + 1026) 2865 [some (.ref b), some (.ref (X.2.2 0)), some (.ref (X.2.2 6)), some (.ref (X.2.2 13)), some (.int (nI i)), none, none, none, none] [] D2 P2) : PV K X Q ce sl 1204 [some (.ref b), some (.ref (X.2.2 0)), some (.ref (X.2.2 6)), some (.ref (X.2.2 13)), some (.int (nI i)), none, none, none, none] [] D P := by
  obtain ⟨hKl, hKR, C, Z, hNC, hfl, hX, hbl, hbA, hL⟩ := hC
  obtain ⟨⟨s, hs5, hs3⟩, hf0, hd0, hse0, hsk0, n, hn60, hn9⟩ := law_pre h hW
  refine pv_aload_n (q := 1205) C dL_law_1204 rfl rfl rfl ?_
  refine pv_aload_n (q := 1206) C dL_law_1205 rfl rfl rfl ?_
  refine pv_callL (q := 1209) C Z hNC hKl (c_L_restore l X D P hfl D W h hW) tw_852 mw_L_restore ⟨rfl, rfl⟩ (by rw [hKR]; exact ⟨Nat.le_of_ble_eq_true rfl, Nat.le_of_ble_eq_true rfl⟩) (by rw [hKR, room_c.1, room_c.2]; constructor <;> omega) rfl rfl rfl (by decide) dL_law_1206 rfl (fun r5 D1 P1 hw => ?_)
  have hFX := hw.2.1
  refine pv_istore (q := 1211) C dL_law_1209 rfl (Nat.le_of_ble_eq_true rfl) rfl ?_
  refine pv_aload_n (q := 1212) C dL_law_1211 rfl rfl rfl ?_
  have e6 := hFX 6 (by decide) (by decide)
  have e7 := hFX 7 (by decide) (by decide)
  have e9 := hFX 9 (by decide) (by decide)
  have e12 := hFX 12 (by decide) (by decide)
  refine pv_callVi (q := 1215) C hKl (c_X7_restore l X D1 P1 (⟨s, hs5, by rw [e6]; exact hs3⟩ : sok D1)) tw_1264 (show kd 6 = 7 from rfl) (by decide) rfl mm_X7_restore ⟨rfl, rfl⟩ (by rw [hKR]; exact ⟨Nat.le_of_ble_eq_true rfl, Nat.le_of_ble_eq_true rfl⟩) (by rw [hKR, room_c.1, room_c.2]; constructor <;> omega) rfl rfl rfl (Nat.le_of_ble_eq_true rfl) dL_law_1212 rfl (fun r6 D2 P2 hp => ?_)
  obtain ⟨hp, rfl⟩ := hp
  skip
  try simp only [e6, e7, e9, e12] at hp
  have hm := zMQ_mr hp rfl
  have hnx := law_next hw hm (agr_rest (agr_save (agr_clr (agr_FX hFX)))) (off_rest (off_save (off_clr _)))
  refine pv_istore (q := 1217) C dL_law_1215 rfl (Nat.le_of_ble_eq_true rfl) rfl ?_
  refine pv_aload_n (q := 1218) C dL_law_1217 rfl rfl rfl ?_
  refine pv_callVi (q := 1221) C hKl (c_X7_thrown l X D2 P1) tw_1041 (show kd 6 = 7 from rfl) (by decide) rfl mm_X7_thrown ⟨rfl, rfl⟩ (by rw [hKR]; exact ⟨Nat.le_of_ble_eq_true rfl, Nat.le_of_ble_eq_true rfl⟩) (by rw [hKR, room_c.1, room_c.2]; constructor <;> omega) rfl rfl rfl (by decide) dL_law_1218 rfl (fun r7 D3 P3 hp3 => ?_)
  obtain ⟨rfl, rfl, rfl⟩ := hp3
  refine pv_iload (q := 1223) C dL_law_1221 rfl rfl ?_
  refine pv_icmp_eq (q := 1226) (tgt := 1228) C dL_law_1223 (by decide) rfl (fun _ => ?_) (fun z => absurd (hm.1.trans hw.1.symm) z)
  refine pv_iload (q := 1230) C dL_law_1228 rfl rfl ?_
  refine pv_if_ne (q := 1233) (tgt := 1245) C dL_law_1230 (by decide) rfl (fun c0 => ?_) (fun c0 => ?_)
  ·
    refine pv_goto (tgt := 2865) C dL_law_1245 (by decide) ?_
    exact PV_widen (ce' := ce + 171) (sl' := sl + 1026) (by omega) (by omega) (PV_le (tl D2 P1 (hnx)) ⟨Or.inr rfl, Or.inr rfl, Or.inr rfl, Or.inr rfl, Or.inr rfl, Or.inl rfl, Or.inl rfl, Or.inl rfl, Or.inl rfl, trivial⟩)
  ·
    obtain ⟨hk0, hv⟩ := WQ_v hw c0
    have hr6 := hm.2.1 hk0
    refine pv_aload_n (q := 1234) C dL_law_1233 rfl rfl rfl ?_
    refine pv_iconst (q := 1235) (v := 0) C dL_law_1234 rfl (by decide) ?_
    refine pv_lald (q := 1236) C rfl dL_law_1235 rfl ?_
    refine pv_iload (q := 1238) C dL_law_1236 rfl rfl ?_
    refine pv_i2l (q := 1239) C dL_law_1238 rfl ?_
    refine pv_lcmp (q := 1240) C dL_law_1239 rfl ?_
    refine pv_if_eq (q := 1243) (tgt := 1245) C dL_law_1240 (by decide) rfl (fun _ => ?_) (fun z => absurd (lg_eq (hv.trans (congrArg Int32.toInt64 hr6.symm))) z)
    refine pv_goto (tgt := 2865) C dL_law_1245 (by decide) ?_
    exact PV_widen (ce' := ce + 171) (sl' := sl + 1026) (by omega) (by omega) (PV_le (tl D2 P1 (hnx)) ⟨Or.inr rfl, Or.inr rfl, Or.inr rfl, Or.inr rfl, Or.inr rfl, Or.inl rfl, Or.inl rfl, Or.inl rfl, Or.inl rfl, trivial⟩)
set_option maxRecDepth 100000 in
set_option maxHeartbeats 4000000 in
theorem law_20 (l : Launch) (K : KT) (X : XT) (b L : Nat) (xs : Nat → Int32) (hC : LC l K X b L xs) (Q : State → Prop) (ce sl i W : Nat) (D : DT) (P : PT) (hi : i + 4 ≤ L) (h : RI D P D W) (hW : W + 200 < 2 ^ 29) (hce : ce + 171 ≤ 601024) (hsl : sl + 1026 ≤ 7293034) (tl : ∀ (D2 : DT) (P2 : PT), RI D2 P2 D2 (W + 130) → PV K X Q (ce + 171) (sl + 1026) 2865 [some (.ref b), some (.ref (X.2.2 0)), some (.ref (X.2.2 6)), some (.ref (X.2.2 13)), some (.int (nI i)), none, none, none, none] [] D2 P2) : PV K X Q ce sl 1248 [some (.ref b), some (.ref (X.2.2 0)), some (.ref (X.2.2 6)), some (.ref (X.2.2 13)), some (.int (nI i)), none, none, none, none] [] D P := by
  obtain ⟨hKl, hKR, C, Z, hNC, hfl, hX, hbl, hbA, hL⟩ := hC
  obtain ⟨⟨s, hs5, hs3⟩, hf0, hd0, hse0, hsk0, n, hn60, hn9⟩ := law_pre h hW
  refine pv_aload_n (q := 1249) C dL_law_1248 rfl rfl rfl ?_
  refine pv_callVi (q := 1252) C hKl (c_X6_savedStates l X D P D W h) tw_301 (show kd 0 = 6 from rfl) (by decide) rfl mm_X6_savedStates ⟨rfl, rfl⟩ (by rw [hKR]; exact ⟨Nat.le_of_ble_eq_true rfl, Nat.le_of_ble_eq_true rfl⟩) (by rw [hKR, room_c.1, room_c.2]; constructor <;> omega) rfl rfl rfl (by decide) dL_law_1249 rfl (fun r5 D1 P1 hc => ?_)
  obtain ⟨hr, rfl, rfl⟩ := hc
  have hFX : FX D D := fun _ _ _ => rfl
  have hw : WQ 0 P.2 D D D W 0 D P := ⟨rfl, hFX, Or.inl ⟨rfl, rfl, RI_W h (by omega)⟩⟩
  refine pv_aload_n (q := 1253) C dL_law_1252 rfl rfl rfl ?_
  have e6 := hFX 6 (by decide) (by decide)
  have e7 := hFX 7 (by decide) (by decide)
  have e9 := hFX 9 (by decide) (by decide)
  have e12 := hFX 12 (by decide) (by decide)
  refine pv_callVi (q := 1256) C hKl (c_X7_savedStates l X D P ) tw_1268 (show kd 6 = 7 from rfl) (by decide) rfl mm_X7_savedStates ⟨rfl, rfl⟩ (by rw [hKR]; exact ⟨Nat.le_of_ble_eq_true rfl, Nat.le_of_ble_eq_true rfl⟩) (by rw [hKR, room_c.1, room_c.2]; constructor <;> omega) rfl rfl rfl (Nat.le_of_ble_eq_true rfl) dL_law_1253 rfl (fun r6 D2 P2 hp => ?_)
  obtain ⟨hp, rfl⟩ := hp
  skip
  try simp only [e6, e7, e9, e12] at hp
  have hm := zMQ_rd hp
  have hnx := law_next hw hm (agr_FX hFX) (off_rf _)
  have hr6 := hm.2.1 rfl
  refine pv_icmp_eq (q := 1259) (tgt := 2865) C dL_law_1256 (by decide) rfl (fun _ => ?_) (fun z => absurd (hr.trans hr6.symm) z)
  exact PV_widen (ce' := ce + 171) (sl' := sl + 1026) (by omega) (by omega) (PV_le (tl D2 P (hnx)) ⟨Or.inr rfl, Or.inr rfl, Or.inr rfl, Or.inr rfl, Or.inr rfl, Or.inl rfl, Or.inl rfl, Or.inl rfl, Or.inl rfl, trivial⟩)
set_option maxRecDepth 100000 in
set_option maxHeartbeats 4000000 in
theorem law_21 (l : Launch) (K : KT) (X : XT) (b L : Nat) (xs : Nat → Int32) (hC : LC l K X b L xs) (Q : State → Prop) (ce sl i W : Nat) (D : DT) (P : PT) (hi : i + 4 ≤ L) (h : RI D P D W) (hW : W + 200 < 2 ^ 29) (hce : ce + 171 ≤ 601024) (hsl : sl + 1026 ≤ 7293034) (tl : ∀ (D2 : DT) (P2 : PT), RI D2 P2 D2 (W + 130) → PV K X Q (ce + 171) (sl + 1026) 2865 [some (.ref b), some (.ref (X.2.2 0)), some (.ref (X.2.2 6)), some (.ref (X.2.2 13)), some (.int (nI i)), none, none, none, none] [] D2 P2) : PV K X Q ce sl 1261 [some (.ref b), some (.ref (X.2.2 0)), some (.ref (X.2.2 6)), some (.ref (X.2.2 13)), some (.int (nI i)), none, none, none, none] [] D P := by
  obtain ⟨hKl, hKR, C, Z, hNC, hfl, hX, hbl, hbA, hL⟩ := hC
  obtain ⟨⟨s, hs5, hs3⟩, hf0, hd0, hse0, hsk0, n, hn60, hn9⟩ := law_pre h hW
  refine pv_aload_n (q := 1262) C dL_law_1261 rfl rfl rfl ?_
  refine pv_callVi (q := 1265) C hKl (c_X6_rows l X D P D W h) tw_305 (show kd 0 = 6 from rfl) (by decide) rfl mm_X6_rows ⟨rfl, rfl⟩ (by rw [hKR]; exact ⟨Nat.le_of_ble_eq_true rfl, Nat.le_of_ble_eq_true rfl⟩) (by rw [hKR, room_c.1, room_c.2]; constructor <;> omega) rfl rfl rfl (by decide) dL_law_1262 rfl (fun r5 D1 P1 hc => ?_)
  obtain ⟨hr, rfl, rfl⟩ := hc
  have hFX : FX D D := fun _ _ _ => rfl
  have hw : WQ 0 P.2 D D D W 0 D P := ⟨rfl, hFX, Or.inl ⟨rfl, rfl, RI_W h (by omega)⟩⟩
  refine pv_aload_n (q := 1266) C dL_law_1265 rfl rfl rfl ?_
  have e6 := hFX 6 (by decide) (by decide)
  have e7 := hFX 7 (by decide) (by decide)
  have e9 := hFX 9 (by decide) (by decide)
  have e12 := hFX 12 (by decide) (by decide)
  refine pv_callVi (q := 1269) C hKl (c_X7_rows l X D P ) tw_1272 (show kd 6 = 7 from rfl) (by decide) rfl mm_X7_rows ⟨rfl, rfl⟩ (by rw [hKR]; exact ⟨Nat.le_of_ble_eq_true rfl, Nat.le_of_ble_eq_true rfl⟩) (by rw [hKR, room_c.1, room_c.2]; constructor <;> omega) rfl rfl rfl (Nat.le_of_ble_eq_true rfl) dL_law_1266 rfl (fun r6 D2 P2 hp => ?_)
  obtain ⟨hp, rfl⟩ := hp
  skip
  try simp only [e6, e7, e9, e12] at hp
  have hm := zMQ_rd hp
  have hnx := law_next hw hm (agr_FX hFX) (off_rf _)
  have hr6 := hm.2.1 rfl
  refine pv_icmp_eq (q := 1272) (tgt := 2865) C dL_law_1269 (by decide) rfl (fun _ => ?_) (fun z => absurd (hr.trans hr6.symm) z)
  exact PV_widen (ce' := ce + 171) (sl' := sl + 1026) (by omega) (by omega) (PV_le (tl D2 P (hnx)) ⟨Or.inr rfl, Or.inr rfl, Or.inr rfl, Or.inr rfl, Or.inr rfl, Or.inl rfl, Or.inl rfl, Or.inl rfl, Or.inl rfl, trivial⟩)
set_option maxRecDepth 100000 in
set_option maxHeartbeats 4000000 in
theorem law_22 (l : Launch) (K : KT) (X : XT) (b L : Nat) (xs : Nat → Int32) (hC : LC l K X b L xs) (Q : State → Prop) (ce sl i W : Nat) (D : DT) (P : PT) (hi : i + 4 ≤ L) (h : RI D P D W) (hW : W + 200 < 2 ^ 29) (hce : ce + 171 ≤ 601024) (hsl : sl + 1026 ≤ 7293034) (tl : ∀ (D2 : DT) (P2 : PT), RI D2 P2 D2 (W + 130) → PV K X Q (ce + 171) (sl + 1026) 2865 [some (.ref b), some (.ref (X.2.2 0)), some (.ref (X.2.2 6)), some (.ref (X.2.2 13)), some (.int (nI i)), none, none, none, none] [] D2 P2) : PV K X Q ce sl 1274 [some (.ref b), some (.ref (X.2.2 0)), some (.ref (X.2.2 6)), some (.ref (X.2.2 13)), some (.int (nI i)), none, none, none, none] [] D P := by
  obtain ⟨hKl, hKR, C, Z, hNC, hfl, hX, hbl, hbA, hL⟩ := hC
  obtain ⟨⟨s, hs5, hs3⟩, hf0, hd0, hse0, hsk0, n, hn60, hn9⟩ := law_pre h hW
  refine pv_aload_n (q := 1275) C dL_law_1274 rfl rfl rfl ?_
  refine pv_aload_n (q := 1276) C dL_law_1275 rfl rfl rfl ?_
  refine pv_iload (q := 1278) C dL_law_1276 rfl rfl ?_
  refine pv_iconst (q := 1279) (v := 1) C dL_law_1278 rfl (by decide) ?_
  refine pv_iaddN (q := 1280) (a := i) (b := 1) C rfl rfl dL_law_1279 rfl ?_
  refine pv_sld (q := 1281) (j := i + 1) C hX hbl hbA rfl (by omega) (by omega) dL_law_1280 rfl ?_
  refine pv_aload_n (q := 1282) C dL_law_1281 rfl rfl rfl ?_
  refine pv_callL (q := 1285) C Z hNC hKl (c_L_isFree l X D P hfl D W h (xs (i + 1))) tw_860 mw_L_isFree ⟨rfl, rfl⟩ (by rw [hKR]; exact ⟨Nat.le_of_ble_eq_true rfl, Nat.le_of_ble_eq_true rfl⟩) (by rw [hKR, room_c.1, room_c.2]; constructor <;> omega) rfl rfl rfl (by decide) dL_law_1282 rfl (fun r5 D1 P1 hw => ?_)
  have hFX := hw.2.1
  refine pv_istore (q := 1287) C dL_law_1285 rfl (Nat.le_of_ble_eq_true rfl) rfl ?_
  refine pv_aload_n (q := 1288) C dL_law_1287 rfl rfl rfl ?_
  refine pv_aload_n (q := 1289) C dL_law_1288 rfl rfl rfl ?_
  refine pv_iload (q := 1291) C dL_law_1289 rfl rfl ?_
  refine pv_iconst (q := 1292) (v := 1) C dL_law_1291 rfl (by decide) ?_
  refine pv_iaddN (q := 1293) (a := i) (b := 1) C rfl rfl dL_law_1292 rfl ?_
  refine pv_sld (q := 1294) (j := i + 1) C hX hbl hbA rfl (by omega) (by omega) dL_law_1293 rfl ?_
  have e6 := hFX 6 (by decide) (by decide)
  have e7 := hFX 7 (by decide) (by decide)
  have e9 := hFX 9 (by decide) (by decide)
  have e12 := hFX 12 (by decide) (by decide)
  refine pv_callVi (q := 1297) C hKl (c_X7_isFree l X D1 P1 (xs (i + 1))) tw_1276 (show kd 6 = 7 from rfl) (by decide) rfl mm_X7_isFree ⟨rfl, rfl⟩ (by rw [hKR]; exact ⟨Nat.le_of_ble_eq_true rfl, Nat.le_of_ble_eq_true rfl⟩) (by rw [hKR, room_c.1, room_c.2]; constructor <;> omega) rfl rfl rfl (Nat.le_of_ble_eq_true rfl) dL_law_1294 rfl (fun r6 D2 P2 hp => ?_)
  obtain ⟨hp, rfl⟩ := hp
  skip
  try simp only [e6, e7, e9, e12] at hp
  have hm := zMQ_rd hp
  have hnx := law_next hw hm (agr_FX hFX) (off_rf _)
  refine pv_istore (q := 1299) C dL_law_1297 rfl (Nat.le_of_ble_eq_true rfl) rfl ?_
  refine pv_aload_n (q := 1300) C dL_law_1299 rfl rfl rfl ?_
  refine pv_callVi (q := 1303) C hKl (c_X7_thrown l X D2 P1) tw_1041 (show kd 6 = 7 from rfl) (by decide) rfl mm_X7_thrown ⟨rfl, rfl⟩ (by rw [hKR]; exact ⟨Nat.le_of_ble_eq_true rfl, Nat.le_of_ble_eq_true rfl⟩) (by rw [hKR, room_c.1, room_c.2]; constructor <;> omega) rfl rfl rfl (by decide) dL_law_1300 rfl (fun r7 D3 P3 hp3 => ?_)
  obtain ⟨rfl, rfl, rfl⟩ := hp3
  refine pv_iload (q := 1305) C dL_law_1303 rfl rfl ?_
  refine pv_icmp_eq (q := 1308) (tgt := 1310) C dL_law_1305 (by decide) rfl (fun _ => ?_) (fun z => absurd (hm.1.trans hw.1.symm) z)
  refine pv_iload (q := 1312) C dL_law_1310 rfl rfl ?_
  refine pv_if_ne (q := 1315) (tgt := 1334) C dL_law_1312 (by decide) rfl (fun c0 => ?_) (fun c0 => ?_)
  ·
    refine pv_goto (tgt := 2865) C dL_law_1334 (by decide) ?_
    exact PV_widen (ce' := ce + 171) (sl' := sl + 1026) (by omega) (by omega) (PV_le (tl D2 P1 (hnx)) ⟨Or.inr rfl, Or.inr rfl, Or.inr rfl, Or.inr rfl, Or.inr rfl, Or.inl rfl, Or.inl rfl, Or.inl rfl, Or.inl rfl, trivial⟩)
  ·
    obtain ⟨hk0, hv⟩ := WQ_v hw c0
    have hr6 := hm.2.1 hk0
    refine pv_aload_n (q := 1316) C dL_law_1315 rfl rfl rfl ?_
    refine pv_iconst (q := 1317) (v := 0) C dL_law_1316 rfl (by decide) ?_
    refine pv_lald (q := 1318) C rfl dL_law_1317 rfl ?_
    refine pv_iload (q := 1320) C dL_law_1318 rfl rfl ?_
    refine pv_if_eq (q := 1323) (tgt := 1327) C dL_law_1320 (by decide) rfl (fun c1 => ?_) (fun c1 => ?_)
    ·
      refine pv_lconst (q := 1328) (v := 0) C dL_law_1327 rfl (by decide) ?_
      refine pv_lcmp (q := 1329) C dL_law_1328 rfl ?_
      refine pv_if_eq (q := 1332) (tgt := 1334) C dL_law_1329 (by decide) rfl (fun _ => ?_) (fun z => absurd (lg_eq (hv.trans (by rw [← hr6, c1]; rfl))) z)
      refine pv_goto (tgt := 2865) C dL_law_1334 (by decide) ?_
      exact PV_widen (ce' := ce + 171) (sl' := sl + 1026) (by omega) (by omega) (PV_le (tl D2 P1 (hnx)) ⟨Or.inr rfl, Or.inr rfl, Or.inr rfl, Or.inr rfl, Or.inr rfl, Or.inl rfl, Or.inl rfl, Or.inl rfl, Or.inl rfl, trivial⟩)
    ·
      refine pv_lconst (q := 1324) (v := 1) C dL_law_1323 rfl (by decide) ?_
      refine pv_goto (tgt := 1328) C dL_law_1324 (by decide) ?_
      refine pv_lcmp (q := 1329) C dL_law_1328 rfl ?_
      refine pv_if_eq (q := 1332) (tgt := 1334) C dL_law_1329 (by decide) rfl (fun _ => ?_) (fun z => absurd (lg_eq (hv.trans (by rw [← hr6, ite01 hr6 c1]; rfl))) z)
      refine pv_goto (tgt := 2865) C dL_law_1334 (by decide) ?_
      exact PV_widen (ce' := ce + 171) (sl' := sl + 1026) (by omega) (by omega) (PV_le (tl D2 P1 (hnx)) ⟨Or.inr rfl, Or.inr rfl, Or.inr rfl, Or.inr rfl, Or.inr rfl, Or.inl rfl, Or.inl rfl, Or.inl rfl, Or.inl rfl, trivial⟩)
set_option maxRecDepth 100000 in
set_option maxHeartbeats 4000000 in
theorem law_23 (l : Launch) (K : KT) (X : XT) (b L : Nat) (xs : Nat → Int32) (hC : LC l K X b L xs) (Q : State → Prop) (ce sl i W : Nat) (D : DT) (P : PT) (hi : i + 4 ≤ L) (h : RI D P D W) (hW : W + 200 < 2 ^ 29) (hce : ce + 171 ≤ 601024) (hsl : sl + 1026 ≤ 7293034) (tl : ∀ (D2 : DT) (P2 : PT), RI D2 P2 D2 (W + 130) → PV K X Q (ce + 171) (sl + 1026) 2865 [some (.ref b), some (.ref (X.2.2 0)), some (.ref (X.2.2 6)), some (.ref (X.2.2 13)), some (.int (nI i)), none, none, none, none] [] D2 P2) : PV K X Q ce sl 1337 [some (.ref b), some (.ref (X.2.2 0)), some (.ref (X.2.2 6)), some (.ref (X.2.2 13)), some (.int (nI i)), none, none, none, none] [] D P := by
  obtain ⟨hKl, hKR, C, Z, hNC, hfl, hX, hbl, hbA, hL⟩ := hC
  obtain ⟨⟨s, hs5, hs3⟩, hf0, hd0, hse0, hsk0, n, hn60, hn9⟩ := law_pre h hW
  refine pv_aload_n (q := 1338) C dL_law_1337 rfl rfl rfl ?_
  refine pv_aload_n (q := 1339) C dL_law_1338 rfl rfl rfl ?_
  refine pv_iload (q := 1341) C dL_law_1339 rfl rfl ?_
  refine pv_iconst (q := 1342) (v := 1) C dL_law_1341 rfl (by decide) ?_
  refine pv_iaddN (q := 1343) (a := i) (b := 1) C rfl rfl dL_law_1342 rfl ?_
  refine pv_sld (q := 1344) (j := i + 1) C hX hbl hbA rfl (by omega) (by omega) dL_law_1343 rfl ?_
  refine pv_aload_n (q := 1345) C dL_law_1344 rfl rfl rfl ?_
  refine pv_callL (q := 1348) C Z hNC hKl (c_L_groupAt l X D P hfl D W h (xs (i + 1))) tw_864 mw_L_groupAt ⟨rfl, rfl⟩ (by rw [hKR]; exact ⟨Nat.le_of_ble_eq_true rfl, Nat.le_of_ble_eq_true rfl⟩) (by rw [hKR, room_c.1, room_c.2]; constructor <;> omega) rfl rfl rfl (by decide) dL_law_1345 rfl (fun r5 D1 P1 hw => ?_)
  have hFX := hw.2.1
  refine pv_istore (q := 1350) C dL_law_1348 rfl (Nat.le_of_ble_eq_true rfl) rfl ?_
  refine pv_aload_n (q := 1351) C dL_law_1350 rfl rfl rfl ?_
  refine pv_aload_n (q := 1352) C dL_law_1351 rfl rfl rfl ?_
  refine pv_iload (q := 1354) C dL_law_1352 rfl rfl ?_
  refine pv_iconst (q := 1355) (v := 1) C dL_law_1354 rfl (by decide) ?_
  refine pv_iaddN (q := 1356) (a := i) (b := 1) C rfl rfl dL_law_1355 rfl ?_
  refine pv_sld (q := 1357) (j := i + 1) C hX hbl hbA rfl (by omega) (by omega) dL_law_1356 rfl ?_
  have e6 := hFX 6 (by decide) (by decide)
  have e7 := hFX 7 (by decide) (by decide)
  have e9 := hFX 9 (by decide) (by decide)
  have e12 := hFX 12 (by decide) (by decide)
  refine pv_callVi (q := 1360) C hKl (c_X7_groupAt l X D1 P1 (xs (i + 1))) tw_1280 (show kd 6 = 7 from rfl) (by decide) rfl mm_X7_groupAt ⟨rfl, rfl⟩ (by rw [hKR]; exact ⟨Nat.le_of_ble_eq_true rfl, Nat.le_of_ble_eq_true rfl⟩) (by rw [hKR, room_c.1, room_c.2]; constructor <;> omega) rfl rfl rfl (Nat.le_of_ble_eq_true rfl) dL_law_1357 rfl (fun r6 D2 P2 hp => ?_)
  obtain ⟨hp, rfl⟩ := hp
  skip
  try simp only [e6, e7, e9, e12] at hp
  have hm := zMQ_rd hp
  have hnx := law_next hw hm (agr_FX hFX) (off_rf _)
  refine pv_istore (q := 1362) C dL_law_1360 rfl (Nat.le_of_ble_eq_true rfl) rfl ?_
  refine pv_aload_n (q := 1363) C dL_law_1362 rfl rfl rfl ?_
  refine pv_callVi (q := 1366) C hKl (c_X7_thrown l X D2 P1) tw_1041 (show kd 6 = 7 from rfl) (by decide) rfl mm_X7_thrown ⟨rfl, rfl⟩ (by rw [hKR]; exact ⟨Nat.le_of_ble_eq_true rfl, Nat.le_of_ble_eq_true rfl⟩) (by rw [hKR, room_c.1, room_c.2]; constructor <;> omega) rfl rfl rfl (by decide) dL_law_1363 rfl (fun r7 D3 P3 hp3 => ?_)
  obtain ⟨rfl, rfl, rfl⟩ := hp3
  refine pv_iload (q := 1368) C dL_law_1366 rfl rfl ?_
  refine pv_icmp_eq (q := 1371) (tgt := 1373) C dL_law_1368 (by decide) rfl (fun _ => ?_) (fun z => absurd (hm.1.trans hw.1.symm) z)
  refine pv_iload (q := 1375) C dL_law_1373 rfl rfl ?_
  refine pv_if_ne (q := 1378) (tgt := 1390) C dL_law_1375 (by decide) rfl (fun c0 => ?_) (fun c0 => ?_)
  ·
    refine pv_goto (tgt := 2865) C dL_law_1390 (by decide) ?_
    exact PV_widen (ce' := ce + 171) (sl' := sl + 1026) (by omega) (by omega) (PV_le (tl D2 P1 (hnx)) ⟨Or.inr rfl, Or.inr rfl, Or.inr rfl, Or.inr rfl, Or.inr rfl, Or.inl rfl, Or.inl rfl, Or.inl rfl, Or.inl rfl, trivial⟩)
  ·
    obtain ⟨hk0, hv⟩ := WQ_v hw c0
    have hr6 := hm.2.1 hk0
    refine pv_aload_n (q := 1379) C dL_law_1378 rfl rfl rfl ?_
    refine pv_iconst (q := 1380) (v := 0) C dL_law_1379 rfl (by decide) ?_
    refine pv_lald (q := 1381) C rfl dL_law_1380 rfl ?_
    refine pv_iload (q := 1383) C dL_law_1381 rfl rfl ?_
    refine pv_i2l (q := 1384) C dL_law_1383 rfl ?_
    refine pv_lcmp (q := 1385) C dL_law_1384 rfl ?_
    refine pv_if_eq (q := 1388) (tgt := 1390) C dL_law_1385 (by decide) rfl (fun _ => ?_) (fun z => absurd (lg_eq (hv.trans (congrArg Int32.toInt64 hr6.symm))) z)
    refine pv_goto (tgt := 2865) C dL_law_1390 (by decide) ?_
    exact PV_widen (ce' := ce + 171) (sl' := sl + 1026) (by omega) (by omega) (PV_le (tl D2 P1 (hnx)) ⟨Or.inr rfl, Or.inr rfl, Or.inr rfl, Or.inr rfl, Or.inr rfl, Or.inl rfl, Or.inl rfl, Or.inl rfl, Or.inl rfl, trivial⟩)
set_option maxRecDepth 100000 in
set_option maxHeartbeats 4000000 in
theorem law_24 (l : Launch) (K : KT) (X : XT) (b L : Nat) (xs : Nat → Int32) (hC : LC l K X b L xs) (Q : State → Prop) (ce sl i W : Nat) (D : DT) (P : PT) (hi : i + 4 ≤ L) (h : RI D P D W) (hW : W + 200 < 2 ^ 29) (hce : ce + 171 ≤ 601024) (hsl : sl + 1026 ≤ 7293034) (tl : ∀ (D2 : DT) (P2 : PT), RI D2 P2 D2 (W + 130) → PV K X Q (ce + 171) (sl + 1026) 2865 [some (.ref b), some (.ref (X.2.2 0)), some (.ref (X.2.2 6)), some (.ref (X.2.2 13)), some (.int (nI i)), none, none, none, none] [] D2 P2) : PV K X Q ce sl 1393 [some (.ref b), some (.ref (X.2.2 0)), some (.ref (X.2.2 6)), some (.ref (X.2.2 13)), some (.int (nI i)), none, none, none, none] [] D P := by
  obtain ⟨hKl, hKR, C, Z, hNC, hfl, hX, hbl, hbA, hL⟩ := hC
  obtain ⟨⟨s, hs5, hs3⟩, hf0, hd0, hse0, hsk0, n, hn60, hn9⟩ := law_pre h hW
  refine pv_aload_n (q := 1394) C dL_law_1393 rfl rfl rfl ?_
  refine pv_aload_n (q := 1395) C dL_law_1394 rfl rfl rfl ?_
  refine pv_iload (q := 1397) C dL_law_1395 rfl rfl ?_
  refine pv_iconst (q := 1398) (v := 1) C dL_law_1397 rfl (by decide) ?_
  refine pv_iaddN (q := 1399) (a := i) (b := 1) C rfl rfl dL_law_1398 rfl ?_
  refine pv_sld (q := 1400) (j := i + 1) C hX hbl hbA rfl (by omega) (by omega) dL_law_1399 rfl ?_
  refine pv_aload_n (q := 1401) C dL_law_1400 rfl rfl rfl ?_
  refine pv_callL (q := 1404) C Z hNC hKl (c_L_amountAt l X D P hfl D W h (xs (i + 1))) tw_868 mw_L_amountAt ⟨rfl, rfl⟩ (by rw [hKR]; exact ⟨Nat.le_of_ble_eq_true rfl, Nat.le_of_ble_eq_true rfl⟩) (by rw [hKR, room_c.1, room_c.2]; constructor <;> omega) rfl rfl rfl (by decide) dL_law_1401 rfl (fun r5 D1 P1 hw => ?_)
  have hFX := hw.2.1
  refine pv_istore (q := 1406) C dL_law_1404 rfl (Nat.le_of_ble_eq_true rfl) rfl ?_
  refine pv_aload_n (q := 1407) C dL_law_1406 rfl rfl rfl ?_
  refine pv_aload_n (q := 1408) C dL_law_1407 rfl rfl rfl ?_
  refine pv_iload (q := 1410) C dL_law_1408 rfl rfl ?_
  refine pv_iconst (q := 1411) (v := 1) C dL_law_1410 rfl (by decide) ?_
  refine pv_iaddN (q := 1412) (a := i) (b := 1) C rfl rfl dL_law_1411 rfl ?_
  refine pv_sld (q := 1413) (j := i + 1) C hX hbl hbA rfl (by omega) (by omega) dL_law_1412 rfl ?_
  have e6 := hFX 6 (by decide) (by decide)
  have e7 := hFX 7 (by decide) (by decide)
  have e9 := hFX 9 (by decide) (by decide)
  have e12 := hFX 12 (by decide) (by decide)
  refine pv_callVi (q := 1416) C hKl (c_X7_amountAt l X D1 P1 (xs (i + 1))) tw_1284 (show kd 6 = 7 from rfl) (by decide) rfl mm_X7_amountAt ⟨rfl, rfl⟩ (by rw [hKR]; exact ⟨Nat.le_of_ble_eq_true rfl, Nat.le_of_ble_eq_true rfl⟩) (by rw [hKR, room_c.1, room_c.2]; constructor <;> omega) rfl rfl rfl (Nat.le_of_ble_eq_true rfl) dL_law_1413 rfl (fun r6 D2 P2 hp => ?_)
  obtain ⟨hp, rfl⟩ := hp
  skip
  try simp only [e6, e7, e9, e12] at hp
  have hm := zMQ_rd hp
  have hnx := law_next hw hm (agr_FX hFX) (off_rf _)
  refine pv_istore (q := 1418) C dL_law_1416 rfl (Nat.le_of_ble_eq_true rfl) rfl ?_
  refine pv_aload_n (q := 1419) C dL_law_1418 rfl rfl rfl ?_
  refine pv_callVi (q := 1422) C hKl (c_X7_thrown l X D2 P1) tw_1041 (show kd 6 = 7 from rfl) (by decide) rfl mm_X7_thrown ⟨rfl, rfl⟩ (by rw [hKR]; exact ⟨Nat.le_of_ble_eq_true rfl, Nat.le_of_ble_eq_true rfl⟩) (by rw [hKR, room_c.1, room_c.2]; constructor <;> omega) rfl rfl rfl (by decide) dL_law_1419 rfl (fun r7 D3 P3 hp3 => ?_)
  obtain ⟨rfl, rfl, rfl⟩ := hp3
  refine pv_iload (q := 1424) C dL_law_1422 rfl rfl ?_
  refine pv_icmp_eq (q := 1427) (tgt := 1429) C dL_law_1424 (by decide) rfl (fun _ => ?_) (fun z => absurd (hm.1.trans hw.1.symm) z)
  refine pv_iload (q := 1431) C dL_law_1429 rfl rfl ?_
  refine pv_if_ne (q := 1434) (tgt := 1446) C dL_law_1431 (by decide) rfl (fun c0 => ?_) (fun c0 => ?_)
  ·
    refine pv_goto (tgt := 2865) C dL_law_1446 (by decide) ?_
    exact PV_widen (ce' := ce + 171) (sl' := sl + 1026) (by omega) (by omega) (PV_le (tl D2 P1 (hnx)) ⟨Or.inr rfl, Or.inr rfl, Or.inr rfl, Or.inr rfl, Or.inr rfl, Or.inl rfl, Or.inl rfl, Or.inl rfl, Or.inl rfl, trivial⟩)
  ·
    obtain ⟨hk0, hv⟩ := WQ_v hw c0
    have hr6 := hm.2.1 hk0
    refine pv_aload_n (q := 1435) C dL_law_1434 rfl rfl rfl ?_
    refine pv_iconst (q := 1436) (v := 0) C dL_law_1435 rfl (by decide) ?_
    refine pv_lald (q := 1437) C rfl dL_law_1436 rfl ?_
    refine pv_iload (q := 1439) C dL_law_1437 rfl rfl ?_
    refine pv_i2l (q := 1440) C dL_law_1439 rfl ?_
    refine pv_lcmp (q := 1441) C dL_law_1440 rfl ?_
    refine pv_if_eq (q := 1444) (tgt := 1446) C dL_law_1441 (by decide) rfl (fun _ => ?_) (fun z => absurd (lg_eq (hv.trans (congrArg Int32.toInt64 hr6.symm))) z)
    refine pv_goto (tgt := 2865) C dL_law_1446 (by decide) ?_
    exact PV_widen (ce' := ce + 171) (sl' := sl + 1026) (by omega) (by omega) (PV_le (tl D2 P1 (hnx)) ⟨Or.inr rfl, Or.inr rfl, Or.inr rfl, Or.inr rfl, Or.inr rfl, Or.inl rfl, Or.inl rfl, Or.inl rfl, Or.inl rfl, trivial⟩)
set_option maxRecDepth 100000 in
set_option maxHeartbeats 4000000 in
theorem law_25 (l : Launch) (K : KT) (X : XT) (b L : Nat) (xs : Nat → Int32) (hC : LC l K X b L xs) (Q : State → Prop) (ce sl i W : Nat) (D : DT) (P : PT) (hi : i + 4 ≤ L) (h : RI D P D W) (hW : W + 200 < 2 ^ 29) (hce : ce + 171 ≤ 601024) (hsl : sl + 1026 ≤ 7293034) (tl : ∀ (D2 : DT) (P2 : PT), RI D2 P2 D2 (W + 130) → PV K X Q (ce + 171) (sl + 1026) 2865 [some (.ref b), some (.ref (X.2.2 0)), some (.ref (X.2.2 6)), some (.ref (X.2.2 13)), some (.int (nI i)), none, none, none, none] [] D2 P2) : PV K X Q ce sl 1449 [some (.ref b), some (.ref (X.2.2 0)), some (.ref (X.2.2 6)), some (.ref (X.2.2 13)), some (.int (nI i)), none, none, none, none] [] D P := by
  obtain ⟨hKl, hKR, C, Z, hNC, hfl, hX, hbl, hbA, hL⟩ := hC
  obtain ⟨⟨s, hs5, hs3⟩, hf0, hd0, hse0, hsk0, n, hn60, hn9⟩ := law_pre h hW
  refine pv_aload_n (q := 1450) C dL_law_1449 rfl rfl rfl ?_
  refine pv_callVi (q := 1453) C hKl (c_X6_deltas l X D P D W h) tw_309 (show kd 0 = 6 from rfl) (by decide) rfl mm_X6_deltas ⟨rfl, rfl⟩ (by rw [hKR]; exact ⟨Nat.le_of_ble_eq_true rfl, Nat.le_of_ble_eq_true rfl⟩) (by rw [hKR, room_c.1, room_c.2]; constructor <;> omega) rfl rfl rfl (by decide) dL_law_1450 rfl (fun r5 D1 P1 hc => ?_)
  obtain ⟨hr, rfl, rfl⟩ := hc
  have hFX : FX D D := fun _ _ _ => rfl
  have hw : WQ 0 P.2 D D D W 0 D P := ⟨rfl, hFX, Or.inl ⟨rfl, rfl, RI_W h (by omega)⟩⟩
  refine pv_aload_n (q := 1454) C dL_law_1453 rfl rfl rfl ?_
  have e6 := hFX 6 (by decide) (by decide)
  have e7 := hFX 7 (by decide) (by decide)
  have e9 := hFX 9 (by decide) (by decide)
  have e12 := hFX 12 (by decide) (by decide)
  refine pv_callVi (q := 1457) C hKl (c_X7_deltas l X D P ) tw_1288 (show kd 6 = 7 from rfl) (by decide) rfl mm_X7_deltas ⟨rfl, rfl⟩ (by rw [hKR]; exact ⟨Nat.le_of_ble_eq_true rfl, Nat.le_of_ble_eq_true rfl⟩) (by rw [hKR, room_c.1, room_c.2]; constructor <;> omega) rfl rfl rfl (Nat.le_of_ble_eq_true rfl) dL_law_1454 rfl (fun r6 D2 P2 hp => ?_)
  obtain ⟨hp, rfl⟩ := hp
  skip
  try simp only [e6, e7, e9, e12] at hp
  have hm := zMQ_rd hp
  have hnx := law_next hw hm (agr_FX hFX) (off_rf _)
  have hr6 := hm.2.1 rfl
  refine pv_icmp_eq (q := 1460) (tgt := 2865) C dL_law_1457 (by decide) rfl (fun _ => ?_) (fun z => absurd (hr.trans hr6.symm) z)
  exact PV_widen (ce' := ce + 171) (sl' := sl + 1026) (by omega) (by omega) (PV_le (tl D2 P (hnx)) ⟨Or.inr rfl, Or.inr rfl, Or.inr rfl, Or.inr rfl, Or.inr rfl, Or.inl rfl, Or.inl rfl, Or.inl rfl, Or.inl rfl, trivial⟩)
set_option maxRecDepth 100000 in
set_option maxHeartbeats 4000000 in
theorem law_26 (l : Launch) (K : KT) (X : XT) (b L : Nat) (xs : Nat → Int32) (hC : LC l K X b L xs) (Q : State → Prop) (ce sl i W : Nat) (D : DT) (P : PT) (hi : i + 4 ≤ L) (h : RI D P D W) (hW : W + 200 < 2 ^ 29) (hce : ce + 171 ≤ 601024) (hsl : sl + 1026 ≤ 7293034) (tl : ∀ (D2 : DT) (P2 : PT), RI D2 P2 D2 (W + 130) → PV K X Q (ce + 171) (sl + 1026) 2865 [some (.ref b), some (.ref (X.2.2 0)), some (.ref (X.2.2 6)), some (.ref (X.2.2 13)), some (.int (nI i)), none, none, none, none] [] D2 P2) : PV K X Q ce sl 1462 [some (.ref b), some (.ref (X.2.2 0)), some (.ref (X.2.2 6)), some (.ref (X.2.2 13)), some (.int (nI i)), none, none, none, none] [] D P := by
  obtain ⟨hKl, hKR, C, Z, hNC, hfl, hX, hbl, hbA, hL⟩ := hC
  obtain ⟨⟨s, hs5, hs3⟩, hf0, hd0, hse0, hsk0, n, hn60, hn9⟩ := law_pre h hW
  refine pv_aload_n (q := 1463) C dL_law_1462 rfl rfl rfl ?_
  refine pv_callVi (q := 1466) C hKl (c_X6_tick l X D P D W h) tw_313 (show kd 0 = 6 from rfl) (by decide) rfl mm_X6_tick ⟨rfl, rfl⟩ (by rw [hKR]; exact ⟨Nat.le_of_ble_eq_true rfl, Nat.le_of_ble_eq_true rfl⟩) (by rw [hKR, room_c.1, room_c.2]; constructor <;> omega) rfl rfl rfl (by decide) dL_law_1463 rfl (fun r5 D1 P1 hc => ?_)
  obtain ⟨hr, rfl, rfl⟩ := hc
  have hFX : FX D D := fun _ _ _ => rfl
  have hw : WQ 0 P.2 D D D W 0 D P := ⟨rfl, hFX, Or.inl ⟨rfl, rfl, RI_W h (by omega)⟩⟩
  refine pv_aload_n (q := 1467) C dL_law_1466 rfl rfl rfl ?_
  have e6 := hFX 6 (by decide) (by decide)
  have e7 := hFX 7 (by decide) (by decide)
  have e9 := hFX 9 (by decide) (by decide)
  have e12 := hFX 12 (by decide) (by decide)
  refine pv_callVi (q := 1470) C hKl (c_X7_tick l X D P ) tw_1296 (show kd 6 = 7 from rfl) (by decide) rfl mm_X7_tick ⟨rfl, rfl⟩ (by rw [hKR]; exact ⟨Nat.le_of_ble_eq_true rfl, Nat.le_of_ble_eq_true rfl⟩) (by rw [hKR, room_c.1, room_c.2]; constructor <;> omega) rfl rfl rfl (Nat.le_of_ble_eq_true rfl) dL_law_1467 rfl (fun r6 D2 P2 hp => ?_)
  obtain ⟨hp, rfl⟩ := hp
  skip
  try simp only [e6, e7, e9, e12] at hp
  have hm := zMQ_rd hp
  have hnx := law_next hw hm (agr_FX hFX) (off_rf _)
  have hr6 := hm.2.1 rfl
  refine pv_icmp_eq (q := 1473) (tgt := 2865) C dL_law_1470 (by decide) rfl (fun _ => ?_) (fun z => absurd (hr.trans hr6.symm) z)
  exact PV_widen (ce' := ce + 171) (sl' := sl + 1026) (by omega) (by omega) (PV_le (tl D2 P (hnx)) ⟨Or.inr rfl, Or.inr rfl, Or.inr rfl, Or.inr rfl, Or.inr rfl, Or.inl rfl, Or.inl rfl, Or.inl rfl, Or.inl rfl, trivial⟩)
set_option maxRecDepth 100000 in
set_option maxHeartbeats 4000000 in
theorem law_27 (l : Launch) (K : KT) (X : XT) (b L : Nat) (xs : Nat → Int32) (hC : LC l K X b L xs) (Q : State → Prop) (ce sl i W : Nat) (D : DT) (P : PT) (hi : i + 4 ≤ L) (h : RI D P D W) (hW : W + 200 < 2 ^ 29) (hce : ce + 171 ≤ 601024) (hsl : sl + 1026 ≤ 7293034) (tl : ∀ (D2 : DT) (P2 : PT), RI D2 P2 D2 (W + 130) → PV K X Q (ce + 171) (sl + 1026) 2865 [some (.ref b), some (.ref (X.2.2 0)), some (.ref (X.2.2 6)), some (.ref (X.2.2 13)), some (.int (nI i)), none, none, none, none] [] D2 P2) : PV K X Q ce sl 1475 [some (.ref b), some (.ref (X.2.2 0)), some (.ref (X.2.2 6)), some (.ref (X.2.2 13)), some (.int (nI i)), none, none, none, none] [] D P := by
  obtain ⟨hKl, hKR, C, Z, hNC, hfl, hX, hbl, hbA, hL⟩ := hC
  obtain ⟨⟨s, hs5, hs3⟩, hf0, hd0, hse0, hsk0, n, hn60, hn9⟩ := law_pre h hW
  refine pv_aload_n (q := 1476) C dL_law_1475 rfl rfl rfl ?_
  refine pv_aload_n (q := 1477) C dL_law_1476 rfl rfl rfl ?_
  refine pv_iload (q := 1479) C dL_law_1477 rfl rfl ?_
  refine pv_iconst (q := 1480) (v := 1) C dL_law_1479 rfl (by decide) ?_
  refine pv_iaddN (q := 1481) (a := i) (b := 1) C rfl rfl dL_law_1480 rfl ?_
  refine pv_sld (q := 1482) (j := i + 1) C hX hbl hbA rfl (by omega) (by omega) dL_law_1481 rfl ?_
  refine pv_aload_n (q := 1483) C dL_law_1482 rfl rfl rfl ?_
  refine pv_callL (q := 1486) C Z hNC hKl (c_L_isNapping l X D P hfl D W h (xs (i + 1))) tw_872 mw_L_isNapping ⟨rfl, rfl⟩ (by rw [hKR]; exact ⟨Nat.le_of_ble_eq_true rfl, Nat.le_of_ble_eq_true rfl⟩) (by rw [hKR, room_c.1, room_c.2]; constructor <;> omega) rfl rfl rfl (by decide) dL_law_1483 rfl (fun r5 D1 P1 hw => ?_)
  have hFX := hw.2.1
  refine pv_istore (q := 1488) C dL_law_1486 rfl (Nat.le_of_ble_eq_true rfl) rfl ?_
  refine pv_aload_n (q := 1489) C dL_law_1488 rfl rfl rfl ?_
  refine pv_aload_n (q := 1490) C dL_law_1489 rfl rfl rfl ?_
  refine pv_iload (q := 1492) C dL_law_1490 rfl rfl ?_
  refine pv_iconst (q := 1493) (v := 1) C dL_law_1492 rfl (by decide) ?_
  refine pv_iaddN (q := 1494) (a := i) (b := 1) C rfl rfl dL_law_1493 rfl ?_
  refine pv_sld (q := 1495) (j := i + 1) C hX hbl hbA rfl (by omega) (by omega) dL_law_1494 rfl ?_
  have e6 := hFX 6 (by decide) (by decide)
  have e7 := hFX 7 (by decide) (by decide)
  have e9 := hFX 9 (by decide) (by decide)
  have e12 := hFX 12 (by decide) (by decide)
  refine pv_callVi (q := 1498) C hKl (c_X7_isNapping l X D1 P1 (xs (i + 1))) tw_1300 (show kd 6 = 7 from rfl) (by decide) rfl mm_X7_isNapping ⟨rfl, rfl⟩ (by rw [hKR]; exact ⟨Nat.le_of_ble_eq_true rfl, Nat.le_of_ble_eq_true rfl⟩) (by rw [hKR, room_c.1, room_c.2]; constructor <;> omega) rfl rfl rfl (Nat.le_of_ble_eq_true rfl) dL_law_1495 rfl (fun r6 D2 P2 hp => ?_)
  obtain ⟨hp, rfl⟩ := hp
  skip
  try simp only [e6, e7, e9, e12] at hp
  have hm := zMQ_rd hp
  have hnx := law_next hw hm (agr_FX hFX) (off_rf _)
  refine pv_istore (q := 1500) C dL_law_1498 rfl (Nat.le_of_ble_eq_true rfl) rfl ?_
  refine pv_aload_n (q := 1501) C dL_law_1500 rfl rfl rfl ?_
  refine pv_callVi (q := 1504) C hKl (c_X7_thrown l X D2 P1) tw_1041 (show kd 6 = 7 from rfl) (by decide) rfl mm_X7_thrown ⟨rfl, rfl⟩ (by rw [hKR]; exact ⟨Nat.le_of_ble_eq_true rfl, Nat.le_of_ble_eq_true rfl⟩) (by rw [hKR, room_c.1, room_c.2]; constructor <;> omega) rfl rfl rfl (by decide) dL_law_1501 rfl (fun r7 D3 P3 hp3 => ?_)
  obtain ⟨rfl, rfl, rfl⟩ := hp3
  refine pv_iload (q := 1506) C dL_law_1504 rfl rfl ?_
  refine pv_icmp_eq (q := 1509) (tgt := 1511) C dL_law_1506 (by decide) rfl (fun _ => ?_) (fun z => absurd (hm.1.trans hw.1.symm) z)
  refine pv_iload (q := 1513) C dL_law_1511 rfl rfl ?_
  refine pv_if_ne (q := 1516) (tgt := 1535) C dL_law_1513 (by decide) rfl (fun c0 => ?_) (fun c0 => ?_)
  ·
    refine pv_goto (tgt := 2865) C dL_law_1535 (by decide) ?_
    exact PV_widen (ce' := ce + 171) (sl' := sl + 1026) (by omega) (by omega) (PV_le (tl D2 P1 (hnx)) ⟨Or.inr rfl, Or.inr rfl, Or.inr rfl, Or.inr rfl, Or.inr rfl, Or.inl rfl, Or.inl rfl, Or.inl rfl, Or.inl rfl, trivial⟩)
  ·
    obtain ⟨hk0, hv⟩ := WQ_v hw c0
    have hr6 := hm.2.1 hk0
    refine pv_aload_n (q := 1517) C dL_law_1516 rfl rfl rfl ?_
    refine pv_iconst (q := 1518) (v := 0) C dL_law_1517 rfl (by decide) ?_
    refine pv_lald (q := 1519) C rfl dL_law_1518 rfl ?_
    refine pv_iload (q := 1521) C dL_law_1519 rfl rfl ?_
    refine pv_if_eq (q := 1524) (tgt := 1528) C dL_law_1521 (by decide) rfl (fun c1 => ?_) (fun c1 => ?_)
    ·
      refine pv_lconst (q := 1529) (v := 0) C dL_law_1528 rfl (by decide) ?_
      refine pv_lcmp (q := 1530) C dL_law_1529 rfl ?_
      refine pv_if_eq (q := 1533) (tgt := 1535) C dL_law_1530 (by decide) rfl (fun _ => ?_) (fun z => absurd (lg_eq (hv.trans (by rw [← hr6, c1]; rfl))) z)
      refine pv_goto (tgt := 2865) C dL_law_1535 (by decide) ?_
      exact PV_widen (ce' := ce + 171) (sl' := sl + 1026) (by omega) (by omega) (PV_le (tl D2 P1 (hnx)) ⟨Or.inr rfl, Or.inr rfl, Or.inr rfl, Or.inr rfl, Or.inr rfl, Or.inl rfl, Or.inl rfl, Or.inl rfl, Or.inl rfl, trivial⟩)
    ·
      refine pv_lconst (q := 1525) (v := 1) C dL_law_1524 rfl (by decide) ?_
      refine pv_goto (tgt := 1529) C dL_law_1525 (by decide) ?_
      refine pv_lcmp (q := 1530) C dL_law_1529 rfl ?_
      refine pv_if_eq (q := 1533) (tgt := 1535) C dL_law_1530 (by decide) rfl (fun _ => ?_) (fun z => absurd (lg_eq (hv.trans (by rw [← hr6, ite01 hr6 c1]; rfl))) z)
      refine pv_goto (tgt := 2865) C dL_law_1535 (by decide) ?_
      exact PV_widen (ce' := ce + 171) (sl' := sl + 1026) (by omega) (by omega) (PV_le (tl D2 P1 (hnx)) ⟨Or.inr rfl, Or.inr rfl, Or.inr rfl, Or.inr rfl, Or.inr rfl, Or.inl rfl, Or.inl rfl, Or.inl rfl, Or.inl rfl, trivial⟩)
