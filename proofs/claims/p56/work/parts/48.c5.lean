theorem kG_iff {v g : Int32} : kGr v g = 0 ↔ (rg v 0 2 ∧ rg g 0 3) := by
  unfold kGr
  by_cases h : rg v 0 2 ∧ rg g 0 3
  · rw [if_pos h]; exact ⟨fun _ => h, fun _ => rfl⟩
  · rw [if_neg h]; exact ⟨fun z => absurd z (by decide), fun z => absurd z h⟩
theorem kG_n {v g : Int32} (h : kGr v g = 1) : ¬ (rg v 0 2 ∧ rg g 0 3) := fun z => absurd ((kG_iff.mpr z).symm.trans h) (by decide)
theorem kAm_gr {row : Nat → Int32} {v g : Int32} (h : kGr v g = 1) : kAm row v g = 1 := by unfold kAm; rw [if_neg (kG_n h)]
theorem kAt_gr {row : Nat → Int32} {v g : Int32} (h : kGr v g = 1) : kAt row v g = 1 := by unfold kAt; rw [if_neg (kG_n h)]
theorem kRk_gr {v g a : Int32} (h : kGr v g = 1) : kRk v g a = 1 := by unfold kRk; rw [if_neg (kG_n h)]
theorem kRk_2 {v g a : Int32} (h : kGr v g = 0) (ha : ¬ rg a (-99) 99) : kRk v g a = 2 := by unfold kRk; rw [if_pos (kG_iff.mp h), if_neg ha]
theorem kRk_0 {v g a : Int32} (h : kGr v g = 0) (ha : rg a (-99) 99) : kRk v g a = 0 := by unfold kRk; rw [if_pos (kG_iff.mp h), if_pos ha]
theorem kAm_0 {row : Nat → Int32} {v g : Nat} (h : kGr (nI v) (nI g) = 0) (hv : v < 3) (hg : g < 4) (hn : VN row v g = 0) : kAm row (nI v) (nI g) = 2 := by unfold kAm; rw [if_pos (kG_iff.mp h), ix_n (by omega), ix_n (by omega), if_pos hn]
theorem kAt_0 {row : Nat → Int32} {v g : Nat} (h : kGr (nI v) (nI g) = 0) (hv : v < 3) (hg : g < 4) (hn : TN row v g = 0) : kAt row (nI v) (nI g) = 2 := by unfold kAt; rw [if_pos (kG_iff.mp h), ix_n (by omega), ix_n (by omega), if_pos hn]
theorem kAm_1 {row : Nat → Int32} {v g : Nat} (h : kGr (nI v) (nI g) = 0) (hv : v < 3) (hg : g < 4) (hn : 1 ≤ VN row v g) : kAm row (nI v) (nI g) = 0 := by unfold kAm; rw [if_pos (kG_iff.mp h), ix_n (by omega), ix_n (by omega), if_neg (by omega)]
theorem kAt_1 {row : Nat → Int32} {v g : Nat} (h : kGr (nI v) (nI g) = 0) (hv : v < 3) (hg : g < 4) (hn : 1 ≤ TN row v g) : kAt row (nI v) (nI g) = 0 := by unfold kAt; rw [if_pos (kG_iff.mp h), ix_n (by omega), ix_n (by omega), if_neg (by omega)]
set_option maxRecDepth 100000 in
set_option maxHeartbeats 4000000 in
theorem c_X6_requireRow (l : Launch) (X : XT) (D : DT) (P : PT) (hfl : l.stackTraces = false) (M : DT) (W : Nat) (h : RI D P M W) (p : Nat) (hp : p < 16) : XG l X yX6_requireRow (.code yX6_requireRow cX6_requireRow 2 none :: AW) ({ frames := 6, cells := 1, slots := 6, locals := 216 } : Room) [.ref (X.2.2 0), .int (nI p)] (qV X (fun D' P' => ¬ M 7 p = 0 ∧ D = D' ∧ P = P')) (fun e D' P' => e = eISE ∧ M 7 p = 0 ∧ D = D' ∧ P = P') D P 1 6 := by
  refine xg_of (by decide +kernel) (Nat.le_of_ble_eq_true rfl) ?_
  intro K hKl hKR C ht0 Z
  have hfl : K.2.1.stackTraces = false := by rw [hKl]; exact hfl
  refine PV_lv (lv' := [some (.ref (X.2.2 0)), some (.int (nI p))]) rfl ?_
  obtain ⟨⟨G, A, wr, nx, hw, hR, hT, hI, hAM⟩, ⟨s, hs5, hs3, hs0, hsj⟩, hP1, hP2, ⟨hk4, hk01, hkS⟩, n, hn60, hn9, hn1, hnk⟩ := id h
  refine pv_aload_n (q := 1) C dX6_requireRow_0 rfl rfl rfl ?_ 
  refine pg_6_0 (q := 4) C k0 tw_201 dX6_requireRow_1 rfl (fun k1 => ?_) 
  refine pg_3_0 (q := 7) C k1 tw_129 dX6_requireRow_4 rfl (fun k4 => ?_) 
  refine pv_iload_n (q := 8) C dX6_requireRow_7 rfl rfl rfl ?_ 
  refine pv_callVi (q := 11) C hKl (c_X4_freeAt l X D P (24 + 1) (by assumption) _) tw_432 k4 (by decide) rfl mm_X4_freeAt ⟨rfl, rfl⟩ (by rw [hKR]; exact ⟨Nat.le_of_ble_eq_true rfl, Nat.le_of_ble_eq_true rfl⟩) (by rw [hKR]; exact ⟨Nat.le_of_ble_eq_true rfl, Nat.le_of_ble_eq_true rfl⟩) rfl rfl rfl (Nat.le_of_ble_eq_true rfl) dX6_requireRow_8 rfl (fun r8 D8 P8 hp8 => ?_) 
  rcases hp8 with ⟨⟨⟨q0, hq0, eq0, hne⟩, rfl⟩ | ⟨hfr, rfl⟩, rfl, rfl⟩
  · have hocc : ¬ M 7 p = 0 := fun z => by
      have := nI_inj (by omega) (by omega) eq0
      subst this
      exact hne ((free_iff hT hp).mpr z p hp rfl)
    refine pv_if_eq (q := 14) (tgt := 25) C dX6_requireRow_11 (by decide) rfl (fun _ => ?_) (fun h => absurd h (by decide)) 
    exact XK.of (pv_vret C (⟨hocc, rfl, rfl⟩) (by decide) (by decide) dX6_requireRow_25)
  · have hfree : M 7 p = 0 := (free_iff hT hp).mp hfr
    refine pv_if_eq (q := 14) (tgt := 25) C dX6_requireRow_11 (by decide) rfl (fun h => absurd h (by decide)) (fun _ => ?_) 
    exact pv_throwISEW (text := "the place is free") C Z ht0 hfl (by decide +kernel) (⟨rfl, hfree, rfl, rfl⟩) rfl (by rw [hKR]; exact ⟨Nat.le_of_ble_eq_true rfl, Nat.le_of_ble_eq_true rfl⟩) (by rw [hKR]; first | exact ⟨Nat.le_of_ble_eq_true rfl, Nat.le_of_ble_eq_true rfl⟩ | (constructor <;> (dsimp only; omega))) ⟨by omega, by omega⟩ dX6_requireRow_14 dX6_requireRow_17 dX6_requireRow_18 dX6_requireRow_21 dX6_requireRow_24
set_option maxRecDepth 100000 in
set_option maxHeartbeats 4000000 in
theorem c_X6_isFree (l : Launch) (X : XT) (D : DT) (P : PT) (hfl : l.stackTraces = false) (M : DT) (W : Nat) (h : RI D P M W) (place : Int32) : XG l X yX6_isFree (.code yX6_isFree cX6_isFree 2 (some .boolean) :: AW) ({ frames := 7, cells := 1, slots := 6, locals := 252 } : Room) [.ref (X.2.2 0), .int place] (qI X (fun r D' P' => (kRg place 0 15) = 0 ∧ r = (if M 7 (ix place) = 0 then 1 else 0) ∧ Fs D D' ∧ P = P')) (fun e D' P' => ((e = eIOE ∧ (kRg place 0 15) = 1)) ∧ Fs D D' ∧ P = P') D P 1 6 := by
  refine xg_of (by decide +kernel) (Nat.le_of_ble_eq_true rfl) ?_
  intro K hKl hKR C ht0 Z
  have hfl : K.2.1.stackTraces = false := by rw [hKl]; exact hfl
  refine PV_lv (lv' := [some (.ref (X.2.2 0)), some (.int place)]) rfl ?_
  obtain ⟨⟨G, A, wr, nx, hw, hR, hT, hI, hAM⟩, ⟨s, hs5, hs3, hs0, hsj⟩, hP1, hP2, ⟨hk4, hk01, hkS⟩, n, hn60, hn9, hn1, hnk⟩ := id h
  refine pv_iload_n (q := 1) C dX6_isFree_0 rfl rfl rfl ?_ 
  refine pv_callSvx (q := 4) C Z ht0 hKl (c_X6_requirePlace l X D P (hKl ▸ hfl) _) tw_413 mm_X6_requirePlace ⟨rfl, rfl⟩ (by rw [hKR]; exact ⟨Nat.le_of_ble_eq_true rfl, Nat.le_of_ble_eq_true rfl⟩) (by rw [hKR]; exact ⟨by first | exact Nat.le_of_ble_eq_true rfl | (dsimp only; omega), by first | exact Nat.le_of_ble_eq_true rfl | (dsimp only; omega)⟩) rfl rfl rfl (Nat.le_of_ble_eq_true rfl) dX6_isFree_1 rfl (fun e D1 P1 hx => ⟨⟨hx.1, by unfold kRg; rw [if_neg hx.2.1]⟩, hx.2.2.1 ▸ Fs_rf _, hx.2.2.2⟩) (by first | omega | exact ⟨by omega, by omega⟩) (fun D1 P1 hp1 => ?_) 
  obtain ⟨hy1, rfl, rfl⟩ := hp1
  obtain ⟨p, hp, rfl⟩ := rg16 hy1
  refine pv_aload_n (q := 5) C dX6_isFree_4 rfl rfl rfl ?_ 
  refine pg_6_0 (q := 8) C k0 tw_201 dX6_isFree_5 rfl (fun k5 => ?_) 
  refine pg_3_0 (q := 11) C k5 tw_129 dX6_isFree_8 rfl (fun k8 => ?_) 
  refine pv_iload_n (q := 12) C dX6_isFree_11 rfl rfl rfl ?_ 
  refine pv_callVi (q := 15) C hKl (c_X4_freeAt l X D P (24 + 1) (by assumption) _) tw_432 k8 (by decide) rfl mm_X4_freeAt ⟨rfl, rfl⟩ (by rw [hKR]; exact ⟨Nat.le_of_ble_eq_true rfl, Nat.le_of_ble_eq_true rfl⟩) (by rw [hKR]; exact ⟨by first | exact Nat.le_of_ble_eq_true rfl | (dsimp only; omega), by first | exact Nat.le_of_ble_eq_true rfl | (dsimp only; omega)⟩) rfl rfl rfl (Nat.le_of_ble_eq_true rfl) dX6_isFree_12 rfl (fun r12 D12 P12 hp12 => ?_) 
  rcases hp12 with ⟨⟨⟨q0, hq0, eq0, hne⟩, rfl⟩ | ⟨hfr, rfl⟩, rfl, rfl⟩
  · have hocc : ¬ M 7 p = 0 := fun z => by
      have := nI_inj (by omega) (by omega) eq0
      subst this
      exact hne ((free_iff hT hp).mpr z p hp rfl)
    exact XK.of (pv_zret C (Or.inl rfl) (⟨by unfold kRg; rw [if_pos hy1], by rw [ix_n (by omega), if_neg hocc], Fs_rf D, rfl⟩) (by decide) (by decide) dX6_isFree_15)
  · have hfree : M 7 p = 0 := (free_iff hT hp).mp hfr
    exact XK.of (pv_zret C (Or.inr rfl) (⟨by unfold kRg; rw [if_pos hy1], by rw [ix_n (by omega), if_pos hfree], Fs_rf D, rfl⟩) (by decide) (by decide) dX6_isFree_15)
set_option maxRecDepth 100000 in
set_option maxHeartbeats 4000000 in
theorem c_X6_groupAt (l : Launch) (X : XT) (D : DT) (P : PT) (hfl : l.stackTraces = false) (M : DT) (W : Nat) (h : RI D P M W) (place : Int32) : XG l X yX6_groupAt (.code yX6_groupAt cX6_groupAt 2 (some .int) :: AW) ({ frames := 7, cells := 2, slots := 12, locals := 252 } : Room) [.ref (X.2.2 0), .int place] (qI X (fun r D' P' => (kRow (M 7) place) = 0 ∧ r = (M 7 (ix place) - 1) ∧ Fs D D' ∧ P = P')) (fun e D' P' => ((e = eIOE ∧ (kRow (M 7) place) = 1) ∨ (e = eISE ∧ (kRow (M 7) place) = 2)) ∧ Fs D D' ∧ P = P') D P 2 12 := by
  refine xg_of (by decide +kernel) (Nat.le_of_ble_eq_true rfl) ?_
  intro K hKl hKR C ht0 Z
  have hfl : K.2.1.stackTraces = false := by rw [hKl]; exact hfl
  refine PV_lv (lv' := [some (.ref (X.2.2 0)), some (.int place)]) rfl ?_
  obtain ⟨⟨G, A, wr, nx, hw, hR, hT, hI, hAM⟩, ⟨s, hs5, hs3, hs0, hsj⟩, hP1, hP2, ⟨hk4, hk01, hkS⟩, n, hn60, hn9, hn1, hnk⟩ := id h
  refine pv_iload_n (q := 1) C dX6_groupAt_0 rfl rfl rfl ?_ 
  refine pv_callSvx (q := 4) C Z ht0 hKl (c_X6_requirePlace l X D P (hKl ▸ hfl) _) tw_413 mm_X6_requirePlace ⟨rfl, rfl⟩ (by rw [hKR]; exact ⟨Nat.le_of_ble_eq_true rfl, Nat.le_of_ble_eq_true rfl⟩) (by rw [hKR]; exact ⟨by first | exact Nat.le_of_ble_eq_true rfl | (dsimp only; omega), by first | exact Nat.le_of_ble_eq_true rfl | (dsimp only; omega)⟩) rfl rfl rfl (Nat.le_of_ble_eq_true rfl) dX6_groupAt_1 rfl (fun e D1 P1 hx => ⟨Or.inl (⟨hx.1, by unfold kRow; rw [if_neg hx.2.1]⟩), hx.2.2.1 ▸ Fs_rf _, hx.2.2.2⟩) (by first | omega | exact ⟨by omega, by omega⟩) (fun D1 P1 hp1 => ?_) 
  obtain ⟨hy1, rfl, rfl⟩ := hp1
  obtain ⟨p, hp, rfl⟩ := rg16 hy1
  refine pv_aload_n (q := 5) C dX6_groupAt_4 rfl rfl rfl ?_ 
  refine pv_iload_n (q := 6) C dX6_groupAt_5 rfl rfl rfl ?_ 
  refine pv_callVvx (q := 9) C Z ht0 hKl (c_X6_requireRow l X D P (hKl ▸ hfl) M W h p hp) tw_443 k0 (by decide) rfl mm_X6_requireRow ⟨rfl, rfl⟩ (by rw [hKR]; exact ⟨Nat.le_of_ble_eq_true rfl, Nat.le_of_ble_eq_true rfl⟩) (by rw [hKR]; exact ⟨by first | exact Nat.le_of_ble_eq_true rfl | (dsimp only; omega), by first | exact Nat.le_of_ble_eq_true rfl | (dsimp only; omega)⟩) rfl rfl rfl (Nat.le_of_ble_eq_true rfl) dX6_groupAt_6 rfl (fun e D1 P1 hx => ⟨Or.inr (⟨hx.1, by unfold kRow; rw [if_pos hy1, ix_n (by omega), if_pos hx.2.1]⟩), hx.2.2.1 ▸ Fs_rf _, hx.2.2.2⟩) (by first | omega | exact ⟨by omega, by omega⟩) (fun D6 P6 hp6 => ?_) 
  obtain ⟨hrw, rfl, rfl⟩ := hp6
  refine pv_aload_n (q := 10) C dX6_groupAt_9 rfl rfl rfl ?_ 
  refine pg_6_0 (q := 13) C k0 tw_201 dX6_groupAt_10 rfl (fun k10 => ?_) 
  refine pg_3_0 (q := 16) C k10 tw_129 dX6_groupAt_13 rfl (fun k13 => ?_) 
  refine pg_4_0 (q := 19) C k13 tw_39 dX6_groupAt_16 rfl (fun k16 => ?_) 
  refine pv_iload_n (q := 20) C dX6_groupAt_19 rfl rfl rfl ?_ 
  refine pv_iald (q := 21) (j := p) C (iln_9 k16) rfl hp dX6_groupAt_20 rfl ?_ 
  rw [(hT p hp).1]
  exact XK.of (pv_iret C (⟨by unfold kRow; rw [if_pos hy1, ix_n (by omega), if_neg hrw], by rw [ix_n (by omega)], Fs_rf D, rfl⟩) (by decide) (by decide) dX6_groupAt_21)
set_option maxRecDepth 100000 in
set_option maxHeartbeats 4000000 in
theorem c_X6_amountAt (l : Launch) (X : XT) (D : DT) (P : PT) (hfl : l.stackTraces = false) (M : DT) (W : Nat) (h : RI D P M W) (place : Int32) : XG l X yX6_amountAt (.code yX6_amountAt cX6_amountAt 2 (some .int) :: AW) ({ frames := 7, cells := 2, slots := 12, locals := 252 } : Room) [.ref (X.2.2 0), .int place] (qI X (fun r D' P' => (kRow (M 7) place) = 0 ∧ r = (M 7 (16 + ix place)) ∧ Fs D D' ∧ P = P')) (fun e D' P' => ((e = eIOE ∧ (kRow (M 7) place) = 1) ∨ (e = eISE ∧ (kRow (M 7) place) = 2)) ∧ Fs D D' ∧ P = P') D P 2 12 := by
  refine xg_of (by decide +kernel) (Nat.le_of_ble_eq_true rfl) ?_
  intro K hKl hKR C ht0 Z
  have hfl : K.2.1.stackTraces = false := by rw [hKl]; exact hfl
  refine PV_lv (lv' := [some (.ref (X.2.2 0)), some (.int place)]) rfl ?_
  obtain ⟨⟨G, A, wr, nx, hw, hR, hT, hI, hAM⟩, ⟨s, hs5, hs3, hs0, hsj⟩, hP1, hP2, ⟨hk4, hk01, hkS⟩, n, hn60, hn9, hn1, hnk⟩ := id h
  refine pv_iload_n (q := 1) C dX6_amountAt_0 rfl rfl rfl ?_ 
  refine pv_callSvx (q := 4) C Z ht0 hKl (c_X6_requirePlace l X D P (hKl ▸ hfl) _) tw_413 mm_X6_requirePlace ⟨rfl, rfl⟩ (by rw [hKR]; exact ⟨Nat.le_of_ble_eq_true rfl, Nat.le_of_ble_eq_true rfl⟩) (by rw [hKR]; exact ⟨by first | exact Nat.le_of_ble_eq_true rfl | (dsimp only; omega), by first | exact Nat.le_of_ble_eq_true rfl | (dsimp only; omega)⟩) rfl rfl rfl (Nat.le_of_ble_eq_true rfl) dX6_amountAt_1 rfl (fun e D1 P1 hx => ⟨Or.inl (⟨hx.1, by unfold kRow; rw [if_neg hx.2.1]⟩), hx.2.2.1 ▸ Fs_rf _, hx.2.2.2⟩) (by first | omega | exact ⟨by omega, by omega⟩) (fun D1 P1 hp1 => ?_) 
  obtain ⟨hy1, rfl, rfl⟩ := hp1
  obtain ⟨p, hp, rfl⟩ := rg16 hy1
  refine pv_aload_n (q := 5) C dX6_amountAt_4 rfl rfl rfl ?_ 
  refine pv_iload_n (q := 6) C dX6_amountAt_5 rfl rfl rfl ?_ 
  refine pv_callVvx (q := 9) C Z ht0 hKl (c_X6_requireRow l X D P (hKl ▸ hfl) M W h p hp) tw_443 k0 (by decide) rfl mm_X6_requireRow ⟨rfl, rfl⟩ (by rw [hKR]; exact ⟨Nat.le_of_ble_eq_true rfl, Nat.le_of_ble_eq_true rfl⟩) (by rw [hKR]; exact ⟨by first | exact Nat.le_of_ble_eq_true rfl | (dsimp only; omega), by first | exact Nat.le_of_ble_eq_true rfl | (dsimp only; omega)⟩) rfl rfl rfl (Nat.le_of_ble_eq_true rfl) dX6_amountAt_6 rfl (fun e D1 P1 hx => ⟨Or.inr (⟨hx.1, by unfold kRow; rw [if_pos hy1, ix_n (by omega), if_pos hx.2.1]⟩), hx.2.2.1 ▸ Fs_rf _, hx.2.2.2⟩) (by first | omega | exact ⟨by omega, by omega⟩) (fun D6 P6 hp6 => ?_) 
  obtain ⟨hrw, rfl, rfl⟩ := hp6
  refine pv_aload_n (q := 10) C dX6_amountAt_9 rfl rfl rfl ?_ 
  refine pg_6_0 (q := 13) C k0 tw_201 dX6_amountAt_10 rfl (fun k10 => ?_) 
  refine pg_3_0 (q := 16) C k10 tw_129 dX6_amountAt_13 rfl (fun k13 => ?_) 
  refine pg_4_1 (q := 19) C k13 tw_42 dX6_amountAt_16 rfl (fun k16 => ?_) 
  refine pv_iload_n (q := 20) C dX6_amountAt_19 rfl rfl rfl ?_ 
  refine pv_iald (q := 21) (j := p) C (iln_9 k16) rfl hp dX6_amountAt_20 rfl ?_ 
  rw [(hT p hp).2 hrw]
  exact XK.of (pv_iret C (⟨by unfold kRow; rw [if_pos hy1, ix_n (by omega), if_neg hrw], by rw [ix_n (by omega)], Fs_rf D, rfl⟩) (by decide) (by decide) dX6_amountAt_21)
set_option maxRecDepth 100000 in
set_option maxHeartbeats 4000000 in
theorem c_X6_napOf (l : Launch) (X : XT) (D : DT) (P : PT) (hfl : l.stackTraces = false) (M : DT) (W : Nat) (h : RI D P M W) (view : Int32) : XG l X yX6_napOf (.code yX6_napOf cX6_napOf 2 (some .int) :: AW) ({ frames := 7, cells := 1, slots := 6, locals := 252 } : Room) [.ref (X.2.2 0), .int view] (qI X (fun r D' P' => (kView view) = 0 ∧ r = (M 7 (32 + 38 * ix view + 33)) ∧ Fs D D' ∧ P = P')) (fun e D' P' => ((e = eIOE ∧ (kView view) = 1)) ∧ Fs D D' ∧ P = P') D P 1 6 := by
  refine xg_of (by decide +kernel) (Nat.le_of_ble_eq_true rfl) ?_
  intro K hKl hKR C ht0 Z
  have hfl : K.2.1.stackTraces = false := by rw [hKl]; exact hfl
  refine PV_lv (lv' := [some (.ref (X.2.2 0)), some (.int view)]) rfl ?_
  obtain ⟨⟨G, A, wr, nx, hw, hR, hT, hI, hAM⟩, ⟨s, hs5, hs3, hs0, hsj⟩, hP1, hP2, ⟨hk4, hk01, hkS⟩, n, hn60, hn9, hn1, hnk⟩ := id h
  refine pv_iload_n (q := 1) C dX6_napOf_0 rfl rfl rfl ?_ 
  refine pv_callSvx (q := 4) C Z ht0 hKl (c_X6_requireView l X D P (hKl ▸ hfl) _) tw_460 mm_X6_requireView ⟨rfl, rfl⟩ (by rw [hKR]; exact ⟨Nat.le_of_ble_eq_true rfl, Nat.le_of_ble_eq_true rfl⟩) (by rw [hKR]; exact ⟨by first | exact Nat.le_of_ble_eq_true rfl | (dsimp only; omega), by first | exact Nat.le_of_ble_eq_true rfl | (dsimp only; omega)⟩) rfl rfl rfl (Nat.le_of_ble_eq_true rfl) dX6_napOf_1 rfl (fun e D1 P1 hx => ⟨⟨hx.1, by unfold kView; rw [if_neg hx.2.1]⟩, hx.2.2.1 ▸ Fs_rf _, hx.2.2.2⟩) (by first | omega | exact ⟨by omega, by omega⟩) (fun D1 P1 hp1 => ?_) 
  obtain ⟨hy1, rfl, rfl⟩ := hp1
  obtain ⟨v, hv, rfl⟩ := rg3 hy1
  obtain ⟨f1, f2, f3, f4, f5, f6, f7⟩ := Rp_fld hR hv
  have f8 := (hR.2.2.2.2.1 v hv).2.2.2.2.2.2.2.1
  refine pv_aload_n (q := 5) C dX6_napOf_4 rfl rfl rfl ?_ 
  refine pg_6_0 (q := 8) C k0 tw_201 dX6_napOf_5 rfl (fun k5 => ?_) 
  refine pg_3_2 (q := 11) C k5 tw_133 dX6_napOf_8 rfl (fun k8 => ?_) 
  refine pv_iload_n (q := 12) C dX6_napOf_11 rfl rfl rfl ?_ 
  refine pv_aald_12 (q := 13) (j := v) C k8 rfl (by omega) dX6_napOf_12 rfl (fun k12 => ?_) 
  refine pg_5_5 (q := 16) C k12 tw_111 dX6_napOf_13 rfl ?_ 
  rw [f5]
  exact XK.of (pv_iret C (⟨by unfold kView; rw [if_pos hy1], by rw [ix_n (by omega)], Fs_rf D, rfl⟩) (by decide) (by decide) dX6_napOf_16)
set_option maxRecDepth 100000 in
set_option maxHeartbeats 4000000 in
theorem c_X6_filterOf (l : Launch) (X : XT) (D : DT) (P : PT) (hfl : l.stackTraces = false) (M : DT) (W : Nat) (h : RI D P M W) (view : Int32) : XG l X yX6_filterOf (.code yX6_filterOf cX6_filterOf 2 (some .int) :: AW) ({ frames := 7, cells := 1, slots := 6, locals := 252 } : Room) [.ref (X.2.2 0), .int view] (qI X (fun r D' P' => (kView view) = 0 ∧ r = (M 7 (32 + 38 * ix view + 34)) ∧ Fs D D' ∧ P = P')) (fun e D' P' => ((e = eIOE ∧ (kView view) = 1)) ∧ Fs D D' ∧ P = P') D P 1 6 := by
  refine xg_of (by decide +kernel) (Nat.le_of_ble_eq_true rfl) ?_
  intro K hKl hKR C ht0 Z
  have hfl : K.2.1.stackTraces = false := by rw [hKl]; exact hfl
  refine PV_lv (lv' := [some (.ref (X.2.2 0)), some (.int view)]) rfl ?_
  obtain ⟨⟨G, A, wr, nx, hw, hR, hT, hI, hAM⟩, ⟨s, hs5, hs3, hs0, hsj⟩, hP1, hP2, ⟨hk4, hk01, hkS⟩, n, hn60, hn9, hn1, hnk⟩ := id h
  refine pv_iload_n (q := 1) C dX6_filterOf_0 rfl rfl rfl ?_ 
  refine pv_callSvx (q := 4) C Z ht0 hKl (c_X6_requireView l X D P (hKl ▸ hfl) _) tw_460 mm_X6_requireView ⟨rfl, rfl⟩ (by rw [hKR]; exact ⟨Nat.le_of_ble_eq_true rfl, Nat.le_of_ble_eq_true rfl⟩) (by rw [hKR]; exact ⟨by first | exact Nat.le_of_ble_eq_true rfl | (dsimp only; omega), by first | exact Nat.le_of_ble_eq_true rfl | (dsimp only; omega)⟩) rfl rfl rfl (Nat.le_of_ble_eq_true rfl) dX6_filterOf_1 rfl (fun e D1 P1 hx => ⟨⟨hx.1, by unfold kView; rw [if_neg hx.2.1]⟩, hx.2.2.1 ▸ Fs_rf _, hx.2.2.2⟩) (by first | omega | exact ⟨by omega, by omega⟩) (fun D1 P1 hp1 => ?_) 
  obtain ⟨hy1, rfl, rfl⟩ := hp1
  obtain ⟨v, hv, rfl⟩ := rg3 hy1
  obtain ⟨f1, f2, f3, f4, f5, f6, f7⟩ := Rp_fld hR hv
  have f8 := (hR.2.2.2.2.1 v hv).2.2.2.2.2.2.2.1
  refine pv_aload_n (q := 5) C dX6_filterOf_4 rfl rfl rfl ?_ 
  refine pg_6_0 (q := 8) C k0 tw_201 dX6_filterOf_5 rfl (fun k5 => ?_) 
  refine pg_3_2 (q := 11) C k5 tw_133 dX6_filterOf_8 rfl (fun k8 => ?_) 
  refine pv_iload_n (q := 12) C dX6_filterOf_11 rfl rfl rfl ?_ 
  refine pv_aald_12 (q := 13) (j := v) C k8 rfl (by omega) dX6_filterOf_12 rfl (fun k12 => ?_) 
  refine pg_5_1 (q := 16) C k12 tw_99 dX6_filterOf_13 rfl ?_ 
  rw [f1]
  exact XK.of (pv_iret C (⟨by unfold kView; rw [if_pos hy1], by rw [ix_n (by omega)], Fs_rf D, rfl⟩) (by decide) (by decide) dX6_filterOf_16)
set_option maxRecDepth 100000 in
set_option maxHeartbeats 4000000 in
theorem c_X6_isNapping (l : Launch) (X : XT) (D : DT) (P : PT) (hfl : l.stackTraces = false) (M : DT) (W : Nat) (h : RI D P M W) (view : Int32) : XG l X yX6_isNapping (.code yX6_isNapping cX6_isNapping 2 (some .boolean) :: AW) ({ frames := 7, cells := 1, slots := 6, locals := 252 } : Room) [.ref (X.2.2 0), .int view] (qI X (fun r D' P' => (kView view) = 0 ∧ r = (if M 7 (32 + 38 * ix view + 32) = 1 then 1 else 0) ∧ Fs D D' ∧ P = P')) (fun e D' P' => ((e = eIOE ∧ (kView view) = 1)) ∧ Fs D D' ∧ P = P') D P 1 6 := by
  refine xg_of (by decide +kernel) (Nat.le_of_ble_eq_true rfl) ?_
  intro K hKl hKR C ht0 Z
  have hfl : K.2.1.stackTraces = false := by rw [hKl]; exact hfl
  refine PV_lv (lv' := [some (.ref (X.2.2 0)), some (.int view)]) rfl ?_
  obtain ⟨⟨G, A, wr, nx, hw, hR, hT, hI, hAM⟩, ⟨s, hs5, hs3, hs0, hsj⟩, hP1, hP2, ⟨hk4, hk01, hkS⟩, n, hn60, hn9, hn1, hnk⟩ := id h
  refine pv_iload_n (q := 1) C dX6_isNapping_0 rfl rfl rfl ?_ 
  refine pv_callSvx (q := 4) C Z ht0 hKl (c_X6_requireView l X D P (hKl ▸ hfl) _) tw_460 mm_X6_requireView ⟨rfl, rfl⟩ (by rw [hKR]; exact ⟨Nat.le_of_ble_eq_true rfl, Nat.le_of_ble_eq_true rfl⟩) (by rw [hKR]; exact ⟨by first | exact Nat.le_of_ble_eq_true rfl | (dsimp only; omega), by first | exact Nat.le_of_ble_eq_true rfl | (dsimp only; omega)⟩) rfl rfl rfl (Nat.le_of_ble_eq_true rfl) dX6_isNapping_1 rfl (fun e D1 P1 hx => ⟨⟨hx.1, by unfold kView; rw [if_neg hx.2.1]⟩, hx.2.2.1 ▸ Fs_rf _, hx.2.2.2⟩) (by first | omega | exact ⟨by omega, by omega⟩) (fun D1 P1 hp1 => ?_) 
  obtain ⟨hy1, rfl, rfl⟩ := hp1
  obtain ⟨v, hv, rfl⟩ := rg3 hy1
  obtain ⟨f1, f2, f3, f4, f5, f6, f7⟩ := Rp_fld hR hv
  have f8 := (hR.2.2.2.2.1 v hv).2.2.2.2.2.2.2.1
  refine pv_aload_n (q := 5) C dX6_isNapping_4 rfl rfl rfl ?_ 
  refine pg_6_0 (q := 8) C k0 tw_201 dX6_isNapping_5 rfl (fun k5 => ?_) 
  refine pg_3_2 (q := 11) C k5 tw_133 dX6_isNapping_8 rfl (fun k8 => ?_) 
  refine pv_iload_n (q := 12) C dX6_isNapping_11 rfl rfl rfl ?_ 
  refine pv_aald_12 (q := 13) (j := v) C k8 rfl (by omega) dX6_isNapping_12 rfl (fun k12 => ?_) 
  refine pg_5_4 (q := 16) C k12 tw_107 dX6_isNapping_13 rfl ?_ 
  rw [f4]
  exact XK.of (pv_zret C f8 (⟨by unfold kView; rw [if_pos hy1], by rw [ix_n (by omega)]; rcases f8 with z | z <;> rw [z] <;> rfl, Fs_rf D, rfl⟩) (by decide) (by decide) dX6_isNapping_16)
set_option maxRecDepth 100000 in
set_option maxHeartbeats 4000000 in
theorem c_X6_waiting (l : Launch) (X : XT) (D : DT) (P : PT) (hfl : l.stackTraces = false) (M : DT) (W : Nat) (h : RI D P M W) (view : Int32) : XG l X yX6_waiting (.code yX6_waiting cX6_waiting 2 (some .int) :: AW) ({ frames := 7, cells := 1, slots := 6, locals := 252 } : Room) [.ref (X.2.2 0), .int view] (qI X (fun r D' P' => (kView view) = 0 ∧ r = (wt (M 7) (ix view)) ∧ Fs D D' ∧ P = P')) (fun e D' P' => ((e = eIOE ∧ (kView view) = 1)) ∧ Fs D D' ∧ P = P') D P 1 6 := by
  refine xg_of (by decide +kernel) (Nat.le_of_ble_eq_true rfl) ?_
  intro K hKl hKR C ht0 Z
  have hfl : K.2.1.stackTraces = false := by rw [hKl]; exact hfl
  refine PV_lv (lv' := [some (.ref (X.2.2 0)), some (.int view)]) rfl ?_
  obtain ⟨⟨G, A, wr, nx, hw, hR, hT, hI, hAM⟩, ⟨s, hs5, hs3, hs0, hsj⟩, hP1, hP2, ⟨hk4, hk01, hkS⟩, n, hn60, hn9, hn1, hnk⟩ := id h
  refine pv_iload_n (q := 1) C dX6_waiting_0 rfl rfl rfl ?_ 
  refine pv_callSvx (q := 4) C Z ht0 hKl (c_X6_requireView l X D P (hKl ▸ hfl) _) tw_460 mm_X6_requireView ⟨rfl, rfl⟩ (by rw [hKR]; exact ⟨Nat.le_of_ble_eq_true rfl, Nat.le_of_ble_eq_true rfl⟩) (by rw [hKR]; exact ⟨by first | exact Nat.le_of_ble_eq_true rfl | (dsimp only; omega), by first | exact Nat.le_of_ble_eq_true rfl | (dsimp only; omega)⟩) rfl rfl rfl (Nat.le_of_ble_eq_true rfl) dX6_waiting_1 rfl (fun e D1 P1 hx => ⟨⟨hx.1, by unfold kView; rw [if_neg hx.2.1]⟩, hx.2.2.1 ▸ Fs_rf _, hx.2.2.2⟩) (by first | omega | exact ⟨by omega, by omega⟩) (fun D1 P1 hp1 => ?_) 
  obtain ⟨hy1, rfl, rfl⟩ := hp1
  obtain ⟨v, hv, rfl⟩ := rg3 hy1
  obtain ⟨f1, f2, f3, f4, f5, f6, f7⟩ := Rp_fld hR hv
  have f8 := (hR.2.2.2.2.1 v hv).2.2.2.2.2.2.2.1
  refine pv_aload_n (q := 5) C dX6_waiting_4 rfl rfl rfl ?_ 
  refine pg_6_0 (q := 8) C k0 tw_201 dX6_waiting_5 rfl (fun k5 => ?_) 
  refine pg_3_2 (q := 11) C k5 tw_133 dX6_waiting_8 rfl (fun k8 => ?_) 
  refine pv_iload_n (q := 12) C dX6_waiting_11 rfl rfl rfl ?_ 
  refine pv_aald_12 (q := 13) (j := v) C k8 rfl (by omega) dX6_waiting_12 rfl (fun k12 => ?_) 
  refine pv_aload_n (q := 14) C dX6_waiting_13 rfl rfl rfl ?_ 
  refine pg_6_0 (q := 17) C k0 tw_201 dX6_waiting_14 rfl (fun k14 => ?_) 
  refine pg_3_1 (q := 20) C k14 tw_131 dX6_waiting_17 rfl (fun k17 => ?_) 
  refine pv_bipush (q := 22) (v := (-99)) C dX6_waiting_20 rfl (by decide) ?_ 
  refine pv_callVi (q := 25) C hKl (c_X5_countWaitingFrom l X D P (24 + 8 + 1 + 10 * v) (24 + 4) (by assumption) (by assumption) _ (nx v) wr (hR.2.2.2.2.1 v hv).1 hR.1 (hR.2.2.2.2.1 v hv).2.2.1 (by have := hR.2.2.1; omega)) tw_476 k12 (by decide) rfl mm_X5_countWaitingFrom ⟨rfl, rfl⟩ (by rw [hKR]; exact ⟨Nat.le_of_ble_eq_true rfl, Nat.le_of_ble_eq_true rfl⟩) (by rw [hKR]; exact ⟨by first | exact Nat.le_of_ble_eq_true rfl | (dsimp only; omega), by first | exact Nat.le_of_ble_eq_true rfl | (dsimp only; omega)⟩) rfl rfl rfl (Nat.le_of_ble_eq_true rfl) dX6_waiting_22 rfl (fun r22 D22 P22 hp22 => ?_) 
  obtain ⟨rfl, rfl, rfl⟩ := hp22
  exact XK.of (pv_iret C (⟨by unfold kView; rw [if_pos hy1], by rw [ix_n (by omega)]; exact cw_all hR hv hAM, Fs_rf D, rfl⟩) (by decide) (by decide) dX6_waiting_25)
set_option maxRecDepth 100000 in
set_option maxHeartbeats 4000000 in
theorem c_X6_waitingByNumbers (l : Launch) (X : XT) (D : DT) (P : PT) (hfl : l.stackTraces = false) (M : DT) (W : Nat) (h : RI D P M W) (view : Int32) : XG l X yX6_waitingByNumbers (.code yX6_waitingByNumbers cX6_waitingByNumbers 2 (some .int) :: AW) ({ frames := 7, cells := 1, slots := 6, locals := 252 } : Room) [.ref (X.2.2 0), .int view] (qI X (fun r D' P' => (kView view) = 0 ∧ r = (wt (M 7) (ix view)) ∧ Fs D D' ∧ P = P')) (fun e D' P' => ((e = eIOE ∧ (kView view) = 1)) ∧ Fs D D' ∧ P = P') D P 1 6 := by
  refine xg_of (by decide +kernel) (Nat.le_of_ble_eq_true rfl) ?_
  intro K hKl hKR C ht0 Z
  have hfl : K.2.1.stackTraces = false := by rw [hKl]; exact hfl
  refine PV_lv (lv' := [some (.ref (X.2.2 0)), some (.int view)]) rfl ?_
  obtain ⟨⟨G, A, wr, nx, hw, hR, hT, hI, hAM⟩, ⟨s, hs5, hs3, hs0, hsj⟩, hP1, hP2, ⟨hk4, hk01, hkS⟩, n, hn60, hn9, hn1, hnk⟩ := id h
  refine pv_iload_n (q := 1) C dX6_waitingByNumbers_0 rfl rfl rfl ?_ 
  refine pv_callSvx (q := 4) C Z ht0 hKl (c_X6_requireView l X D P (hKl ▸ hfl) _) tw_460 mm_X6_requireView ⟨rfl, rfl⟩ (by rw [hKR]; exact ⟨Nat.le_of_ble_eq_true rfl, Nat.le_of_ble_eq_true rfl⟩) (by rw [hKR]; exact ⟨by first | exact Nat.le_of_ble_eq_true rfl | (dsimp only; omega), by first | exact Nat.le_of_ble_eq_true rfl | (dsimp only; omega)⟩) rfl rfl rfl (Nat.le_of_ble_eq_true rfl) dX6_waitingByNumbers_1 rfl (fun e D1 P1 hx => ⟨⟨hx.1, by unfold kView; rw [if_neg hx.2.1]⟩, hx.2.2.1 ▸ Fs_rf _, hx.2.2.2⟩) (by first | omega | exact ⟨by omega, by omega⟩) (fun D1 P1 hp1 => ?_) 
  obtain ⟨hy1, rfl, rfl⟩ := hp1
  obtain ⟨v, hv, rfl⟩ := rg3 hy1
  obtain ⟨f1, f2, f3, f4, f5, f6, f7⟩ := Rp_fld hR hv
  have f8 := (hR.2.2.2.2.1 v hv).2.2.2.2.2.2.2.1
  refine pv_aload_n (q := 5) C dX6_waitingByNumbers_4 rfl rfl rfl ?_ 
  refine pg_6_0 (q := 8) C k0 tw_201 dX6_waitingByNumbers_5 rfl (fun k5 => ?_) 
  refine pg_3_2 (q := 11) C k5 tw_133 dX6_waitingByNumbers_8 rfl (fun k8 => ?_) 
  refine pv_iload_n (q := 12) C dX6_waitingByNumbers_11 rfl rfl rfl ?_ 
  refine pv_aald_12 (q := 13) (j := v) C k8 rfl (by omega) dX6_waitingByNumbers_12 rfl (fun k12 => ?_) 
  refine pv_aload_n (q := 14) C dX6_waitingByNumbers_13 rfl rfl rfl ?_ 
  refine pg_6_0 (q := 17) C k0 tw_201 dX6_waitingByNumbers_14 rfl (fun k14 => ?_) 
  refine pg_3_1 (q := 20) C k14 tw_131 dX6_waitingByNumbers_17 rfl (fun k17 => ?_) 
  refine pv_callVi (q := 23) C hKl (c_X5_countWaiting l X D P (24 + 8 + 1 + 10 * v) (24 + 4) (by assumption) (by assumption)) tw_394 k12 (by decide) rfl mm_X5_countWaiting ⟨rfl, rfl⟩ (by rw [hKR]; exact ⟨Nat.le_of_ble_eq_true rfl, Nat.le_of_ble_eq_true rfl⟩) (by rw [hKR]; exact ⟨by first | exact Nat.le_of_ble_eq_true rfl | (dsimp only; omega), by first | exact Nat.le_of_ble_eq_true rfl | (dsimp only; omega)⟩) rfl rfl rfl (Nat.le_of_ble_eq_true rfl) dX6_waitingByNumbers_20 rfl (fun r20 D20 P20 hp20 => ?_) 
  obtain ⟨rfl, rfl, rfl⟩ := hp20
  rw [Rp_wt hR hv]
  exact XK.of (pv_iret C (⟨by unfold kView; rw [if_pos hy1], by rw [ix_n (by omega)], Fs_rf D, rfl⟩) (by decide) (by decide) dX6_waitingByNumbers_23)
set_option maxRecDepth 100000 in
set_option maxHeartbeats 4000000 in
theorem c_X6_matters (l : Launch) (X : XT) (D : DT) (P : PT) (hfl : l.stackTraces = false) (M : DT) (W : Nat) (h : RI D P M W) (view : Int32) : XG l X yX6_matters (.code yX6_matters cX6_matters 2 (some .int) :: AW) ({ frames := 7, cells := 1, slots := 6, locals := 252 } : Room) [.ref (X.2.2 0), .int view] (qI X (fun r D' P' => (kView view) = 0 ∧ r = (nI (wgt (M 7) (ix view))) ∧ Fs D D' ∧ P = P')) (fun e D' P' => ((e = eIOE ∧ (kView view) = 1)) ∧ Fs D D' ∧ P = P') D P 1 6 := by
  refine xg_of (by decide +kernel) (Nat.le_of_ble_eq_true rfl) ?_
  intro K hKl hKR C ht0 Z
  have hfl : K.2.1.stackTraces = false := by rw [hKl]; exact hfl
  refine PV_lv (lv' := [some (.ref (X.2.2 0)), some (.int view)]) rfl ?_
  obtain ⟨⟨G, A, wr, nx, hw, hR, hT, hI, hAM⟩, ⟨s, hs5, hs3, hs0, hsj⟩, hP1, hP2, ⟨hk4, hk01, hkS⟩, n, hn60, hn9, hn1, hnk⟩ := id h
  refine pv_iload_n (q := 1) C dX6_matters_0 rfl rfl rfl ?_ 
  refine pv_callSvx (q := 4) C Z ht0 hKl (c_X6_requireView l X D P (hKl ▸ hfl) _) tw_460 mm_X6_requireView ⟨rfl, rfl⟩ (by rw [hKR]; exact ⟨Nat.le_of_ble_eq_true rfl, Nat.le_of_ble_eq_true rfl⟩) (by rw [hKR]; exact ⟨by first | exact Nat.le_of_ble_eq_true rfl | (dsimp only; omega), by first | exact Nat.le_of_ble_eq_true rfl | (dsimp only; omega)⟩) rfl rfl rfl (Nat.le_of_ble_eq_true rfl) dX6_matters_1 rfl (fun e D1 P1 hx => ⟨⟨hx.1, by unfold kView; rw [if_neg hx.2.1]⟩, hx.2.2.1 ▸ Fs_rf _, hx.2.2.2⟩) (by first | omega | exact ⟨by omega, by omega⟩) (fun D1 P1 hp1 => ?_) 
  obtain ⟨hy1, rfl, rfl⟩ := hp1
  obtain ⟨v, hv, rfl⟩ := rg3 hy1
  obtain ⟨f1, f2, f3, f4, f5, f6, f7⟩ := Rp_fld hR hv
  have f8 := (hR.2.2.2.2.1 v hv).2.2.2.2.2.2.2.1
  refine pv_aload_n (q := 5) C dX6_matters_4 rfl rfl rfl ?_ 
  refine pg_6_0 (q := 8) C k0 tw_201 dX6_matters_5 rfl (fun k5 => ?_) 
  refine pg_3_2 (q := 11) C k5 tw_133 dX6_matters_8 rfl (fun k8 => ?_) 
  refine pv_iload_n (q := 12) C dX6_matters_11 rfl rfl rfl ?_ 
  refine pv_aald_12 (q := 13) (j := v) C k8 rfl (by omega) dX6_matters_12 rfl (fun k12 => ?_) 
  refine pv_aload_n (q := 14) C dX6_matters_13 rfl rfl rfl ?_ 
  refine pg_6_0 (q := 17) C k0 tw_201 dX6_matters_14 rfl (fun k14 => ?_) 
  refine pg_3_1 (q := 20) C k14 tw_131 dX6_matters_17 rfl (fun k17 => ?_) 
  refine pv_aload_n (q := 21) C dX6_matters_20 rfl rfl rfl ?_ 
  refine pg_6_0 (q := 24) C k0 tw_201 dX6_matters_21 rfl (fun k21 => ?_) 
  refine pg_3_2 (q := 27) C k21 tw_133 dX6_matters_24 rfl (fun k24 => ?_) 
  refine pv_iload_n (q := 28) C dX6_matters_27 rfl rfl rfl ?_ 
  refine pv_aald_12 (q := 29) (j := v) C k24 rfl (by omega) dX6_matters_28 rfl (fun k28 => ?_) 
  refine pg_5_1 (q := 32) C k28 tw_99 dX6_matters_29 rfl ?_ 
  rw [f1]
  refine pv_callVi (q := 35) C hKl (c_X5_countWaitingFrom l X D P (24 + 8 + 1 + 10 * v) (24 + 4) (by assumption) (by assumption) _ (nx v) wr (hR.2.2.2.2.1 v hv).1 hR.1 (hR.2.2.2.2.1 v hv).2.2.1 (by have := hR.2.2.1; omega)) tw_476 k12 (by decide) rfl mm_X5_countWaitingFrom ⟨rfl, rfl⟩ (by rw [hKR]; exact ⟨Nat.le_of_ble_eq_true rfl, Nat.le_of_ble_eq_true rfl⟩) (by rw [hKR]; exact ⟨by first | exact Nat.le_of_ble_eq_true rfl | (dsimp only; omega), by first | exact Nat.le_of_ble_eq_true rfl | (dsimp only; omega)⟩) rfl rfl rfl (Nat.le_of_ble_eq_true rfl) dX6_matters_32 rfl (fun r32 D32 P32 hp32 => ?_) 
  obtain ⟨rfl, rfl, rfl⟩ := hp32
  exact XK.of (pv_iret C (⟨by unfold kView; rw [if_pos hy1], by rw [ix_n (by omega)]; exact congrArg nI (cw_wgt hR hv), Fs_rf D, rfl⟩) (by decide) (by decide) dX6_matters_35)
set_option maxRecDepth 100000 in
set_option maxHeartbeats 4000000 in
theorem c_X6_wakesIn (l : Launch) (X : XT) (D : DT) (P : PT) (hfl : l.stackTraces = false) (M : DT) (W : Nat) (h : RI D P M W) (view : Int32) : XG l X yX6_wakesIn (.code yX6_wakesIn cX6_wakesIn 3 (some .int) :: AW) ({ frames := 7, cells := 1, slots := 6, locals := 252 } : Room) [.ref (X.2.2 0), .int view] (qI X (fun r D' P' => (kView view) = 0 ∧ r = (wks (M 7) (ix view)) ∧ Fs D D' ∧ P = P')) (fun e D' P' => ((e = eIOE ∧ (kView view) = 1)) ∧ Fs D D' ∧ P = P') D P 1 6 := by
  refine xg_of (by decide +kernel) (Nat.le_of_ble_eq_true rfl) ?_
  intro K hKl hKR C ht0 Z
  have hfl : K.2.1.stackTraces = false := by rw [hKl]; exact hfl
  refine PV_lv (lv' := [some (.ref (X.2.2 0)), some (.int view), none]) rfl ?_
  obtain ⟨⟨G, A, wr, nx, hw, hR, hT, hI, hAM⟩, ⟨s, hs5, hs3, hs0, hsj⟩, hP1, hP2, ⟨hk4, hk01, hkS⟩, n, hn60, hn9, hn1, hnk⟩ := id h
  refine pv_iload_n (q := 1) C dX6_wakesIn_0 rfl rfl rfl ?_ 
  refine pv_callSvx (q := 4) C Z ht0 hKl (c_X6_requireView l X D P (hKl ▸ hfl) _) tw_460 mm_X6_requireView ⟨rfl, rfl⟩ (by rw [hKR]; exact ⟨Nat.le_of_ble_eq_true rfl, Nat.le_of_ble_eq_true rfl⟩) (by rw [hKR]; exact ⟨by first | exact Nat.le_of_ble_eq_true rfl | (dsimp only; omega), by first | exact Nat.le_of_ble_eq_true rfl | (dsimp only; omega)⟩) rfl rfl rfl (Nat.le_of_ble_eq_true rfl) dX6_wakesIn_1 rfl (fun e D1 P1 hx => ⟨⟨hx.1, by unfold kView; rw [if_neg hx.2.1]⟩, hx.2.2.1 ▸ Fs_rf _, hx.2.2.2⟩) (by first | omega | exact ⟨by omega, by omega⟩) (fun D1 P1 hp1 => ?_) 
  obtain ⟨hy1, rfl, rfl⟩ := hp1
  obtain ⟨v, hv, rfl⟩ := rg3 hy1
  obtain ⟨f1, f2, f3, f4, f5, f6, f7⟩ := Rp_fld hR hv
  have f8 := (hR.2.2.2.2.1 v hv).2.2.2.2.2.2.2.1
  refine pv_aload_n (q := 5) C dX6_wakesIn_4 rfl rfl rfl ?_ 
  refine pg_6_0 (q := 8) C k0 tw_201 dX6_wakesIn_5 rfl (fun k5 => ?_) 
  refine pg_3_2 (q := 11) C k5 tw_133 dX6_wakesIn_8 rfl (fun k8 => ?_) 
  refine pv_iload_n (q := 12) C dX6_wakesIn_11 rfl rfl rfl ?_ 
  refine pv_aald_12 (q := 13) (j := v) C k8 rfl (by omega) dX6_wakesIn_12 rfl (fun k12 => ?_) 
  refine pv_astore_n (q := 14) C dX6_wakesIn_13 rfl rfl (Nat.le_of_ble_eq_true rfl) rfl ?_ 
  refine pv_aload_n (q := 15) C dX6_wakesIn_14 rfl rfl rfl ?_ 
  refine pg_5_4 (q := 18) C k12 tw_107 dX6_wakesIn_15 rfl ?_ 
  rw [f4]
  refine pv_if_ne (q := 21) (tgt := 23) C dX6_wakesIn_18 (by decide) rfl (fun c_18 => ?_) (fun c_18 => ?_) 
  · refine pv_iconst (q := 24) (v := 1) C dX6_wakesIn_23 rfl (by decide) ?_
    refine pv_aload_n (q := 25) C dX6_wakesIn_24 rfl rfl rfl ?_ 
    refine pg_5_3 (q := 28) C k12 tw_104 dX6_wakesIn_25 rfl ?_ 
    rw [f3]
    refine pv_aload_n (q := 29) C dX6_wakesIn_28 rfl rfl rfl ?_ 
    refine pg_5_5 (q := 32) C k12 tw_111 dX6_wakesIn_29 rfl ?_ 
    rw [f5]
    refine pv_isub (q := 33) C dX6_wakesIn_32 rfl ?_ 
    refine pv_mmax (q := 36) C tw_398 mm_max (by rw [hKR]; exact ⟨Nat.le_of_ble_eq_true rfl, Nat.le_of_ble_eq_true rfl⟩) (by rw [hKR]; first | exact ⟨Nat.le_of_ble_eq_true rfl, Nat.le_of_ble_eq_true rfl⟩ | exact ⟨by omega, by omega⟩ | (constructor <;> (dsimp only; omega))) rfl dX6_wakesIn_33 rfl ?_ 
    exact XK.of (pv_iret C (⟨by unfold kView; rw [if_pos hy1], by rw [ix_n (by omega)]; unfold wks; rw [if_pos (f8.resolve_left c_18), ← imx_wk], Fs_rf D, rfl⟩) (by decide) (by decide) dX6_wakesIn_36)
  · refine pv_iconst (q := 22) (v := 0) C dX6_wakesIn_21 rfl (by decide) ?_
    exact XK.of (pv_iret C (⟨by unfold kView; rw [if_pos hy1], by rw [ix_n (by omega)]; unfold wks; rw [if_neg (fun z => absurd (z.symm.trans c_18) (by decide))], Fs_rf D, rfl⟩) (by decide) (by decide) dX6_wakesIn_22)
set_option maxRecDepth 100000 in
set_option maxHeartbeats 4000000 in
theorem c_X6_stoppedPart (l : Launch) (X : XT) (D : DT) (P : PT) (hfl : l.stackTraces = false) (M : DT) (W : Nat) (h : RI D P M W)  : XG l X yX6_stoppedPart (.code yX6_stoppedPart cX6_stoppedPart 1 (some .int) :: AW) ({ frames := 6, cells := 1, slots := 6, locals := 216 } : Room) [.ref (X.2.2 0)] (qI X (fun r D' P' => (if M 7 183 = -1 then 1 else 0) = 0 ∧ r = (M 7 183) ∧ Fs D D' ∧ P = P')) (fun e D' P' => ((e = eISE ∧ (if M 7 183 = -1 then 1 else 0) = 1)) ∧ Fs D D' ∧ P = P') D P 1 6 := by
  refine xg_of (by decide +kernel) (Nat.le_of_ble_eq_true rfl) ?_
  intro K hKl hKR C ht0 Z
  have hfl : K.2.1.stackTraces = false := by rw [hKl]; exact hfl
  refine PV_lv (lv' := [some (.ref (X.2.2 0))]) rfl ?_
  obtain ⟨⟨G, A, wr, nx, hw, hR, hT, hI, hAM⟩, ⟨s, hs5, hs3, hs0, hsj⟩, hP1, hP2, ⟨hk4, hk01, hkS⟩, n, hn60, hn9, hn1, hnk⟩ := id h
  refine pv_aload_n (q := 1) C dX6_stoppedPart_0 rfl rfl rfl ?_ 
  refine pg_6_0 (q := 4) C k0 tw_201 dX6_stoppedPart_1 rfl (fun k1 => ?_) 
  refine pg_3_7 (q := 7) C k1 tw_143 dX6_stoppedPart_4 rfl ?_ 
  rw [hR.2.2.2.2.2 7 (by omega) (by omega)]
  refine pv_iconst (q := 8) (v := (-1)) C dX6_stoppedPart_7 rfl (by decide) ?_ 
  refine pv_icmp_ne (q := 11) (tgt := 21) C dX6_stoppedPart_8 (by decide) rfl (fun c_8 => ?_) (fun c_8 => ?_) 
  · refine pv_aload_n (q := 22) C dX6_stoppedPart_21 rfl rfl rfl ?_
    refine pg_6_0 (q := 25) C k0 tw_201 dX6_stoppedPart_22 rfl (fun k22 => ?_) 
    refine pg_3_7 (q := 28) C k22 tw_143 dX6_stoppedPart_25 rfl ?_ 
    rw [hR.2.2.2.2.2 7 (by omega) (by omega)]
    exact XK.of (pv_iret C (⟨if_neg c_8, rfl, Fs_rf D, rfl⟩) (by decide) (by decide) dX6_stoppedPart_28)
  · exact pv_throwISE (text := "the latest replay did not stop") C Z ht0 hfl (by decide +kernel) (⟨⟨rfl, if_pos c_8⟩, Fs_rf D, rfl⟩) rfl (by rw [hKR]; exact ⟨Nat.le_of_ble_eq_true rfl, Nat.le_of_ble_eq_true rfl⟩) (by rw [hKR]; first | exact ⟨Nat.le_of_ble_eq_true rfl, Nat.le_of_ble_eq_true rfl⟩ | (constructor <;> (dsimp only; omega))) ⟨by omega, by omega⟩ dX6_stoppedPart_11 dX6_stoppedPart_14 dX6_stoppedPart_15 dX6_stoppedPart_17 dX6_stoppedPart_20
set_option maxRecDepth 100000 in
set_option maxHeartbeats 4000000 in
theorem c_X6_heldBy (l : Launch) (X : XT) (D : DT) (P : PT) (hfl : l.stackTraces = false) (M : DT) (W : Nat) (h : RI D P M W) (view group : Int32) : XG l X yX6_heldBy (.code yX6_heldBy cX6_heldBy 3 (some (.object "NappingViews$Amounts")) :: AW) ({ frames := 7, cells := 2, slots := 12, locals := 252 } : Room) [.ref (X.2.2 0), .int view, .int group] (qR X (fun r D' P' => kGr view group = 0 ∧ (∃ v g, v < 3 ∧ g < 4 ∧ view = nI v ∧ group = nI g ∧  r = (24 + 8 + 1 + 10 * v + 1 + 1 + 2 * g)) ∧ D = D' ∧ P = P')) (fun e D' P' => ((e = eIOE ∧ (kGr view group) = 1)) ∧ Fs D D' ∧ P = P') D P 2 12 := by
  refine xg_of (by decide +kernel) (Nat.le_of_ble_eq_true rfl) ?_
  intro K hKl hKR C ht0 Z
  have hfl : K.2.1.stackTraces = false := by rw [hKl]; exact hfl
  refine PV_lv (lv' := [some (.ref (X.2.2 0)), some (.int view), some (.int group)]) rfl ?_
  obtain ⟨⟨G, A, wr, nx, hw, hR, hT, hI, hAM⟩, ⟨s, hs5, hs3, hs0, hsj⟩, hP1, hP2, ⟨hk4, hk01, hkS⟩, n, hn60, hn9, hn1, hnk⟩ := id h
  refine pv_iload_n (q := 1) C dX6_heldBy_0 rfl rfl rfl ?_ 
  refine pv_callSvx (q := 4) C Z ht0 hKl (c_X6_requireView l X D P (hKl ▸ hfl) _) tw_460 mm_X6_requireView ⟨rfl, rfl⟩ (by rw [hKR]; exact ⟨Nat.le_of_ble_eq_true rfl, Nat.le_of_ble_eq_true rfl⟩) (by rw [hKR]; exact ⟨by first | exact Nat.le_of_ble_eq_true rfl | (dsimp only; omega), by first | exact Nat.le_of_ble_eq_true rfl | (dsimp only; omega)⟩) rfl rfl rfl (Nat.le_of_ble_eq_true rfl) dX6_heldBy_1 rfl (fun e D1 P1 hx => ⟨⟨hx.1, by unfold kGr; rw [if_neg (fun z => hx.2.1 z.1)]⟩, hx.2.2.1 ▸ Fs_rf _, hx.2.2.2⟩) (by first | omega | exact ⟨by omega, by omega⟩) (fun D1 P1 hp1 => ?_) 
  obtain ⟨hy1, rfl, rfl⟩ := hp1
  obtain ⟨v, hv, rfl⟩ := rg3 hy1
  obtain ⟨f1, f2, f3, f4, f5, f6, f7⟩ := Rp_fld hR hv
  have f8 := (hR.2.2.2.2.1 v hv).2.2.2.2.2.2.2.1
  refine pv_iload_n (q := 5) C dX6_heldBy_4 rfl rfl rfl ?_ 
  refine pv_callSvx (q := 8) C Z ht0 hKl (c_X6_requireGroup l X D P (hKl ▸ hfl) _) tw_561 mm_X6_requireGroup ⟨rfl, rfl⟩ (by rw [hKR]; exact ⟨Nat.le_of_ble_eq_true rfl, Nat.le_of_ble_eq_true rfl⟩) (by rw [hKR]; exact ⟨by first | exact Nat.le_of_ble_eq_true rfl | (dsimp only; omega), by first | exact Nat.le_of_ble_eq_true rfl | (dsimp only; omega)⟩) rfl rfl rfl (Nat.le_of_ble_eq_true rfl) dX6_heldBy_5 rfl (fun e D1 P1 hx => ⟨⟨hx.1, by unfold kGr; rw [if_neg (fun z => hx.2.1 z.2)]⟩, hx.2.2.1 ▸ Fs_rf _, hx.2.2.2⟩) (by first | omega | exact ⟨by omega, by omega⟩) (fun D5 P5 hp5 => ?_) 
  obtain ⟨hy5, rfl, rfl⟩ := hp5
  obtain ⟨g, hg, rfl⟩ := rg4 hy5
  refine pv_aload_n (q := 9) C dX6_heldBy_8 rfl rfl rfl ?_ 
  refine pg_6_0 (q := 12) C k0 tw_201 dX6_heldBy_9 rfl (fun k9 => ?_) 
  refine pg_3_2 (q := 15) C k9 tw_133 dX6_heldBy_12 rfl (fun k12 => ?_) 
  refine pv_iload_n (q := 16) C dX6_heldBy_15 rfl rfl rfl ?_ 
  refine pv_aald_12 (q := 17) (j := v) C k12 rfl (by omega) dX6_heldBy_16 rfl (fun k16 => ?_) 
  refine pg_5_0 (q := 20) C k16 tw_97 dX6_heldBy_17 rfl (fun k17 => ?_) 
  refine pv_iload_n (q := 21) C dX6_heldBy_20 rfl rfl rfl ?_ 
  refine pv_aald_10 (q := 22) (j := g) C k17 rfl (by omega) dX6_heldBy_21 rfl (fun k21 => ?_) 
  exact XK.of (pv_aret C (⟨by unfold kGr; rw [if_pos ⟨hy1, hy5⟩], ⟨v, g, hv, hg, rfl, rfl, rfl⟩, rfl, rfl⟩) (by decide) (by decide) dX6_heldBy_22)
set_option maxRecDepth 100000 in
set_option maxHeartbeats 4000000 in
theorem c_X6_inTable (l : Launch) (X : XT) (D : DT) (P : PT) (hfl : l.stackTraces = false) (M : DT) (W : Nat) (h : RI D P M W) (view group : Int32) : XG l X yX6_inTable (.code yX6_inTable cX6_inTable 3 (some (.object "NappingViews$Amounts")) :: AW) ({ frames := 7, cells := 2, slots := 12, locals := 252 } : Room) [.ref (X.2.2 0), .int view, .int group] (qR X (fun r D' P' => kGr view group = 0 ∧ r = 4 ∧ (∃ v g, v < 3 ∧ g < 4 ∧ view = nI v ∧ group = nI g ∧  D' 4 1 = nI (TN (M 7) v g) ∧ (∀ j, j < TN (M 7) v g → D' (4 + 1) j = TF (M 7) v g j) ∧ so (D' (4 + 1)) (TN (M 7) v g)) ∧ Fs D D' ∧ P = P')) (fun e D' P' => ((e = eIOE ∧ (kGr view group) = 1)) ∧ Fs D D' ∧ P = P') D P 2 12 := by
  refine xg_of (by decide +kernel) (Nat.le_of_ble_eq_true rfl) ?_
  intro K hKl hKR C ht0 Z
  have hfl : K.2.1.stackTraces = false := by rw [hKl]; exact hfl
  refine PV_lv (lv' := [some (.ref (X.2.2 0)), some (.int view), some (.int group)]) rfl ?_
  obtain ⟨⟨G, A, wr, nx, hw, hR, hT, hI, hAM⟩, ⟨s, hs5, hs3, hs0, hsj⟩, hP1, hP2, ⟨hk4, hk01, hkS⟩, n, hn60, hn9, hn1, hnk⟩ := id h
  refine pv_iload_n (q := 1) C dX6_inTable_0 rfl rfl rfl ?_ 
  refine pv_callSvx (q := 4) C Z ht0 hKl (c_X6_requireView l X D P (hKl ▸ hfl) _) tw_460 mm_X6_requireView ⟨rfl, rfl⟩ (by rw [hKR]; exact ⟨Nat.le_of_ble_eq_true rfl, Nat.le_of_ble_eq_true rfl⟩) (by rw [hKR]; exact ⟨by first | exact Nat.le_of_ble_eq_true rfl | (dsimp only; omega), by first | exact Nat.le_of_ble_eq_true rfl | (dsimp only; omega)⟩) rfl rfl rfl (Nat.le_of_ble_eq_true rfl) dX6_inTable_1 rfl (fun e D1 P1 hx => ⟨⟨hx.1, by unfold kGr; rw [if_neg (fun z => hx.2.1 z.1)]⟩, hx.2.2.1 ▸ Fs_rf _, hx.2.2.2⟩) (by first | omega | exact ⟨by omega, by omega⟩) (fun D1 P1 hp1 => ?_) 
  obtain ⟨hy1, rfl, rfl⟩ := hp1
  obtain ⟨v, hv, rfl⟩ := rg3 hy1
  obtain ⟨f1, f2, f3, f4, f5, f6, f7⟩ := Rp_fld hR hv
  have f8 := (hR.2.2.2.2.1 v hv).2.2.2.2.2.2.2.1
  refine pv_iload_n (q := 5) C dX6_inTable_4 rfl rfl rfl ?_ 
  refine pv_callSvx (q := 8) C Z ht0 hKl (c_X6_requireGroup l X D P (hKl ▸ hfl) _) tw_561 mm_X6_requireGroup ⟨rfl, rfl⟩ (by rw [hKR]; exact ⟨Nat.le_of_ble_eq_true rfl, Nat.le_of_ble_eq_true rfl⟩) (by rw [hKR]; exact ⟨by first | exact Nat.le_of_ble_eq_true rfl | (dsimp only; omega), by first | exact Nat.le_of_ble_eq_true rfl | (dsimp only; omega)⟩) rfl rfl rfl (Nat.le_of_ble_eq_true rfl) dX6_inTable_5 rfl (fun e D1 P1 hx => ⟨⟨hx.1, by unfold kGr; rw [if_neg (fun z => hx.2.1 z.2)]⟩, hx.2.2.1 ▸ Fs_rf _, hx.2.2.2⟩) (by first | omega | exact ⟨by omega, by omega⟩) (fun D5 P5 hp5 => ?_) 
  obtain ⟨hy5, rfl, rfl⟩ := hp5
  obtain ⟨g, hg, rfl⟩ := rg4 hy5
  refine pv_aload_n (q := 9) C dX6_inTable_8 rfl rfl rfl ?_ 
  refine pg_6_6 (q := 12) C k0 tw_207 dX6_inTable_9 rfl (fun k9 => ?_) 
  refine pv_aload_n (q := 13) C dX6_inTable_12 rfl rfl rfl ?_ 
  refine pg_6_0 (q := 16) C k0 tw_201 dX6_inTable_13 rfl (fun k13 => ?_) 
  refine pg_3_0 (q := 19) C k13 tw_129 dX6_inTable_16 rfl (fun k16 => ?_) 
  refine pv_iload_n (q := 20) C dX6_inTable_19 rfl rfl rfl ?_ 
  refine pv_aload_n (q := 21) C dX6_inTable_20 rfl rfl rfl ?_ 
  refine pg_6_0 (q := 24) C k0 tw_201 dX6_inTable_21 rfl (fun k21 => ?_) 
  refine pg_3_2 (q := 27) C k21 tw_133 dX6_inTable_24 rfl (fun k24 => ?_) 
  refine pv_iload_n (q := 28) C dX6_inTable_27 rfl rfl rfl ?_ 
  refine pv_aald_12 (q := 29) (j := v) C k24 rfl (by omega) dX6_inTable_28 rfl (fun k28 => ?_) 
  refine pg_5_1 (q := 32) C k28 tw_99 dX6_inTable_29 rfl ?_ 
  rw [f1]
  refine pv_callVv (q := 35) C hKl (c_X0_takeFrom l X D P 4 (24 + 1) rfl (by assumption) _ _) tw_499 k9 (by decide) rfl mm_X0_takeFrom ⟨rfl, rfl⟩ (by rw [hKR]; exact ⟨Nat.le_of_ble_eq_true rfl, Nat.le_of_ble_eq_true rfl⟩) (by rw [hKR]; exact ⟨by first | exact Nat.le_of_ble_eq_true rfl | (dsimp only; omega), by first | exact Nat.le_of_ble_eq_true rfl | (dsimp only; omega)⟩) rfl rfl rfl (Nat.le_of_ble_eq_true rfl) dX6_inTable_32 rfl (fun D32 P32 hp32 => ?_) 
  obtain ⟨⟨f, kk, hkk, hE, hsl⟩, rfl⟩ := hp32
  refine pv_aload_n (q := 36) C dX6_inTable_35 rfl rfl rfl ?_ 
  refine pg_6_6 (q := 39) C k0 tw_207 dX6_inTable_36 rfl (fun k36 => ?_) 
  exact XK.of (pv_aret C (by
      obtain ⟨z1, z2⟩ := SL_V hg (TR_gr hT) hsl
      subst z1
      exact ⟨by unfold kGr; rw [if_pos ⟨hy1, hy5⟩], rfl, ⟨v, g, hv, hg, rfl, rfl, by rw [hE]; exact setA_c _ _ _ _, fun j hj => by rw [hE, setA_r]; exact z2 j hj, by rw [hE, setA_r]; exact hsl.1⟩, fun i hi => by rw [hE]; exact setA_o _ _ _ (by omega) (by omega), rfl⟩) (by decide) (by decide) dX6_inTable_39)
set_option maxRecDepth 100000 in
set_option maxHeartbeats 4000000 in
theorem c_X6_requireAmounts (l : Launch) (X : XT) (D : DT) (P : PT) (hfl : l.stackTraces = false) (t n : Nat) (ht : kd t = 0) (hn : D t 1 = nI n) (hn2 : n ≤ 16) : XG l X yX6_requireAmounts (.code yX6_requireAmounts cX6_requireAmounts 1 none :: AW) ({ frames := 6, cells := 1, slots := 6, locals := 216 } : Room) [.ref (X.2.2 t)] (qV X (fun D' P' => 1 ≤ n ∧ D = D' ∧ P = P')) (fun e D' P' => e = eISE ∧ n = 0 ∧ D = D' ∧ P = P') D P 1 6 := by
  refine xg_of (by decide +kernel) (Nat.le_of_ble_eq_true rfl) ?_
  intro K hKl hKR C ht0 Z
  have hfl : K.2.1.stackTraces = false := by rw [hKl]; exact hfl
  refine PV_lv (lv' := [some (.ref (X.2.2 t))]) rfl ?_
  refine pv_aload_n (q := 1) C dX6_requireAmounts_0 rfl rfl rfl ?_ 
  refine pg_0_1 (q := 4) C ht tw_90 dX6_requireAmounts_1 rfl ?_ 
  rw [hn]
  refine pv_iconst (q := 5) (v := 1) C dX6_requireAmounts_4 rfl (by decide) ?_ 
  refine pv_icmp_geN (q := 8) (tgt := 19) (a := n) (b := 1) C rfl rfl (by omega) (by omega) dX6_requireAmounts_5 (by decide) rfl (fun c_5 => ?_) (fun c_5 => ?_) 
  · exact XK.of (pv_vret C (⟨by omega, rfl, rfl⟩) (by decide) (by decide) dX6_requireAmounts_19)
  · exact pv_throwISEW (text := "the group has no amounts") C Z ht0 hfl (by decide +kernel) (⟨rfl, by omega, rfl, rfl⟩) rfl (by rw [hKR]; exact ⟨Nat.le_of_ble_eq_true rfl, Nat.le_of_ble_eq_true rfl⟩) (by rw [hKR]; first | exact ⟨Nat.le_of_ble_eq_true rfl, Nat.le_of_ble_eq_true rfl⟩ | (constructor <;> (dsimp only; omega))) ⟨by omega, by omega⟩ dX6_requireAmounts_8 dX6_requireAmounts_11 dX6_requireAmounts_12 dX6_requireAmounts_15 dX6_requireAmounts_18
set_option maxRecDepth 100000 in
set_option maxHeartbeats 4000000 in
theorem c_X6_countOf (l : Launch) (X : XT) (D : DT) (P : PT) (hfl : l.stackTraces = false) (M : DT) (W : Nat) (h : RI D P M W) (view group : Int32) : XG l X yX6_countOf (.code yX6_countOf cX6_countOf 3 (some .int) :: AW) ({ frames := 8, cells := 2, slots := 12, locals := 288 } : Room) [.ref (X.2.2 0), .int view, .int group] (qI X (fun r D' P' => (kGr view group) = 0 ∧ r = (nI (VN (M 7) (ix view) (ix group))) ∧ Fs D D' ∧ P = P')) (fun e D' P' => ((e = eIOE ∧ (kGr view group) = 1)) ∧ Fs D D' ∧ P = P') D P 2 12 := by
  refine xg_of (by decide +kernel) (Nat.le_of_ble_eq_true rfl) ?_
  intro K hKl hKR C ht0 Z
  have hfl : K.2.1.stackTraces = false := by rw [hKl]; exact hfl
  refine PV_lv (lv' := [some (.ref (X.2.2 0)), some (.int view), some (.int group)]) rfl ?_
  obtain ⟨⟨G, A, wr, nx, hw, hR, hT, hI, hAM⟩, ⟨s, hs5, hs3, hs0, hsj⟩, hP1, hP2, ⟨hk4, hk01, hkS⟩, n, hn60, hn9, hn1, hnk⟩ := id h
  refine pv_aload_n (q := 1) C dX6_countOf_0 rfl rfl rfl ?_ 
  refine pv_iload_n (q := 2) C dX6_countOf_1 rfl rfl rfl ?_ 
  refine pv_iload_n (q := 3) C dX6_countOf_2 rfl rfl rfl ?_ 
  refine pv_callVrx (q := 6) C Z ht0 hKl (c_X6_heldBy l X D P (hKl ▸ hfl) M W h _ _) tw_557 k0 (by decide) rfl mm_X6_heldBy ⟨rfl, rfl⟩ (by rw [hKR]; exact ⟨Nat.le_of_ble_eq_true rfl, Nat.le_of_ble_eq_true rfl⟩) (by rw [hKR]; exact ⟨by first | exact Nat.le_of_ble_eq_true rfl | (dsimp only; omega), by first | exact Nat.le_of_ble_eq_true rfl | (dsimp only; omega)⟩) rfl rfl rfl (Nat.le_of_ble_eq_true rfl) dX6_countOf_3 rfl (fun e D1 P1 hx => hx) (by first | omega | exact ⟨by omega, by omega⟩) (fun r3 D3 P3 hp3 => ?_) 
  obtain ⟨hK, ⟨v, g, hv, hg, rfl, rfl, rfl⟩, rfl, rfl⟩ := hp3
  have kH := kh_all v hv g hg
  obtain ⟨h1, h2, h3⟩ := held_V hR hv hg
  have hle := VN_le (M 7) v g
  refine pg_0_1 (q := 9) C kH tw_90 dX6_countOf_6 rfl ?_ 
  rw [h1]
  exact XK.of (pv_iret C (⟨hK, by rw [ix_n (by omega), ix_n (by omega)], Fs_rf D, rfl⟩) (by decide) (by decide) dX6_countOf_9)
set_option maxRecDepth 100000 in
set_option maxHeartbeats 4000000 in
theorem c_X6_sumOf (l : Launch) (X : XT) (D : DT) (P : PT) (hfl : l.stackTraces = false) (M : DT) (W : Nat) (h : RI D P M W) (view group : Int32) : XG l X yX6_sumOf (.code yX6_sumOf cX6_sumOf 3 (some .int) :: AW) ({ frames := 8, cells := 2, slots := 12, locals := 288 } : Room) [.ref (X.2.2 0), .int view, .int group] (qI X (fun r D' P' => (kGr view group) = 0 ∧ r = (sm (VF (M 7) (ix view) (ix group)) (VN (M 7) (ix view) (ix group))) ∧ Fs D D' ∧ P = P')) (fun e D' P' => ((e = eIOE ∧ (kGr view group) = 1)) ∧ Fs D D' ∧ P = P') D P 2 12 := by
  refine xg_of (by decide +kernel) (Nat.le_of_ble_eq_true rfl) ?_
  intro K hKl hKR C ht0 Z
  have hfl : K.2.1.stackTraces = false := by rw [hKl]; exact hfl
  refine PV_lv (lv' := [some (.ref (X.2.2 0)), some (.int view), some (.int group)]) rfl ?_
  obtain ⟨⟨G, A, wr, nx, hw, hR, hT, hI, hAM⟩, ⟨s, hs5, hs3, hs0, hsj⟩, hP1, hP2, ⟨hk4, hk01, hkS⟩, n, hn60, hn9, hn1, hnk⟩ := id h
  refine pv_aload_n (q := 1) C dX6_sumOf_0 rfl rfl rfl ?_ 
  refine pv_iload_n (q := 2) C dX6_sumOf_1 rfl rfl rfl ?_ 
  refine pv_iload_n (q := 3) C dX6_sumOf_2 rfl rfl rfl ?_ 
  refine pv_callVrx (q := 6) C Z ht0 hKl (c_X6_heldBy l X D P (hKl ▸ hfl) M W h _ _) tw_557 k0 (by decide) rfl mm_X6_heldBy ⟨rfl, rfl⟩ (by rw [hKR]; exact ⟨Nat.le_of_ble_eq_true rfl, Nat.le_of_ble_eq_true rfl⟩) (by rw [hKR]; exact ⟨by first | exact Nat.le_of_ble_eq_true rfl | (dsimp only; omega), by first | exact Nat.le_of_ble_eq_true rfl | (dsimp only; omega)⟩) rfl rfl rfl (Nat.le_of_ble_eq_true rfl) dX6_sumOf_3 rfl (fun e D1 P1 hx => hx) (by first | omega | exact ⟨by omega, by omega⟩) (fun r3 D3 P3 hp3 => ?_) 
  obtain ⟨hK, ⟨v, g, hv, hg, rfl, rfl, rfl⟩, rfl, rfl⟩ := hp3
  have kH := kh_all v hv g hg
  obtain ⟨h1, h2, h3⟩ := held_V hR hv hg
  have hle := VN_le (M 7) v g
  refine pv_callVi (q := 9) C hKl (c_X0_total l X D P (24 + 8 + 1 + 10 * v + 1 + 1 + 2 * g) (by assumption) (VN (M 7) v g) h1 hle) tw_569 kH (by decide) rfl mm_X0_total ⟨rfl, rfl⟩ (by rw [hKR]; exact ⟨Nat.le_of_ble_eq_true rfl, Nat.le_of_ble_eq_true rfl⟩) (by rw [hKR]; exact ⟨by first | exact Nat.le_of_ble_eq_true rfl | (dsimp only; omega), by first | exact Nat.le_of_ble_eq_true rfl | (dsimp only; omega)⟩) rfl rfl rfl (Nat.le_of_ble_eq_true rfl) dX6_sumOf_6 rfl (fun r6 D6 P6 hp6 => ?_) 
  obtain ⟨rfl, rfl, rfl⟩ := hp6
  exact XK.of (pv_iret C (⟨hK, by rw [ix_n (by omega), ix_n (by omega)]; exact sm_cong h2, Fs_rf D, rfl⟩) (by decide) (by decide) dX6_sumOf_9)
set_option maxRecDepth 100000 in
set_option maxHeartbeats 4000000 in
theorem c_X6_unlikeOf (l : Launch) (X : XT) (D : DT) (P : PT) (hfl : l.stackTraces = false) (M : DT) (W : Nat) (h : RI D P M W) (view group : Int32) : XG l X yX6_unlikeOf (.code yX6_unlikeOf cX6_unlikeOf 3 (some .int) :: AW) ({ frames := 8, cells := 2, slots := 12, locals := 288 } : Room) [.ref (X.2.2 0), .int view, .int group] (qI X (fun r D' P' => (kGr view group) = 0 ∧ r = (nI (kn (VF (M 7) (ix view) (ix group)) (VN (M 7) (ix view) (ix group)))) ∧ Fs D D' ∧ P = P')) (fun e D' P' => ((e = eIOE ∧ (kGr view group) = 1)) ∧ Fs D D' ∧ P = P') D P 2 12 := by
  refine xg_of (by decide +kernel) (Nat.le_of_ble_eq_true rfl) ?_
  intro K hKl hKR C ht0 Z
  have hfl : K.2.1.stackTraces = false := by rw [hKl]; exact hfl
  refine PV_lv (lv' := [some (.ref (X.2.2 0)), some (.int view), some (.int group)]) rfl ?_
  obtain ⟨⟨G, A, wr, nx, hw, hR, hT, hI, hAM⟩, ⟨s, hs5, hs3, hs0, hsj⟩, hP1, hP2, ⟨hk4, hk01, hkS⟩, n, hn60, hn9, hn1, hnk⟩ := id h
  refine pv_aload_n (q := 1) C dX6_unlikeOf_0 rfl rfl rfl ?_ 
  refine pv_iload_n (q := 2) C dX6_unlikeOf_1 rfl rfl rfl ?_ 
  refine pv_iload_n (q := 3) C dX6_unlikeOf_2 rfl rfl rfl ?_ 
  refine pv_callVrx (q := 6) C Z ht0 hKl (c_X6_heldBy l X D P (hKl ▸ hfl) M W h _ _) tw_557 k0 (by decide) rfl mm_X6_heldBy ⟨rfl, rfl⟩ (by rw [hKR]; exact ⟨Nat.le_of_ble_eq_true rfl, Nat.le_of_ble_eq_true rfl⟩) (by rw [hKR]; exact ⟨by first | exact Nat.le_of_ble_eq_true rfl | (dsimp only; omega), by first | exact Nat.le_of_ble_eq_true rfl | (dsimp only; omega)⟩) rfl rfl rfl (Nat.le_of_ble_eq_true rfl) dX6_unlikeOf_3 rfl (fun e D1 P1 hx => hx) (by first | omega | exact ⟨by omega, by omega⟩) (fun r3 D3 P3 hp3 => ?_) 
  obtain ⟨hK, ⟨v, g, hv, hg, rfl, rfl, rfl⟩, rfl, rfl⟩ := hp3
  have kH := kh_all v hv g hg
  obtain ⟨h1, h2, h3⟩ := held_V hR hv hg
  have hle := VN_le (M 7) v g
  refine pv_callVi (q := 9) C hKl (c_X0_countUnlike l X D P (24 + 8 + 1 + 10 * v + 1 + 1 + 2 * g) (by assumption) (VN (M 7) v g) h1 hle) tw_570 kH (by decide) rfl mm_X0_countUnlike ⟨rfl, rfl⟩ (by rw [hKR]; exact ⟨Nat.le_of_ble_eq_true rfl, Nat.le_of_ble_eq_true rfl⟩) (by rw [hKR]; exact ⟨by first | exact Nat.le_of_ble_eq_true rfl | (dsimp only; omega), by first | exact Nat.le_of_ble_eq_true rfl | (dsimp only; omega)⟩) rfl rfl rfl (Nat.le_of_ble_eq_true rfl) dX6_unlikeOf_6 rfl (fun r6 D6 P6 hp6 => ?_) 
  obtain ⟨rfl, rfl, rfl⟩ := hp6
  exact XK.of (pv_iret C (⟨hK, by rw [ix_n (by omega), ix_n (by omega)]; exact congrArg nI (kn_cong h2), Fs_rf D, rfl⟩) (by decide) (by decide) dX6_unlikeOf_9)
set_option maxRecDepth 100000 in
set_option maxHeartbeats 4000000 in
theorem c_X6_countInTable (l : Launch) (X : XT) (D : DT) (P : PT) (hfl : l.stackTraces = false) (M : DT) (W : Nat) (h : RI D P M W) (view group : Int32) : XG l X yX6_countInTable (.code yX6_countInTable cX6_countInTable 3 (some .int) :: AW) ({ frames := 8, cells := 2, slots := 12, locals := 288 } : Room) [.ref (X.2.2 0), .int view, .int group] (qI X (fun r D' P' => (kGr view group) = 0 ∧ r = (nI (TN (M 7) (ix view) (ix group))) ∧ Fs D D' ∧ P = P')) (fun e D' P' => ((e = eIOE ∧ (kGr view group) = 1)) ∧ Fs D D' ∧ P = P') D P 2 12 := by
  refine xg_of (by decide +kernel) (Nat.le_of_ble_eq_true rfl) ?_
  intro K hKl hKR C ht0 Z
  have hfl : K.2.1.stackTraces = false := by rw [hKl]; exact hfl
  refine PV_lv (lv' := [some (.ref (X.2.2 0)), some (.int view), some (.int group)]) rfl ?_
  obtain ⟨⟨G, A, wr, nx, hw, hR, hT, hI, hAM⟩, ⟨s, hs5, hs3, hs0, hsj⟩, hP1, hP2, ⟨hk4, hk01, hkS⟩, n, hn60, hn9, hn1, hnk⟩ := id h
  refine pv_aload_n (q := 1) C dX6_countInTable_0 rfl rfl rfl ?_ 
  refine pv_iload_n (q := 2) C dX6_countInTable_1 rfl rfl rfl ?_ 
  refine pv_iload_n (q := 3) C dX6_countInTable_2 rfl rfl rfl ?_ 
  refine pv_callVrx (q := 6) C Z ht0 hKl (c_X6_inTable l X D P (hKl ▸ hfl) M W h _ _) tw_565 k0 (by decide) rfl mm_X6_inTable ⟨rfl, rfl⟩ (by rw [hKR]; exact ⟨Nat.le_of_ble_eq_true rfl, Nat.le_of_ble_eq_true rfl⟩) (by rw [hKR]; exact ⟨by first | exact Nat.le_of_ble_eq_true rfl | (dsimp only; omega), by first | exact Nat.le_of_ble_eq_true rfl | (dsimp only; omega)⟩) rfl rfl rfl (Nat.le_of_ble_eq_true rfl) dX6_countInTable_3 rfl (fun e D1 P1 hx => hx) (by first | omega | exact ⟨by omega, by omega⟩) (fun r3 D3 P3 hp3 => ?_) 
  obtain ⟨hK, rfl, ⟨v, g, hv, hg, rfl, rfl, h1, h2, h3⟩, hF3, rfl⟩ := hp3
  have k4_ : kd 4 = 0 := rfl
  have hle := TN_le (M 7) v g
  refine pg_0_1 (q := 9) C k4_ tw_90 dX6_countInTable_6 rfl ?_ 
  rw [h1]
  exact XK.of (pv_iret C (⟨hK, by rw [ix_n (by omega), ix_n (by omega)], hF3, rfl⟩) (by decide) (by decide) dX6_countInTable_9)
set_option maxRecDepth 100000 in
set_option maxHeartbeats 4000000 in
theorem c_X6_sumInTable (l : Launch) (X : XT) (D : DT) (P : PT) (hfl : l.stackTraces = false) (M : DT) (W : Nat) (h : RI D P M W) (view group : Int32) : XG l X yX6_sumInTable (.code yX6_sumInTable cX6_sumInTable 3 (some .int) :: AW) ({ frames := 8, cells := 2, slots := 12, locals := 288 } : Room) [.ref (X.2.2 0), .int view, .int group] (qI X (fun r D' P' => (kGr view group) = 0 ∧ r = (sm (TF (M 7) (ix view) (ix group)) (TN (M 7) (ix view) (ix group))) ∧ Fs D D' ∧ P = P')) (fun e D' P' => ((e = eIOE ∧ (kGr view group) = 1)) ∧ Fs D D' ∧ P = P') D P 2 12 := by
  refine xg_of (by decide +kernel) (Nat.le_of_ble_eq_true rfl) ?_
  intro K hKl hKR C ht0 Z
  have hfl : K.2.1.stackTraces = false := by rw [hKl]; exact hfl
  refine PV_lv (lv' := [some (.ref (X.2.2 0)), some (.int view), some (.int group)]) rfl ?_
  obtain ⟨⟨G, A, wr, nx, hw, hR, hT, hI, hAM⟩, ⟨s, hs5, hs3, hs0, hsj⟩, hP1, hP2, ⟨hk4, hk01, hkS⟩, n, hn60, hn9, hn1, hnk⟩ := id h
  refine pv_aload_n (q := 1) C dX6_sumInTable_0 rfl rfl rfl ?_ 
  refine pv_iload_n (q := 2) C dX6_sumInTable_1 rfl rfl rfl ?_ 
  refine pv_iload_n (q := 3) C dX6_sumInTable_2 rfl rfl rfl ?_ 
  refine pv_callVrx (q := 6) C Z ht0 hKl (c_X6_inTable l X D P (hKl ▸ hfl) M W h _ _) tw_565 k0 (by decide) rfl mm_X6_inTable ⟨rfl, rfl⟩ (by rw [hKR]; exact ⟨Nat.le_of_ble_eq_true rfl, Nat.le_of_ble_eq_true rfl⟩) (by rw [hKR]; exact ⟨by first | exact Nat.le_of_ble_eq_true rfl | (dsimp only; omega), by first | exact Nat.le_of_ble_eq_true rfl | (dsimp only; omega)⟩) rfl rfl rfl (Nat.le_of_ble_eq_true rfl) dX6_sumInTable_3 rfl (fun e D1 P1 hx => hx) (by first | omega | exact ⟨by omega, by omega⟩) (fun r3 D3 P3 hp3 => ?_) 
  obtain ⟨hK, rfl, ⟨v, g, hv, hg, rfl, rfl, h1, h2, h3⟩, hF3, rfl⟩ := hp3
  have k4_ : kd 4 = 0 := rfl
  have hle := TN_le (M 7) v g
  refine pv_callVi (q := 9) C hKl (c_X0_total l X D3 P 4 (by assumption) (TN (M 7) v g) h1 hle) tw_569 k4_ (by decide) rfl mm_X0_total ⟨rfl, rfl⟩ (by rw [hKR]; exact ⟨Nat.le_of_ble_eq_true rfl, Nat.le_of_ble_eq_true rfl⟩) (by rw [hKR]; exact ⟨by first | exact Nat.le_of_ble_eq_true rfl | (dsimp only; omega), by first | exact Nat.le_of_ble_eq_true rfl | (dsimp only; omega)⟩) rfl rfl rfl (Nat.le_of_ble_eq_true rfl) dX6_sumInTable_6 rfl (fun r6 D6 P6 hp6 => ?_) 
  obtain ⟨rfl, rfl, rfl⟩ := hp6
  exact XK.of (pv_iret C (⟨hK, by rw [ix_n (by omega), ix_n (by omega)]; exact sm_cong h2, hF3, rfl⟩) (by decide) (by decide) dX6_sumInTable_9)
set_option maxRecDepth 100000 in
set_option maxHeartbeats 4000000 in
theorem c_X6_leastOf (l : Launch) (X : XT) (D : DT) (P : PT) (hfl : l.stackTraces = false) (M : DT) (W : Nat) (h : RI D P M W) (view group : Int32) : XG l X yX6_leastOf (.code yX6_leastOf cX6_leastOf 4 (some .int) :: AW) ({ frames := 8, cells := 3, slots := 18, locals := 288 } : Room) [.ref (X.2.2 0), .int view, .int group] (qI X (fun r D' P' => (kAm (M 7) view group) = 0 ∧ r = (at0 (VF (M 7) (ix view) (ix group)) (VN (M 7) (ix view) (ix group)) (0)) ∧ Fs D D' ∧ P = P')) (fun e D' P' => ((e = eIOE ∧ (kAm (M 7) view group) = 1) ∨ (e = eISE ∧ (kAm (M 7) view group) = 2)) ∧ Fs D D' ∧ P = P') D P 3 18 := by
  refine xg_of (by decide +kernel) (Nat.le_of_ble_eq_true rfl) ?_
  intro K hKl hKR C ht0 Z
  have hfl : K.2.1.stackTraces = false := by rw [hKl]; exact hfl
  refine PV_lv (lv' := [some (.ref (X.2.2 0)), some (.int view), some (.int group), none]) rfl ?_
  obtain ⟨⟨G, A, wr, nx, hw, hR, hT, hI, hAM⟩, ⟨s, hs5, hs3, hs0, hsj⟩, hP1, hP2, ⟨hk4, hk01, hkS⟩, n, hn60, hn9, hn1, hnk⟩ := id h
  refine pv_aload_n (q := 1) C dX6_leastOf_0 rfl rfl rfl ?_ 
  refine pv_iload_n (q := 2) C dX6_leastOf_1 rfl rfl rfl ?_ 
  refine pv_iload_n (q := 3) C dX6_leastOf_2 rfl rfl rfl ?_ 
  refine pv_callVrx (q := 6) C Z ht0 hKl (c_X6_heldBy l X D P (hKl ▸ hfl) M W h _ _) tw_557 k0 (by decide) rfl mm_X6_heldBy ⟨rfl, rfl⟩ (by rw [hKR]; exact ⟨Nat.le_of_ble_eq_true rfl, Nat.le_of_ble_eq_true rfl⟩) (by rw [hKR]; exact ⟨by first | exact Nat.le_of_ble_eq_true rfl | (dsimp only; omega), by first | exact Nat.le_of_ble_eq_true rfl | (dsimp only; omega)⟩) rfl rfl rfl (Nat.le_of_ble_eq_true rfl) dX6_leastOf_3 rfl (fun e D1 P1 hx => ⟨Or.inl ⟨hx.1.1, kAm_gr hx.1.2⟩, hx.2.1, hx.2.2⟩) (by first | omega | exact ⟨by omega, by omega⟩) (fun r3 D3 P3 hp3 => ?_) 
  obtain ⟨hK, ⟨v, g, hv, hg, rfl, rfl, rfl⟩, rfl, rfl⟩ := hp3
  have kH := kh_all v hv g hg
  obtain ⟨h1, h2, h3⟩ := held_V hR hv hg
  have hle := VN_le (M 7) v g
  refine pv_astore_n (q := 7) C dX6_leastOf_6 rfl rfl (Nat.le_of_ble_eq_true rfl) rfl ?_ 
  refine pv_aload_n (q := 8) C dX6_leastOf_7 rfl rfl rfl ?_ 
  refine pv_callSvx (q := 11) C Z ht0 hKl (c_X6_requireAmounts l X D P (hKl ▸ hfl) (24 + 8 + 1 + 10 * v + 1 + 1 + 2 * g) (VN (M 7) v g) (by assumption) h1 hle) tw_858 mm_X6_requireAmounts ⟨rfl, rfl⟩ (by rw [hKR]; exact ⟨Nat.le_of_ble_eq_true rfl, Nat.le_of_ble_eq_true rfl⟩) (by rw [hKR]; exact ⟨by first | exact Nat.le_of_ble_eq_true rfl | (dsimp only; omega), by first | exact Nat.le_of_ble_eq_true rfl | (dsimp only; omega)⟩) rfl rfl rfl (Nat.le_of_ble_eq_true rfl) dX6_leastOf_8 rfl (fun e D1 P1 hx => ⟨Or.inr ⟨hx.1, kAm_0 hK hv hg hx.2.1⟩, hx.2.2.1 ▸ Fs_rf _, hx.2.2.2⟩) (by first | omega | exact ⟨by omega, by omega⟩) (fun D8 P8 hp8 => ?_) 
  obtain ⟨hge, rfl, rfl⟩ := hp8
  refine pv_aload_n (q := 12) C dX6_leastOf_11 rfl rfl rfl ?_ 
  refine pv_callVi (q := 15) C hKl (c_X0_first l X D P (24 + 8 + 1 + 10 * v + 1 + 1 + 2 * g) (by assumption) (VN (M 7) v g) h1 hle) tw_575 kH (by decide) rfl mm_X0_first ⟨rfl, rfl⟩ (by rw [hKR]; exact ⟨Nat.le_of_ble_eq_true rfl, Nat.le_of_ble_eq_true rfl⟩) (by rw [hKR]; exact ⟨by first | exact Nat.le_of_ble_eq_true rfl | (dsimp only; omega), by first | exact Nat.le_of_ble_eq_true rfl | (dsimp only; omega)⟩) rfl rfl rfl (Nat.le_of_ble_eq_true rfl) dX6_leastOf_12 rfl (fun r12 D12 P12 hp12 => ?_) 
  obtain ⟨rfl, rfl, rfl⟩ := hp12
  exact XK.of (pv_iret C (⟨kAm_1 hK hv hg hge, by rw [ix_n (by omega), ix_n (by omega)]; unfold at0; rw [if_neg (by omega), if_neg (by omega)]; exact h2 _ (by omega), Fs_rf D, rfl⟩) (by decide) (by decide) dX6_leastOf_15)
set_option maxRecDepth 100000 in
set_option maxHeartbeats 4000000 in
theorem c_X6_greatestOf (l : Launch) (X : XT) (D : DT) (P : PT) (hfl : l.stackTraces = false) (M : DT) (W : Nat) (h : RI D P M W) (view group : Int32) : XG l X yX6_greatestOf (.code yX6_greatestOf cX6_greatestOf 4 (some .int) :: AW) ({ frames := 8, cells := 3, slots := 18, locals := 288 } : Room) [.ref (X.2.2 0), .int view, .int group] (qI X (fun r D' P' => (kAm (M 7) view group) = 0 ∧ r = (at0 (VF (M 7) (ix view) (ix group)) (VN (M 7) (ix view) (ix group)) (VN (M 7) (ix view) (ix group) - 1)) ∧ Fs D D' ∧ P = P')) (fun e D' P' => ((e = eIOE ∧ (kAm (M 7) view group) = 1) ∨ (e = eISE ∧ (kAm (M 7) view group) = 2)) ∧ Fs D D' ∧ P = P') D P 3 18 := by
  refine xg_of (by decide +kernel) (Nat.le_of_ble_eq_true rfl) ?_
  intro K hKl hKR C ht0 Z
  have hfl : K.2.1.stackTraces = false := by rw [hKl]; exact hfl
  refine PV_lv (lv' := [some (.ref (X.2.2 0)), some (.int view), some (.int group), none]) rfl ?_
  obtain ⟨⟨G, A, wr, nx, hw, hR, hT, hI, hAM⟩, ⟨s, hs5, hs3, hs0, hsj⟩, hP1, hP2, ⟨hk4, hk01, hkS⟩, n, hn60, hn9, hn1, hnk⟩ := id h
  refine pv_aload_n (q := 1) C dX6_greatestOf_0 rfl rfl rfl ?_ 
  refine pv_iload_n (q := 2) C dX6_greatestOf_1 rfl rfl rfl ?_ 
  refine pv_iload_n (q := 3) C dX6_greatestOf_2 rfl rfl rfl ?_ 
  refine pv_callVrx (q := 6) C Z ht0 hKl (c_X6_heldBy l X D P (hKl ▸ hfl) M W h _ _) tw_557 k0 (by decide) rfl mm_X6_heldBy ⟨rfl, rfl⟩ (by rw [hKR]; exact ⟨Nat.le_of_ble_eq_true rfl, Nat.le_of_ble_eq_true rfl⟩) (by rw [hKR]; exact ⟨by first | exact Nat.le_of_ble_eq_true rfl | (dsimp only; omega), by first | exact Nat.le_of_ble_eq_true rfl | (dsimp only; omega)⟩) rfl rfl rfl (Nat.le_of_ble_eq_true rfl) dX6_greatestOf_3 rfl (fun e D1 P1 hx => ⟨Or.inl ⟨hx.1.1, kAm_gr hx.1.2⟩, hx.2.1, hx.2.2⟩) (by first | omega | exact ⟨by omega, by omega⟩) (fun r3 D3 P3 hp3 => ?_) 
  obtain ⟨hK, ⟨v, g, hv, hg, rfl, rfl, rfl⟩, rfl, rfl⟩ := hp3
  have kH := kh_all v hv g hg
  obtain ⟨h1, h2, h3⟩ := held_V hR hv hg
  have hle := VN_le (M 7) v g
  refine pv_astore_n (q := 7) C dX6_greatestOf_6 rfl rfl (Nat.le_of_ble_eq_true rfl) rfl ?_ 
  refine pv_aload_n (q := 8) C dX6_greatestOf_7 rfl rfl rfl ?_ 
  refine pv_callSvx (q := 11) C Z ht0 hKl (c_X6_requireAmounts l X D P (hKl ▸ hfl) (24 + 8 + 1 + 10 * v + 1 + 1 + 2 * g) (VN (M 7) v g) (by assumption) h1 hle) tw_858 mm_X6_requireAmounts ⟨rfl, rfl⟩ (by rw [hKR]; exact ⟨Nat.le_of_ble_eq_true rfl, Nat.le_of_ble_eq_true rfl⟩) (by rw [hKR]; exact ⟨by first | exact Nat.le_of_ble_eq_true rfl | (dsimp only; omega), by first | exact Nat.le_of_ble_eq_true rfl | (dsimp only; omega)⟩) rfl rfl rfl (Nat.le_of_ble_eq_true rfl) dX6_greatestOf_8 rfl (fun e D1 P1 hx => ⟨Or.inr ⟨hx.1, kAm_0 hK hv hg hx.2.1⟩, hx.2.2.1 ▸ Fs_rf _, hx.2.2.2⟩) (by first | omega | exact ⟨by omega, by omega⟩) (fun D8 P8 hp8 => ?_) 
  obtain ⟨hge, rfl, rfl⟩ := hp8
  refine pv_aload_n (q := 12) C dX6_greatestOf_11 rfl rfl rfl ?_ 
  refine pv_callVi (q := 15) C hKl (c_X0_last l X D P (24 + 8 + 1 + 10 * v + 1 + 1 + 2 * g) (by assumption) (VN (M 7) v g) h1 hle) tw_576 kH (by decide) rfl mm_X0_last ⟨rfl, rfl⟩ (by rw [hKR]; exact ⟨Nat.le_of_ble_eq_true rfl, Nat.le_of_ble_eq_true rfl⟩) (by rw [hKR]; exact ⟨by first | exact Nat.le_of_ble_eq_true rfl | (dsimp only; omega), by first | exact Nat.le_of_ble_eq_true rfl | (dsimp only; omega)⟩) rfl rfl rfl (Nat.le_of_ble_eq_true rfl) dX6_greatestOf_12 rfl (fun r12 D12 P12 hp12 => ?_) 
  obtain ⟨rfl, rfl, rfl⟩ := hp12
  exact XK.of (pv_iret C (⟨kAm_1 hK hv hg hge, by rw [ix_n (by omega), ix_n (by omega)]; unfold at0; rw [if_neg (by omega), if_neg (by omega)]; exact h2 _ (by omega), Fs_rf D, rfl⟩) (by decide) (by decide) dX6_greatestOf_15)
set_option maxRecDepth 100000 in
set_option maxHeartbeats 4000000 in
theorem c_X6_medianOf (l : Launch) (X : XT) (D : DT) (P : PT) (hfl : l.stackTraces = false) (M : DT) (W : Nat) (h : RI D P M W) (view group : Int32) : XG l X yX6_medianOf (.code yX6_medianOf cX6_medianOf 4 (some .int) :: AW) ({ frames := 8, cells := 3, slots := 18, locals := 288 } : Room) [.ref (X.2.2 0), .int view, .int group] (qI X (fun r D' P' => (kAm (M 7) view group) = 0 ∧ r = (at0 (VF (M 7) (ix view) (ix group)) (VN (M 7) (ix view) (ix group)) ((VN (M 7) (ix view) (ix group) - 1) / 2)) ∧ Fs D D' ∧ P = P')) (fun e D' P' => ((e = eIOE ∧ (kAm (M 7) view group) = 1) ∨ (e = eISE ∧ (kAm (M 7) view group) = 2)) ∧ Fs D D' ∧ P = P') D P 3 18 := by
  refine xg_of (by decide +kernel) (Nat.le_of_ble_eq_true rfl) ?_
  intro K hKl hKR C ht0 Z
  have hfl : K.2.1.stackTraces = false := by rw [hKl]; exact hfl
  refine PV_lv (lv' := [some (.ref (X.2.2 0)), some (.int view), some (.int group), none]) rfl ?_
  obtain ⟨⟨G, A, wr, nx, hw, hR, hT, hI, hAM⟩, ⟨s, hs5, hs3, hs0, hsj⟩, hP1, hP2, ⟨hk4, hk01, hkS⟩, n, hn60, hn9, hn1, hnk⟩ := id h
  refine pv_aload_n (q := 1) C dX6_medianOf_0 rfl rfl rfl ?_ 
  refine pv_iload_n (q := 2) C dX6_medianOf_1 rfl rfl rfl ?_ 
  refine pv_iload_n (q := 3) C dX6_medianOf_2 rfl rfl rfl ?_ 
  refine pv_callVrx (q := 6) C Z ht0 hKl (c_X6_heldBy l X D P (hKl ▸ hfl) M W h _ _) tw_557 k0 (by decide) rfl mm_X6_heldBy ⟨rfl, rfl⟩ (by rw [hKR]; exact ⟨Nat.le_of_ble_eq_true rfl, Nat.le_of_ble_eq_true rfl⟩) (by rw [hKR]; exact ⟨by first | exact Nat.le_of_ble_eq_true rfl | (dsimp only; omega), by first | exact Nat.le_of_ble_eq_true rfl | (dsimp only; omega)⟩) rfl rfl rfl (Nat.le_of_ble_eq_true rfl) dX6_medianOf_3 rfl (fun e D1 P1 hx => ⟨Or.inl ⟨hx.1.1, kAm_gr hx.1.2⟩, hx.2.1, hx.2.2⟩) (by first | omega | exact ⟨by omega, by omega⟩) (fun r3 D3 P3 hp3 => ?_) 
  obtain ⟨hK, ⟨v, g, hv, hg, rfl, rfl, rfl⟩, rfl, rfl⟩ := hp3
  have kH := kh_all v hv g hg
  obtain ⟨h1, h2, h3⟩ := held_V hR hv hg
  have hle := VN_le (M 7) v g
  refine pv_astore_n (q := 7) C dX6_medianOf_6 rfl rfl (Nat.le_of_ble_eq_true rfl) rfl ?_ 
  refine pv_aload_n (q := 8) C dX6_medianOf_7 rfl rfl rfl ?_ 
  refine pv_callSvx (q := 11) C Z ht0 hKl (c_X6_requireAmounts l X D P (hKl ▸ hfl) (24 + 8 + 1 + 10 * v + 1 + 1 + 2 * g) (VN (M 7) v g) (by assumption) h1 hle) tw_858 mm_X6_requireAmounts ⟨rfl, rfl⟩ (by rw [hKR]; exact ⟨Nat.le_of_ble_eq_true rfl, Nat.le_of_ble_eq_true rfl⟩) (by rw [hKR]; exact ⟨by first | exact Nat.le_of_ble_eq_true rfl | (dsimp only; omega), by first | exact Nat.le_of_ble_eq_true rfl | (dsimp only; omega)⟩) rfl rfl rfl (Nat.le_of_ble_eq_true rfl) dX6_medianOf_8 rfl (fun e D1 P1 hx => ⟨Or.inr ⟨hx.1, kAm_0 hK hv hg hx.2.1⟩, hx.2.2.1 ▸ Fs_rf _, hx.2.2.2⟩) (by first | omega | exact ⟨by omega, by omega⟩) (fun D8 P8 hp8 => ?_) 
  obtain ⟨hge, rfl, rfl⟩ := hp8
  refine pv_aload_n (q := 12) C dX6_medianOf_11 rfl rfl rfl ?_ 
  refine pv_callVi (q := 15) C hKl (c_X0_middle l X D P (24 + 8 + 1 + 10 * v + 1 + 1 + 2 * g) (by assumption) (VN (M 7) v g) h1 hle) tw_577 kH (by decide) rfl mm_X0_middle ⟨rfl, rfl⟩ (by rw [hKR]; exact ⟨Nat.le_of_ble_eq_true rfl, Nat.le_of_ble_eq_true rfl⟩) (by rw [hKR]; exact ⟨by first | exact Nat.le_of_ble_eq_true rfl | (dsimp only; omega), by first | exact Nat.le_of_ble_eq_true rfl | (dsimp only; omega)⟩) rfl rfl rfl (Nat.le_of_ble_eq_true rfl) dX6_medianOf_12 rfl (fun r12 D12 P12 hp12 => ?_) 
  obtain ⟨rfl, rfl, rfl⟩ := hp12
  exact XK.of (pv_iret C (⟨kAm_1 hK hv hg hge, by rw [ix_n (by omega), ix_n (by omega)]; unfold at0; rw [if_neg (by omega), if_neg (by omega)]; exact h2 _ (by omega), Fs_rf D, rfl⟩) (by decide) (by decide) dX6_medianOf_15)
set_option maxRecDepth 100000 in
set_option maxHeartbeats 4000000 in
theorem c_X6_medianInTable (l : Launch) (X : XT) (D : DT) (P : PT) (hfl : l.stackTraces = false) (M : DT) (W : Nat) (h : RI D P M W) (view group : Int32) : XG l X yX6_medianInTable (.code yX6_medianInTable cX6_medianInTable 4 (some .int) :: AW) ({ frames := 8, cells := 3, slots := 18, locals := 288 } : Room) [.ref (X.2.2 0), .int view, .int group] (qI X (fun r D' P' => (kAt (M 7) view group) = 0 ∧ r = (at0 (TF (M 7) (ix view) (ix group)) (TN (M 7) (ix view) (ix group)) ((TN (M 7) (ix view) (ix group) - 1) / 2)) ∧ Fs D D' ∧ P = P')) (fun e D' P' => ((e = eIOE ∧ (kAt (M 7) view group) = 1) ∨ (e = eISE ∧ (kAt (M 7) view group) = 2)) ∧ Fs D D' ∧ P = P') D P 3 18 := by
  refine xg_of (by decide +kernel) (Nat.le_of_ble_eq_true rfl) ?_
  intro K hKl hKR C ht0 Z
  have hfl : K.2.1.stackTraces = false := by rw [hKl]; exact hfl
  refine PV_lv (lv' := [some (.ref (X.2.2 0)), some (.int view), some (.int group), none]) rfl ?_
  obtain ⟨⟨G, A, wr, nx, hw, hR, hT, hI, hAM⟩, ⟨s, hs5, hs3, hs0, hsj⟩, hP1, hP2, ⟨hk4, hk01, hkS⟩, n, hn60, hn9, hn1, hnk⟩ := id h
  refine pv_aload_n (q := 1) C dX6_medianInTable_0 rfl rfl rfl ?_ 
  refine pv_iload_n (q := 2) C dX6_medianInTable_1 rfl rfl rfl ?_ 
  refine pv_iload_n (q := 3) C dX6_medianInTable_2 rfl rfl rfl ?_ 
  refine pv_callVrx (q := 6) C Z ht0 hKl (c_X6_inTable l X D P (hKl ▸ hfl) M W h _ _) tw_565 k0 (by decide) rfl mm_X6_inTable ⟨rfl, rfl⟩ (by rw [hKR]; exact ⟨Nat.le_of_ble_eq_true rfl, Nat.le_of_ble_eq_true rfl⟩) (by rw [hKR]; exact ⟨by first | exact Nat.le_of_ble_eq_true rfl | (dsimp only; omega), by first | exact Nat.le_of_ble_eq_true rfl | (dsimp only; omega)⟩) rfl rfl rfl (Nat.le_of_ble_eq_true rfl) dX6_medianInTable_3 rfl (fun e D1 P1 hx => ⟨Or.inl ⟨hx.1.1, kAt_gr hx.1.2⟩, hx.2.1, hx.2.2⟩) (by first | omega | exact ⟨by omega, by omega⟩) (fun r3 D3 P3 hp3 => ?_) 
  obtain ⟨hK, rfl, ⟨v, g, hv, hg, rfl, rfl, h1, h2, h3⟩, hF3, rfl⟩ := hp3
  have k4_ : kd 4 = 0 := rfl
  have hle := TN_le (M 7) v g
  refine pv_astore_n (q := 7) C dX6_medianInTable_6 rfl rfl (Nat.le_of_ble_eq_true rfl) rfl ?_ 
  refine pv_aload_n (q := 8) C dX6_medianInTable_7 rfl rfl rfl ?_ 
  refine pv_callSvx (q := 11) C Z ht0 hKl (c_X6_requireAmounts l X D3 P (hKl ▸ hfl) 4 (TN (M 7) v g) (by assumption) h1 hle) tw_858 mm_X6_requireAmounts ⟨rfl, rfl⟩ (by rw [hKR]; exact ⟨Nat.le_of_ble_eq_true rfl, Nat.le_of_ble_eq_true rfl⟩) (by rw [hKR]; exact ⟨by first | exact Nat.le_of_ble_eq_true rfl | (dsimp only; omega), by first | exact Nat.le_of_ble_eq_true rfl | (dsimp only; omega)⟩) rfl rfl rfl (Nat.le_of_ble_eq_true rfl) dX6_medianInTable_8 rfl (fun e D1 P1 hx => ⟨Or.inr ⟨hx.1, kAt_0 hK hv hg hx.2.1⟩, hx.2.2.1 ▸ hF3, hx.2.2.2⟩) (by first | omega | exact ⟨by omega, by omega⟩) (fun D8 P8 hp8 => ?_) 
  obtain ⟨hge, rfl, rfl⟩ := hp8
  refine pv_aload_n (q := 12) C dX6_medianInTable_11 rfl rfl rfl ?_ 
  refine pv_callVi (q := 15) C hKl (c_X0_middle l X D3 P 4 (by assumption) (TN (M 7) v g) h1 hle) tw_577 k4_ (by decide) rfl mm_X0_middle ⟨rfl, rfl⟩ (by rw [hKR]; exact ⟨Nat.le_of_ble_eq_true rfl, Nat.le_of_ble_eq_true rfl⟩) (by rw [hKR]; exact ⟨by first | exact Nat.le_of_ble_eq_true rfl | (dsimp only; omega), by first | exact Nat.le_of_ble_eq_true rfl | (dsimp only; omega)⟩) rfl rfl rfl (Nat.le_of_ble_eq_true rfl) dX6_medianInTable_12 rfl (fun r12 D12 P12 hp12 => ?_) 
  obtain ⟨rfl, rfl, rfl⟩ := hp12
  exact XK.of (pv_iret C (⟨kAt_1 hK hv hg hge, by rw [ix_n (by omega), ix_n (by omega)]; unfold at0; rw [if_neg (by omega), if_neg (by omega)]; exact h2 _ (by omega), hF3, rfl⟩) (by decide) (by decide) dX6_medianInTable_15)
set_option maxRecDepth 100000 in
set_option maxHeartbeats 4000000 in
theorem c_X6_rankOf (l : Launch) (X : XT) (D : DT) (P : PT) (hfl : l.stackTraces = false) (M : DT) (W : Nat) (h : RI D P M W) (view group amount : Int32) : XG l X yX6_rankOf (.code yX6_rankOf cX6_rankOf 5 (some .int) :: AW) ({ frames := 8, cells := 3, slots := 18, locals := 288 } : Room) [.ref (X.2.2 0), .int view, .int group, .int amount] (qI X (fun r D' P' => (kRk view group amount) = 0 ∧ r = (nI (bl (VF (M 7) (ix view) (ix group)) (VN (M 7) (ix view) (ix group)) amount)) ∧ Fs D D' ∧ P = P')) (fun e D' P' => ((e = eIOE ∧ (kRk view group amount) = 1) ∨ (e = eIAE ∧ (kRk view group amount) = 2)) ∧ Fs D D' ∧ P = P') D P 3 18 := by
  refine xg_of (by decide +kernel) (Nat.le_of_ble_eq_true rfl) ?_
  intro K hKl hKR C ht0 Z
  have hfl : K.2.1.stackTraces = false := by rw [hKl]; exact hfl
  refine PV_lv (lv' := [some (.ref (X.2.2 0)), some (.int view), some (.int group), some (.int amount), none]) rfl ?_
  obtain ⟨⟨G, A, wr, nx, hw, hR, hT, hI, hAM⟩, ⟨s, hs5, hs3, hs0, hsj⟩, hP1, hP2, ⟨hk4, hk01, hkS⟩, n, hn60, hn9, hn1, hnk⟩ := id h
  refine pv_aload_n (q := 1) C dX6_rankOf_0 rfl rfl rfl ?_ 
  refine pv_iload_n (q := 2) C dX6_rankOf_1 rfl rfl rfl ?_ 
  refine pv_iload_n (q := 3) C dX6_rankOf_2 rfl rfl rfl ?_ 
  refine pv_callVrx (q := 6) C Z ht0 hKl (c_X6_heldBy l X D P (hKl ▸ hfl) M W h _ _) tw_557 k0 (by decide) rfl mm_X6_heldBy ⟨rfl, rfl⟩ (by rw [hKR]; exact ⟨Nat.le_of_ble_eq_true rfl, Nat.le_of_ble_eq_true rfl⟩) (by rw [hKR]; exact ⟨by first | exact Nat.le_of_ble_eq_true rfl | (dsimp only; omega), by first | exact Nat.le_of_ble_eq_true rfl | (dsimp only; omega)⟩) rfl rfl rfl (Nat.le_of_ble_eq_true rfl) dX6_rankOf_3 rfl (fun e D1 P1 hx => ⟨Or.inl ⟨hx.1.1, kRk_gr hx.1.2⟩, hx.2.1, hx.2.2⟩) (by first | omega | exact ⟨by omega, by omega⟩) (fun r3 D3 P3 hp3 => ?_) 
  obtain ⟨hK, ⟨v, g, hv, hg, rfl, rfl, rfl⟩, rfl, rfl⟩ := hp3
  have kH := kh_all v hv g hg
  obtain ⟨h1, h2, h3⟩ := held_V hR hv hg
  have hle := VN_le (M 7) v g
  refine pv_astore (q := 8) C dX6_rankOf_6 rfl (Nat.le_of_ble_eq_true rfl) rfl ?_ 
  refine pv_iload_n (q := 9) C dX6_rankOf_8 rfl rfl rfl ?_ 
  refine pv_callSvx (q := 12) C Z ht0 hKl (c_X6_requireAmount l X D P (hKl ▸ hfl) _) tw_607 mm_X6_requireAmount ⟨rfl, rfl⟩ (by rw [hKR]; exact ⟨Nat.le_of_ble_eq_true rfl, Nat.le_of_ble_eq_true rfl⟩) (by rw [hKR]; exact ⟨by first | exact Nat.le_of_ble_eq_true rfl | (dsimp only; omega), by first | exact Nat.le_of_ble_eq_true rfl | (dsimp only; omega)⟩) rfl rfl rfl (Nat.le_of_ble_eq_true rfl) dX6_rankOf_9 rfl (fun e D1 P1 hx => ⟨Or.inr ⟨hx.1, kRk_2 hK hx.2.1⟩, hx.2.2.1 ▸ Fs_rf _, hx.2.2.2⟩) (by first | omega | exact ⟨by omega, by omega⟩) (fun D9 P9 hp9 => ?_) 
  obtain ⟨hy9, rfl, rfl⟩ := hp9
  refine pv_aload (q := 14) C dX6_rankOf_12 rfl rfl ?_ 
  refine pv_iload_n (q := 15) C dX6_rankOf_14 rfl rfl rfl ?_ 
  refine pv_callVi (q := 18) C hKl (c_X0_countBelow l X D P (24 + 8 + 1 + 10 * v + 1 + 1 + 2 * g) (by assumption) (VN (M 7) v g) h1 hle _) tw_571 kH (by decide) rfl mm_X0_countBelow ⟨rfl, rfl⟩ (by rw [hKR]; exact ⟨Nat.le_of_ble_eq_true rfl, Nat.le_of_ble_eq_true rfl⟩) (by rw [hKR]; exact ⟨by first | exact Nat.le_of_ble_eq_true rfl | (dsimp only; omega), by first | exact Nat.le_of_ble_eq_true rfl | (dsimp only; omega)⟩) rfl rfl rfl (Nat.le_of_ble_eq_true rfl) dX6_rankOf_15 rfl (fun r15 D15 P15 hp15 => ?_) 
  obtain ⟨⟨kb, rfl, hfb⟩, rfl, rfl⟩ := hp15
  exact XK.of (pv_iret C (⟨kRk_0 hK hy9, by rw [ix_n (by omega), ix_n (by omega)]; exact fb_V h3 hfb h2, Fs_rf D, rfl⟩) (by decide) (by decide) dX6_rankOf_18)
set_option maxRecDepth 100000 in
set_option maxHeartbeats 4000000 in
theorem c_X6_rankInTable (l : Launch) (X : XT) (D : DT) (P : PT) (hfl : l.stackTraces = false) (M : DT) (W : Nat) (h : RI D P M W) (view group amount : Int32) : XG l X yX6_rankInTable (.code yX6_rankInTable cX6_rankInTable 5 (some .int) :: AW) ({ frames := 8, cells := 3, slots := 18, locals := 288 } : Room) [.ref (X.2.2 0), .int view, .int group, .int amount] (qI X (fun r D' P' => (kRk view group amount) = 0 ∧ r = (nI (bl (TF (M 7) (ix view) (ix group)) (TN (M 7) (ix view) (ix group)) amount)) ∧ Fs D D' ∧ P = P')) (fun e D' P' => ((e = eIOE ∧ (kRk view group amount) = 1) ∨ (e = eIAE ∧ (kRk view group amount) = 2)) ∧ Fs D D' ∧ P = P') D P 3 18 := by
  refine xg_of (by decide +kernel) (Nat.le_of_ble_eq_true rfl) ?_
  intro K hKl hKR C ht0 Z
  have hfl : K.2.1.stackTraces = false := by rw [hKl]; exact hfl
  refine PV_lv (lv' := [some (.ref (X.2.2 0)), some (.int view), some (.int group), some (.int amount), none]) rfl ?_
  obtain ⟨⟨G, A, wr, nx, hw, hR, hT, hI, hAM⟩, ⟨s, hs5, hs3, hs0, hsj⟩, hP1, hP2, ⟨hk4, hk01, hkS⟩, n, hn60, hn9, hn1, hnk⟩ := id h
  refine pv_aload_n (q := 1) C dX6_rankInTable_0 rfl rfl rfl ?_ 
  refine pv_iload_n (q := 2) C dX6_rankInTable_1 rfl rfl rfl ?_ 
  refine pv_iload_n (q := 3) C dX6_rankInTable_2 rfl rfl rfl ?_ 
  refine pv_callVrx (q := 6) C Z ht0 hKl (c_X6_inTable l X D P (hKl ▸ hfl) M W h _ _) tw_565 k0 (by decide) rfl mm_X6_inTable ⟨rfl, rfl⟩ (by rw [hKR]; exact ⟨Nat.le_of_ble_eq_true rfl, Nat.le_of_ble_eq_true rfl⟩) (by rw [hKR]; exact ⟨by first | exact Nat.le_of_ble_eq_true rfl | (dsimp only; omega), by first | exact Nat.le_of_ble_eq_true rfl | (dsimp only; omega)⟩) rfl rfl rfl (Nat.le_of_ble_eq_true rfl) dX6_rankInTable_3 rfl (fun e D1 P1 hx => ⟨Or.inl ⟨hx.1.1, kRk_gr hx.1.2⟩, hx.2.1, hx.2.2⟩) (by first | omega | exact ⟨by omega, by omega⟩) (fun r3 D3 P3 hp3 => ?_) 
  obtain ⟨hK, rfl, ⟨v, g, hv, hg, rfl, rfl, h1, h2, h3⟩, hF3, rfl⟩ := hp3
  have k4_ : kd 4 = 0 := rfl
  have hle := TN_le (M 7) v g
  refine pv_astore (q := 8) C dX6_rankInTable_6 rfl (Nat.le_of_ble_eq_true rfl) rfl ?_ 
  refine pv_iload_n (q := 9) C dX6_rankInTable_8 rfl rfl rfl ?_ 
  refine pv_callSvx (q := 12) C Z ht0 hKl (c_X6_requireAmount l X D3 P (hKl ▸ hfl) _) tw_607 mm_X6_requireAmount ⟨rfl, rfl⟩ (by rw [hKR]; exact ⟨Nat.le_of_ble_eq_true rfl, Nat.le_of_ble_eq_true rfl⟩) (by rw [hKR]; exact ⟨by first | exact Nat.le_of_ble_eq_true rfl | (dsimp only; omega), by first | exact Nat.le_of_ble_eq_true rfl | (dsimp only; omega)⟩) rfl rfl rfl (Nat.le_of_ble_eq_true rfl) dX6_rankInTable_9 rfl (fun e D1 P1 hx => ⟨Or.inr ⟨hx.1, kRk_2 hK hx.2.1⟩, hx.2.2.1 ▸ hF3, hx.2.2.2⟩) (by first | omega | exact ⟨by omega, by omega⟩) (fun D9 P9 hp9 => ?_) 
  obtain ⟨hy9, rfl, rfl⟩ := hp9
  refine pv_aload (q := 14) C dX6_rankInTable_12 rfl rfl ?_ 
  refine pv_iload_n (q := 15) C dX6_rankInTable_14 rfl rfl rfl ?_ 
  refine pv_callVi (q := 18) C hKl (c_X0_countBelow l X D3 P 4 (by assumption) (TN (M 7) v g) h1 hle _) tw_571 k4_ (by decide) rfl mm_X0_countBelow ⟨rfl, rfl⟩ (by rw [hKR]; exact ⟨Nat.le_of_ble_eq_true rfl, Nat.le_of_ble_eq_true rfl⟩) (by rw [hKR]; exact ⟨by first | exact Nat.le_of_ble_eq_true rfl | (dsimp only; omega), by first | exact Nat.le_of_ble_eq_true rfl | (dsimp only; omega)⟩) rfl rfl rfl (Nat.le_of_ble_eq_true rfl) dX6_rankInTable_15 rfl (fun r15 D15 P15 hp15 => ?_) 
  obtain ⟨⟨kb, rfl, hfb⟩, rfl, rfl⟩ := hp15
  exact XK.of (pv_iret C (⟨kRk_0 hK hy9, by rw [ix_n (by omega), ix_n (by omega)]; exact fb_V h3 hfb h2, hF3, rfl⟩) (by decide) (by decide) dX6_rankInTable_18)
