theorem rq_lt {x a b : Int32} (h : x < a) (hb : b.toInt + 1 = a.toInt) : x ≤ b := by rw [i32_lt] at h; rw [i32_le]; omega
theorem rq_ge {x a b : Int32} (h : x ≤ b) (hb : b.toInt + 1 = a.toInt) : x < a := by rw [i32_le] at h; rw [i32_lt]; omega
theorem TI_ext {row r2 : Nat → Int32} (h : TI row) (hr : ∀ k, k < 184 → r2 k = row k) : TI r2 := TI_same h (fun v hv => hr _ (by omega)) (fun v hv => Or.inl (hr _ (by omega))) (hr _ (by omega)) (fun v hv z => Or.inl (by rw [hr _ (by omega)] at z; exact z))
theorem Rp_D {D D2 : DT} {B : Nat} {row : Nat → Int32} {G A : Nat → Nat → Int32} {wr : Nat} {nx : Nat → Nat} (h : Rp D B row G A wr nx) (hD : ∀ i, B ≤ i → D2 i = D i) : Rp D2 B row G A wr nx := Rp_cong h (fun _ _ => rfl) (fun j _ _ => by rw [hD _ (by omega)]) (by rw [hD _ (by omega)]) (fun k _ => by rw [hD _ (by omega), hD _ (by omega), hD _ (by omega)]; exact ⟨rfl, rfl, rfl⟩) (fun v hv => ⟨fun k _ _ => by rw [hD _ (by omega)], fun g _ => ⟨by rw [hD _ (by omega)], fun k _ => by rw [hD _ (by omega)]⟩⟩)
set_option maxRecDepth 100000 in
set_option maxHeartbeats 4000000 in
theorem c_X6_requirePlace (l : Launch) (X : XT) (D : DT) (P : PT) (hfl : l.stackTraces = false) (x : Int32) : XG l X yX6_requirePlace (.code yX6_requirePlace cX6_requirePlace 1 none :: AW) ({ frames := 6, cells := 1, slots := 6, locals := 216 } : Room) [.int x] (qV X (fun D' P' => rg x 0 15 ∧ D = D' ∧ P = P')) (fun e D' P' => e = eIOE ∧ ¬ (rg x 0 15) ∧ D = D' ∧ P = P') D P 1 6 := by
  refine xg_of (by decide +kernel) (Nat.le_of_ble_eq_true rfl) ?_
  intro K hKl hKR C ht0 Z
  have hfl : K.2.1.stackTraces = false := by rw [hKl]; exact hfl
  refine PV_lv (lv' := [some (.int x)]) rfl ?_
  refine pv_iload_n (q := 1) C dX6_requirePlace_0 rfl rfl rfl ?_ 
  refine pv_if_lt (q := 4) (tgt := 10) C dX6_requirePlace_1 (by decide) rfl (fun c_1 => ?_) (fun c_1 => ?_) 
  · exact pv_throwIOEW (text := "there is no such place") C Z ht0 hfl (by decide +kernel) ((by first | exact ⟨rfl, fun z => absurd c_1 (Int32.not_lt.mpr z.1), rfl, rfl⟩ | exact ⟨rfl, fun z => c_7 (rq_ge z.2 (by decide)), rfl, rfl⟩)) rfl (by rw [hKR]; exact ⟨Nat.le_of_ble_eq_true rfl, Nat.le_of_ble_eq_true rfl⟩) (by rw [hKR]; first | exact ⟨Nat.le_of_ble_eq_true rfl, Nat.le_of_ble_eq_true rfl⟩ | (constructor <;> (dsimp only; omega))) ⟨by omega, by omega⟩ dX6_requirePlace_10 dX6_requirePlace_13 dX6_requirePlace_14 dX6_requirePlace_17 dX6_requirePlace_20
  · refine pv_iload_n (q := 5) C dX6_requirePlace_4 rfl rfl rfl ?_
    refine pv_bipush (q := 7) (v := 16) C dX6_requirePlace_5 rfl (by decide) ?_ 
    refine pv_icmp_lt (q := 10) (tgt := 21) C dX6_requirePlace_7 (by decide) rfl (fun c_7 => ?_) (fun c_7 => ?_) 
    · exact XK.of (pv_vret C (⟨⟨Int32.not_lt.mp c_1, rq_lt c_7 (by decide)⟩, rfl, rfl⟩) (by decide) (by decide) dX6_requirePlace_21)
    · exact pv_throwIOEW (text := "there is no such place") C Z ht0 hfl (by decide +kernel) ((by first | exact ⟨rfl, fun z => absurd c_1 (Int32.not_lt.mpr z.1), rfl, rfl⟩ | exact ⟨rfl, fun z => c_7 (rq_ge z.2 (by decide)), rfl, rfl⟩)) rfl (by rw [hKR]; exact ⟨Nat.le_of_ble_eq_true rfl, Nat.le_of_ble_eq_true rfl⟩) (by rw [hKR]; first | exact ⟨Nat.le_of_ble_eq_true rfl, Nat.le_of_ble_eq_true rfl⟩ | (constructor <;> (dsimp only; omega))) ⟨by omega, by omega⟩ dX6_requirePlace_10 dX6_requirePlace_13 dX6_requirePlace_14 dX6_requirePlace_17 dX6_requirePlace_20
set_option maxRecDepth 100000 in
set_option maxHeartbeats 4000000 in
theorem c_X6_requireGroup (l : Launch) (X : XT) (D : DT) (P : PT) (hfl : l.stackTraces = false) (x : Int32) : XG l X yX6_requireGroup (.code yX6_requireGroup cX6_requireGroup 1 none :: AW) ({ frames := 6, cells := 1, slots := 6, locals := 216 } : Room) [.int x] (qV X (fun D' P' => rg x 0 3 ∧ D = D' ∧ P = P')) (fun e D' P' => e = eIOE ∧ ¬ (rg x 0 3) ∧ D = D' ∧ P = P') D P 1 6 := by
  refine xg_of (by decide +kernel) (Nat.le_of_ble_eq_true rfl) ?_
  intro K hKl hKR C ht0 Z
  have hfl : K.2.1.stackTraces = false := by rw [hKl]; exact hfl
  refine PV_lv (lv' := [some (.int x)]) rfl ?_
  refine pv_iload_n (q := 1) C dX6_requireGroup_0 rfl rfl rfl ?_ 
  refine pv_if_lt (q := 4) (tgt := 9) C dX6_requireGroup_1 (by decide) rfl (fun c_1 => ?_) (fun c_1 => ?_) 
  · exact pv_throwIOEW (text := "there is no such group") C Z ht0 hfl (by decide +kernel) ((by first | exact ⟨rfl, fun z => absurd c_1 (Int32.not_lt.mpr z.1), rfl, rfl⟩ | exact ⟨rfl, fun z => c_6 (rq_ge z.2 (by decide)), rfl, rfl⟩)) rfl (by rw [hKR]; exact ⟨Nat.le_of_ble_eq_true rfl, Nat.le_of_ble_eq_true rfl⟩) (by rw [hKR]; first | exact ⟨Nat.le_of_ble_eq_true rfl, Nat.le_of_ble_eq_true rfl⟩ | (constructor <;> (dsimp only; omega))) ⟨by omega, by omega⟩ dX6_requireGroup_9 dX6_requireGroup_12 dX6_requireGroup_13 dX6_requireGroup_16 dX6_requireGroup_19
  · refine pv_iload_n (q := 5) C dX6_requireGroup_4 rfl rfl rfl ?_
    refine pv_iconst (q := 6) (v := 4) C dX6_requireGroup_5 rfl (by decide) ?_ 
    refine pv_icmp_lt (q := 9) (tgt := 20) C dX6_requireGroup_6 (by decide) rfl (fun c_6 => ?_) (fun c_6 => ?_) 
    · exact XK.of (pv_vret C (⟨⟨Int32.not_lt.mp c_1, rq_lt c_6 (by decide)⟩, rfl, rfl⟩) (by decide) (by decide) dX6_requireGroup_20)
    · exact pv_throwIOEW (text := "there is no such group") C Z ht0 hfl (by decide +kernel) ((by first | exact ⟨rfl, fun z => absurd c_1 (Int32.not_lt.mpr z.1), rfl, rfl⟩ | exact ⟨rfl, fun z => c_6 (rq_ge z.2 (by decide)), rfl, rfl⟩)) rfl (by rw [hKR]; exact ⟨Nat.le_of_ble_eq_true rfl, Nat.le_of_ble_eq_true rfl⟩) (by rw [hKR]; first | exact ⟨Nat.le_of_ble_eq_true rfl, Nat.le_of_ble_eq_true rfl⟩ | (constructor <;> (dsimp only; omega))) ⟨by omega, by omega⟩ dX6_requireGroup_9 dX6_requireGroup_12 dX6_requireGroup_13 dX6_requireGroup_16 dX6_requireGroup_19
set_option maxRecDepth 100000 in
set_option maxHeartbeats 4000000 in
theorem c_X6_requireView (l : Launch) (X : XT) (D : DT) (P : PT) (hfl : l.stackTraces = false) (x : Int32) : XG l X yX6_requireView (.code yX6_requireView cX6_requireView 1 none :: AW) ({ frames := 6, cells := 1, slots := 6, locals := 216 } : Room) [.int x] (qV X (fun D' P' => rg x 0 2 ∧ D = D' ∧ P = P')) (fun e D' P' => e = eIOE ∧ ¬ (rg x 0 2) ∧ D = D' ∧ P = P') D P 1 6 := by
  refine xg_of (by decide +kernel) (Nat.le_of_ble_eq_true rfl) ?_
  intro K hKl hKR C ht0 Z
  have hfl : K.2.1.stackTraces = false := by rw [hKl]; exact hfl
  refine PV_lv (lv' := [some (.int x)]) rfl ?_
  refine pv_iload_n (q := 1) C dX6_requireView_0 rfl rfl rfl ?_ 
  refine pv_if_lt (q := 4) (tgt := 9) C dX6_requireView_1 (by decide) rfl (fun c_1 => ?_) (fun c_1 => ?_) 
  · exact pv_throwIOEW (text := "there is no such view") C Z ht0 hfl (by decide +kernel) ((by first | exact ⟨rfl, fun z => absurd c_1 (Int32.not_lt.mpr z.1), rfl, rfl⟩ | exact ⟨rfl, fun z => c_6 (rq_ge z.2 (by decide)), rfl, rfl⟩)) rfl (by rw [hKR]; exact ⟨Nat.le_of_ble_eq_true rfl, Nat.le_of_ble_eq_true rfl⟩) (by rw [hKR]; first | exact ⟨Nat.le_of_ble_eq_true rfl, Nat.le_of_ble_eq_true rfl⟩ | (constructor <;> (dsimp only; omega))) ⟨by omega, by omega⟩ dX6_requireView_9 dX6_requireView_12 dX6_requireView_13 dX6_requireView_16 dX6_requireView_19
  · refine pv_iload_n (q := 5) C dX6_requireView_4 rfl rfl rfl ?_
    refine pv_iconst (q := 6) (v := 3) C dX6_requireView_5 rfl (by decide) ?_ 
    refine pv_icmp_lt (q := 9) (tgt := 20) C dX6_requireView_6 (by decide) rfl (fun c_6 => ?_) (fun c_6 => ?_) 
    · exact XK.of (pv_vret C (⟨⟨Int32.not_lt.mp c_1, rq_lt c_6 (by decide)⟩, rfl, rfl⟩) (by decide) (by decide) dX6_requireView_20)
    · exact pv_throwIOEW (text := "there is no such view") C Z ht0 hfl (by decide +kernel) ((by first | exact ⟨rfl, fun z => absurd c_1 (Int32.not_lt.mpr z.1), rfl, rfl⟩ | exact ⟨rfl, fun z => c_6 (rq_ge z.2 (by decide)), rfl, rfl⟩)) rfl (by rw [hKR]; exact ⟨Nat.le_of_ble_eq_true rfl, Nat.le_of_ble_eq_true rfl⟩) (by rw [hKR]; first | exact ⟨Nat.le_of_ble_eq_true rfl, Nat.le_of_ble_eq_true rfl⟩ | (constructor <;> (dsimp only; omega))) ⟨by omega, by omega⟩ dX6_requireView_9 dX6_requireView_12 dX6_requireView_13 dX6_requireView_16 dX6_requireView_19
set_option maxRecDepth 100000 in
set_option maxHeartbeats 4000000 in
theorem c_X6_requireAmount (l : Launch) (X : XT) (D : DT) (P : PT) (hfl : l.stackTraces = false) (x : Int32) : XG l X yX6_requireAmount (.code yX6_requireAmount cX6_requireAmount 1 none :: AW) ({ frames := 6, cells := 1, slots := 6, locals := 216 } : Room) [.int x] (qV X (fun D' P' => rg x (-99) 99 ∧ D = D' ∧ P = P')) (fun e D' P' => e = eIAE ∧ ¬ (rg x (-99) 99) ∧ D = D' ∧ P = P') D P 1 6 := by
  refine xg_of (by decide +kernel) (Nat.le_of_ble_eq_true rfl) ?_
  intro K hKl hKR C ht0 Z
  have hfl : K.2.1.stackTraces = false := by rw [hKl]; exact hfl
  refine PV_lv (lv' := [some (.int x)]) rfl ?_
  refine pv_iload_n (q := 1) C dX6_requireAmount_0 rfl rfl rfl ?_ 
  refine pv_bipush (q := 3) (v := (-99)) C dX6_requireAmount_1 rfl (by decide) ?_ 
  refine pv_icmp_lt (q := 6) (tgt := 12) C dX6_requireAmount_3 (by decide) rfl (fun c_3 => ?_) (fun c_3 => ?_) 
  · exact pv_throwIAEW (text := "the amount is not -99 to 99") C Z ht0 hfl (by decide +kernel) ((by first | exact ⟨rfl, fun z => absurd c_3 (Int32.not_lt.mpr z.1), rfl, rfl⟩ | exact ⟨rfl, fun z => c_9 z.2, rfl, rfl⟩)) rfl (by rw [hKR]; exact ⟨Nat.le_of_ble_eq_true rfl, Nat.le_of_ble_eq_true rfl⟩) (by rw [hKR]; first | exact ⟨Nat.le_of_ble_eq_true rfl, Nat.le_of_ble_eq_true rfl⟩ | (constructor <;> (dsimp only; omega))) ⟨by omega, by omega⟩ dX6_requireAmount_12 dX6_requireAmount_15 dX6_requireAmount_16 dX6_requireAmount_19 dX6_requireAmount_22
  · refine pv_iload_n (q := 7) C dX6_requireAmount_6 rfl rfl rfl ?_
    refine pv_bipush (q := 9) (v := 99) C dX6_requireAmount_7 rfl (by decide) ?_ 
    refine pv_icmp_le (q := 12) (tgt := 23) C dX6_requireAmount_9 (by decide) rfl (fun c_9 => ?_) (fun c_9 => ?_) 
    · exact XK.of (pv_vret C (⟨⟨Int32.not_lt.mp c_3, c_9⟩, rfl, rfl⟩) (by decide) (by decide) dX6_requireAmount_23)
    · exact pv_throwIAEW (text := "the amount is not -99 to 99") C Z ht0 hfl (by decide +kernel) ((by first | exact ⟨rfl, fun z => absurd c_3 (Int32.not_lt.mpr z.1), rfl, rfl⟩ | exact ⟨rfl, fun z => c_9 z.2, rfl, rfl⟩)) rfl (by rw [hKR]; exact ⟨Nat.le_of_ble_eq_true rfl, Nat.le_of_ble_eq_true rfl⟩) (by rw [hKR]; first | exact ⟨Nat.le_of_ble_eq_true rfl, Nat.le_of_ble_eq_true rfl⟩ | (constructor <;> (dsimp only; omega))) ⟨by omega, by omega⟩ dX6_requireAmount_12 dX6_requireAmount_15 dX6_requireAmount_16 dX6_requireAmount_19 dX6_requireAmount_22
set_option maxRecDepth 100000 in
set_option maxHeartbeats 4000000 in
theorem c_X6_requireBound (l : Launch) (X : XT) (D : DT) (P : PT) (hfl : l.stackTraces = false) (x : Int32) : XG l X yX6_requireBound (.code yX6_requireBound cX6_requireBound 1 none :: AW) ({ frames := 6, cells := 1, slots := 6, locals := 216 } : Room) [.int x] (qV X (fun D' P' => rg x 1 30 ∧ D = D' ∧ P = P')) (fun e D' P' => e = eIAE ∧ ¬ (rg x 1 30) ∧ D = D' ∧ P = P') D P 1 6 := by
  refine xg_of (by decide +kernel) (Nat.le_of_ble_eq_true rfl) ?_
  intro K hKl hKR C ht0 Z
  have hfl : K.2.1.stackTraces = false := by rw [hKl]; exact hfl
  refine PV_lv (lv' := [some (.int x)]) rfl ?_
  refine pv_iload_n (q := 1) C dX6_requireBound_0 rfl rfl rfl ?_ 
  refine pv_iconst (q := 2) (v := 1) C dX6_requireBound_1 rfl (by decide) ?_ 
  refine pv_icmp_lt (q := 5) (tgt := 11) C dX6_requireBound_2 (by decide) rfl (fun c_2 => ?_) (fun c_2 => ?_) 
  · exact pv_throwIAEW (text := "the bound is not 1 to 30") C Z ht0 hfl (by decide +kernel) ((by first | exact ⟨rfl, fun z => absurd c_2 (Int32.not_lt.mpr z.1), rfl, rfl⟩ | exact ⟨rfl, fun z => c_8 z.2, rfl, rfl⟩)) rfl (by rw [hKR]; exact ⟨Nat.le_of_ble_eq_true rfl, Nat.le_of_ble_eq_true rfl⟩) (by rw [hKR]; first | exact ⟨Nat.le_of_ble_eq_true rfl, Nat.le_of_ble_eq_true rfl⟩ | (constructor <;> (dsimp only; omega))) ⟨by omega, by omega⟩ dX6_requireBound_11 dX6_requireBound_14 dX6_requireBound_15 dX6_requireBound_18 dX6_requireBound_21
  · refine pv_iload_n (q := 6) C dX6_requireBound_5 rfl rfl rfl ?_
    refine pv_bipush (q := 8) (v := 30) C dX6_requireBound_6 rfl (by decide) ?_ 
    refine pv_icmp_le (q := 11) (tgt := 22) C dX6_requireBound_8 (by decide) rfl (fun c_8 => ?_) (fun c_8 => ?_) 
    · exact XK.of (pv_vret C (⟨⟨Int32.not_lt.mp c_2, c_8⟩, rfl, rfl⟩) (by decide) (by decide) dX6_requireBound_22)
    · exact pv_throwIAEW (text := "the bound is not 1 to 30") C Z ht0 hfl (by decide +kernel) ((by first | exact ⟨rfl, fun z => absurd c_2 (Int32.not_lt.mpr z.1), rfl, rfl⟩ | exact ⟨rfl, fun z => c_8 z.2, rfl, rfl⟩)) rfl (by rw [hKR]; exact ⟨Nat.le_of_ble_eq_true rfl, Nat.le_of_ble_eq_true rfl⟩) (by rw [hKR]; first | exact ⟨Nat.le_of_ble_eq_true rfl, Nat.le_of_ble_eq_true rfl⟩ | (constructor <;> (dsimp only; omega))) ⟨by omega, by omega⟩ dX6_requireBound_11 dX6_requireBound_14 dX6_requireBound_15 dX6_requireBound_18 dX6_requireBound_21
set_option maxRecDepth 100000 in
set_option maxHeartbeats 4000000 in
theorem c_X6_rows (l : Launch) (X : XT) (D : DT) (P : PT) (M : DT) (W : Nat) (h : RI D P M W)  : CG l X yX6_rows (.code yX6_rows cX6_rows 1 (some .int) :: AW) ({ frames := 1, cells := 0, slots := 0, locals := 36 } : Room) [.ref (X.2.2 0)] (qI X (fun r D' P' => r = (nI (tk (M 7))) ∧ D = D' ∧ P = P')) D P 0 0 := by
  refine cg_of (by decide +kernel) (Nat.le_of_ble_eq_true rfl) ?_
  intro K hKl hKR C
  refine PV_lv (lv' := [some (.ref (X.2.2 0))]) rfl ?_
  obtain ⟨⟨G, A, wr, nx, hw, hR, hT, hI, hAM⟩, ⟨s, hs5, hs3, hs0, hsj⟩, hP1, hP2, ⟨hk4, hk01, hkS⟩, n, hn60, hn9, hn1, hnk⟩ := id h
  refine pv_aload_n (q := 1) C dX6_rows_0 rfl rfl rfl ?_ 
  refine pg_6_0 (q := 4) C k0 tw_201 dX6_rows_1 rfl (fun k1 => ?_) 
  refine pg_3_0 (q := 7) C k1 tw_129 dX6_rows_4 rfl (fun k4 => ?_) 
  refine pv_callVi (q := 10) C hKl (c_X4_countRows l X D P (24 + 1) k4) tw_255 k4 (by decide) rfl mm_X4_countRows ⟨rfl, rfl⟩ (by rw [hKR]; exact ⟨Nat.le_of_ble_eq_true rfl, Nat.le_of_ble_eq_true rfl⟩) (by rw [hKR]; exact ⟨Nat.le_of_ble_eq_true rfl, Nat.le_of_ble_eq_true rfl⟩) rfl rfl rfl (Nat.le_of_ble_eq_true rfl) dX6_rows_7 rfl (fun r7 D7 P7 hp7 => ?_) 
  obtain ⟨rfl, rfl, rfl⟩ := hp7
  exact pv_iret C (⟨congrArg nI (TR_tk hT), rfl, rfl⟩) (by decide) (by decide) dX6_rows_10
set_option maxRecDepth 100000 in
set_option maxHeartbeats 4000000 in
theorem c_X6_deltas (l : Launch) (X : XT) (D : DT) (P : PT) (M : DT) (W : Nat) (h : RI D P M W)  : CG l X yX6_deltas (.code yX6_deltas cX6_deltas 1 (some .int) :: AW) ({ frames := 0, cells := 0, slots := 0, locals := 0 } : Room) [.ref (X.2.2 0)] (qI X (fun r D' P' => r = (M 7 178) ∧ D = D' ∧ P = P')) D P 0 0 := by
  refine cg_of (by decide +kernel) (Nat.le_of_ble_eq_true rfl) ?_
  intro K hKl hKR C
  refine PV_lv (lv' := [some (.ref (X.2.2 0))]) rfl ?_
  obtain ⟨⟨G, A, wr, nx, hw, hR, hT, hI, hAM⟩, ⟨s, hs5, hs3, hs0, hsj⟩, hP1, hP2, ⟨hk4, hk01, hkS⟩, n, hn60, hn9, hn1, hnk⟩ := id h
  refine pv_aload_n (q := 1) C dX6_deltas_0 rfl rfl rfl ?_ 
  refine pg_6_0 (q := 4) C k0 tw_201 dX6_deltas_1 rfl (fun k1 => ?_) 
  refine pg_3_1 (q := 7) C k1 tw_131 dX6_deltas_4 rfl (fun k4 => ?_) 
  refine pg_1_3 (q := 10) C k4 tw_64 dX6_deltas_7 rfl ?_ 
  exact pv_iret C (⟨hR.1.trans hR.2.1.symm, rfl, rfl⟩) (by decide) (by decide) dX6_deltas_10
set_option maxRecDepth 100000 in
set_option maxHeartbeats 4000000 in
theorem c_X6_tick (l : Launch) (X : XT) (D : DT) (P : PT) (M : DT) (W : Nat) (h : RI D P M W)  : CG l X yX6_tick (.code yX6_tick cX6_tick 1 (some .int) :: AW) ({ frames := 0, cells := 0, slots := 0, locals := 0 } : Room) [.ref (X.2.2 0)] (qI X (fun r D' P' => r = (M 7 179) ∧ D = D' ∧ P = P')) D P 0 0 := by
  refine cg_of (by decide +kernel) (Nat.le_of_ble_eq_true rfl) ?_
  intro K hKl hKR C
  refine PV_lv (lv' := [some (.ref (X.2.2 0))]) rfl ?_
  obtain ⟨⟨G, A, wr, nx, hw, hR, hT, hI, hAM⟩, ⟨s, hs5, hs3, hs0, hsj⟩, hP1, hP2, ⟨hk4, hk01, hkS⟩, n, hn60, hn9, hn1, hnk⟩ := id h
  refine pv_aload_n (q := 1) C dX6_tick_0 rfl rfl rfl ?_ 
  refine pg_6_0 (q := 4) C k0 tw_201 dX6_tick_1 rfl (fun k1 => ?_) 
  refine pg_3_3 (q := 7) C k1 tw_135 dX6_tick_4 rfl ?_ 
  exact pv_iret C (⟨hR.2.2.2.2.2 3 (by omega) (by omega), rfl, rfl⟩) (by decide) (by decide) dX6_tick_7
set_option maxRecDepth 100000 in
set_option maxHeartbeats 4000000 in
theorem c_X6_wakings (l : Launch) (X : XT) (D : DT) (P : PT) (M : DT) (W : Nat) (h : RI D P M W)  : CG l X yX6_wakings (.code yX6_wakings cX6_wakings 1 (some .int) :: AW) ({ frames := 0, cells := 0, slots := 0, locals := 0 } : Room) [.ref (X.2.2 0)] (qI X (fun r D' P' => r = (M 7 180) ∧ D = D' ∧ P = P')) D P 0 0 := by
  refine cg_of (by decide +kernel) (Nat.le_of_ble_eq_true rfl) ?_
  intro K hKl hKR C
  refine PV_lv (lv' := [some (.ref (X.2.2 0))]) rfl ?_
  obtain ⟨⟨G, A, wr, nx, hw, hR, hT, hI, hAM⟩, ⟨s, hs5, hs3, hs0, hsj⟩, hP1, hP2, ⟨hk4, hk01, hkS⟩, n, hn60, hn9, hn1, hnk⟩ := id h
  refine pv_aload_n (q := 1) C dX6_wakings_0 rfl rfl rfl ?_ 
  refine pg_6_0 (q := 4) C k0 tw_201 dX6_wakings_1 rfl (fun k1 => ?_) 
  refine pg_3_4 (q := 7) C k1 tw_137 dX6_wakings_4 rfl ?_ 
  exact pv_iret C (⟨hR.2.2.2.2.2 4 (by omega) (by omega), rfl, rfl⟩) (by decide) (by decide) dX6_wakings_7
set_option maxRecDepth 100000 in
set_option maxHeartbeats 4000000 in
theorem c_X6_wakingsByThemselves (l : Launch) (X : XT) (D : DT) (P : PT) (M : DT) (W : Nat) (h : RI D P M W)  : CG l X yX6_wakingsByThemselves (.code yX6_wakingsByThemselves cX6_wakingsByThemselves 1 (some .int) :: AW) ({ frames := 0, cells := 0, slots := 0, locals := 0 } : Room) [.ref (X.2.2 0)] (qI X (fun r D' P' => r = (M 7 181) ∧ D = D' ∧ P = P')) D P 0 0 := by
  refine cg_of (by decide +kernel) (Nat.le_of_ble_eq_true rfl) ?_
  intro K hKl hKR C
  refine PV_lv (lv' := [some (.ref (X.2.2 0))]) rfl ?_
  obtain ⟨⟨G, A, wr, nx, hw, hR, hT, hI, hAM⟩, ⟨s, hs5, hs3, hs0, hsj⟩, hP1, hP2, ⟨hk4, hk01, hkS⟩, n, hn60, hn9, hn1, hnk⟩ := id h
  refine pv_aload_n (q := 1) C dX6_wakingsByThemselves_0 rfl rfl rfl ?_ 
  refine pg_6_0 (q := 4) C k0 tw_201 dX6_wakingsByThemselves_1 rfl (fun k1 => ?_) 
  refine pg_3_5 (q := 7) C k1 tw_139 dX6_wakingsByThemselves_4 rfl ?_ 
  exact pv_iret C (⟨hR.2.2.2.2.2 5 (by omega) (by omega), rfl, rfl⟩) (by decide) (by decide) dX6_wakingsByThemselves_7
set_option maxRecDepth 100000 in
set_option maxHeartbeats 4000000 in
theorem c_X6_refreshes (l : Launch) (X : XT) (D : DT) (P : PT) (M : DT) (W : Nat) (h : RI D P M W)  : CG l X yX6_refreshes (.code yX6_refreshes cX6_refreshes 1 (some .int) :: AW) ({ frames := 0, cells := 0, slots := 0, locals := 0 } : Room) [.ref (X.2.2 0)] (qI X (fun r D' P' => r = (M 7 182) ∧ D = D' ∧ P = P')) D P 0 0 := by
  refine cg_of (by decide +kernel) (Nat.le_of_ble_eq_true rfl) ?_
  intro K hKl hKR C
  refine PV_lv (lv' := [some (.ref (X.2.2 0))]) rfl ?_
  obtain ⟨⟨G, A, wr, nx, hw, hR, hT, hI, hAM⟩, ⟨s, hs5, hs3, hs0, hsj⟩, hP1, hP2, ⟨hk4, hk01, hkS⟩, n, hn60, hn9, hn1, hnk⟩ := id h
  refine pv_aload_n (q := 1) C dX6_refreshes_0 rfl rfl rfl ?_ 
  refine pg_6_0 (q := 4) C k0 tw_201 dX6_refreshes_1 rfl (fun k1 => ?_) 
  refine pg_3_6 (q := 7) C k1 tw_141 dX6_refreshes_4 rfl ?_ 
  exact pv_iret C (⟨hR.2.2.2.2.2 6 (by omega) (by omega), rfl, rfl⟩) (by decide) (by decide) dX6_refreshes_7
set_option maxRecDepth 100000 in
set_option maxHeartbeats 4000000 in
theorem c_X6_savedStates (l : Launch) (X : XT) (D : DT) (P : PT) (M : DT) (W : Nat) (h : RI D P M W)  : CG l X yX6_savedStates (.code yX6_savedStates cX6_savedStates 1 (some .int) :: AW) ({ frames := 0, cells := 0, slots := 0, locals := 0 } : Room) [.ref (X.2.2 0)] (qI X (fun r D' P' => r = (M 6 3) ∧ D = D' ∧ P = P')) D P 0 0 := by
  refine cg_of (by decide +kernel) (Nat.le_of_ble_eq_true rfl) ?_
  intro K hKl hKR C
  refine PV_lv (lv' := [some (.ref (X.2.2 0))]) rfl ?_
  obtain ⟨⟨G, A, wr, nx, hw, hR, hT, hI, hAM⟩, ⟨s, hs5, hs3, hs0, hsj⟩, hP1, hP2, ⟨hk4, hk01, hkS⟩, n, hn60, hn9, hn1, hnk⟩ := id h
  refine pv_aload_n (q := 1) C dX6_savedStates_0 rfl rfl rfl ?_ 
  refine pg_6_2 (q := 4) C k0 tw_203 dX6_savedStates_1 rfl ?_ 
  exact pv_iret C (⟨hs0.trans hs3.symm, rfl, rfl⟩) (by decide) (by decide) dX6_savedStates_4
set_option maxRecDepth 100000 in
set_option maxHeartbeats 4000000 in
theorem c_X6_hasStopped (l : Launch) (X : XT) (D : DT) (P : PT) (M : DT) (W : Nat) (h : RI D P M W)  : CG l X yX6_hasStopped (.code yX6_hasStopped cX6_hasStopped 1 (some .boolean) :: AW) ({ frames := 0, cells := 0, slots := 0, locals := 0 } : Room) [.ref (X.2.2 0)] (qI X (fun r D' P' => r = (if M 7 183 = -1 then 0 else 1) ∧ D = D' ∧ P = P')) D P 0 0 := by
  refine cg_of (by decide +kernel) (Nat.le_of_ble_eq_true rfl) ?_
  intro K hKl hKR C
  refine PV_lv (lv' := [some (.ref (X.2.2 0))]) rfl ?_
  obtain ⟨⟨G, A, wr, nx, hw, hR, hT, hI, hAM⟩, ⟨s, hs5, hs3, hs0, hsj⟩, hP1, hP2, ⟨hk4, hk01, hkS⟩, n, hn60, hn9, hn1, hnk⟩ := id h
  refine pv_aload_n (q := 1) C dX6_hasStopped_0 rfl rfl rfl ?_ 
  refine pg_6_0 (q := 4) C k0 tw_201 dX6_hasStopped_1 rfl (fun k1 => ?_) 
  refine pg_3_7 (q := 7) C k1 tw_143 dX6_hasStopped_4 rfl ?_ 
  rw [hR.2.2.2.2.2 7 (by omega) (by omega)]
  refine pv_iconst (q := 8) (v := (-1)) C dX6_hasStopped_7 rfl (by decide) ?_ 
  refine pv_icmp_eq (q := 11) (tgt := 15) C dX6_hasStopped_8 (by decide) rfl (fun c_8 => ?_) (fun c_8 => ?_) 
  · refine pv_iconst (q := 16) (v := 0) C dX6_hasStopped_15 rfl (by decide) ?_
    exact pv_zret C (Or.inl rfl) (⟨(if_pos c_8).symm, rfl, rfl⟩) (by decide) (by decide) dX6_hasStopped_16
  · refine pv_iconst (q := 12) (v := 1) C dX6_hasStopped_11 rfl (by decide) ?_
    refine pv_goto (tgt := 16) C dX6_hasStopped_12 (by decide) ?_ 
    exact pv_zret C (Or.inr rfl) (⟨(if_neg c_8).symm, rfl, rfl⟩) (by decide) (by decide) dX6_hasStopped_16
set_option maxRecDepth 100000 in
set_option maxHeartbeats 4000000 in
theorem c_X6_logLength (l : Launch) (X : XT) (D : DT) (P : PT) (M : DT) (W : Nat) (h : RI D P M W)  : CG l X yX6_logLength (.code yX6_logLength cX6_logLength 3 (some .int) :: AW) ({ frames := 1, cells := 0, slots := 0, locals := 36 } : Room) [.ref (X.2.2 0)] (qI X (fun r D' P' => r = (lgd (M 7) 3) ∧ D = D' ∧ P = P')) D P 0 0 := by
  refine cg_of (by decide +kernel) (Nat.le_of_ble_eq_true rfl) ?_
  intro K hKl hKR C
  refine PV_lv (lv' := [some (.ref (X.2.2 0)), none, none]) rfl ?_
  obtain ⟨⟨G, A, wr, nx, hw, hR, hT, hI, hAM⟩, ⟨s, hs5, hs3, hs0, hsj⟩, hP1, hP2, ⟨hk4, hk01, hkS⟩, n, hn60, hn9, hn1, hnk⟩ := id h
  refine pv_iconst (q := 1) (v := 0) C dX6_logLength_0 rfl (by decide) ?_ 
  refine pv_istore_n (q := 2) C dX6_logLength_1 rfl rfl (Nat.le_of_ble_eq_true rfl) rfl ?_ 
  refine pv_iconst (q := 3) (v := 0) C dX6_logLength_2 rfl (by decide) ?_ 
  refine pv_istore_n (q := 4) C dX6_logLength_3 rfl rfl (Nat.le_of_ble_eq_true rfl) rfl ?_ 
  have loop_4 : ∀ (nn : Nat) (v : Nat) (x : Int32), (4 ≤ v + nn) → v ≤ 3 → x = lgd (M 7) v → PV K X (MK K X (qI X (fun r D' P' => r = (lgd (M 7) 3) ∧ D = D' ∧ P = P')) 0 0) (0) (0) 4 [some (.ref (X.2.2 0)), some (.int x), some (.int (nI v))] [] D P := by
    intro nn
    induction nn with
    | zero =>
      intro v x hfuel hv3 hx
      exact absurd hfuel (by omega)
    | succ nn ih =>
      intro v x hfuel hv3 hx
      refine pv_iload_n (q := 5) C dX6_logLength_4 rfl rfl rfl ?_ 
      refine pv_iconst (q := 6) (v := 3) C dX6_logLength_5 rfl (by decide) ?_ 
      refine pv_icmp_geN (q := 9) (tgt := 39) (a := v) (b := 3) C rfl rfl (by omega) (by omega) dX6_logLength_6 (by decide) rfl (fun c_6 => ?_) (fun c_6 => ?_) 
      · refine pv_iload_n (q := 40) C dX6_logLength_39 rfl rfl rfl ?_
        exact pv_iret C (⟨by rw [hx, show v = 3 by omega], rfl, rfl⟩) (by decide) (by decide) dX6_logLength_40
      · refine pv_iload_n (q := 10) C dX6_logLength_9 rfl rfl rfl ?_
        refine pv_aload_n (q := 11) C dX6_logLength_10 rfl rfl rfl ?_ 
        refine pg_6_0 (q := 14) C k0 tw_201 dX6_logLength_11 rfl (fun k11 => ?_) 
        refine pg_3_2 (q := 17) C k11 tw_133 dX6_logLength_14 rfl (fun k14 => ?_) 
        refine pv_iload_n (q := 18) C dX6_logLength_17 rfl rfl rfl ?_ 
        refine pv_aald_12 (q := 19) (j := v) C k14 rfl (by omega) dX6_logLength_18 rfl (fun k18 => ?_) 
        refine pv_aload_n (q := 20) C dX6_logLength_19 rfl rfl rfl ?_ 
        refine pg_6_0 (q := 23) C k0 tw_201 dX6_logLength_20 rfl (fun k20 => ?_) 
        refine pg_3_1 (q := 26) C k20 tw_131 dX6_logLength_23 rfl (fun k23 => ?_) 
        refine pv_callVi (q := 29) C hKl (c_X5_countWaiting l X D P (24 + 8 + 1 + 10 * v) (24 + 4) (by assumption) (by assumption)) tw_394 k18 (by decide) rfl mm_X5_countWaiting ⟨rfl, rfl⟩ (by rw [hKR]; exact ⟨Nat.le_of_ble_eq_true rfl, Nat.le_of_ble_eq_true rfl⟩) (by rw [hKR]; exact ⟨Nat.le_of_ble_eq_true rfl, Nat.le_of_ble_eq_true rfl⟩) rfl rfl rfl (Nat.le_of_ble_eq_true rfl) dX6_logLength_26 rfl (fun r26 D26 P26 hp26 => ?_) 
        obtain ⟨rfl, rfl, rfl⟩ := hp26
        rw [Rp_wt hR (by omega)]
        refine pv_mmax (q := 32) C tw_398 mm_max (by rw [hKR]; exact ⟨Nat.le_of_ble_eq_true rfl, Nat.le_of_ble_eq_true rfl⟩) (by rw [hKR]; first | exact ⟨Nat.le_of_ble_eq_true rfl, Nat.le_of_ble_eq_true rfl⟩ | exact ⟨by omega, by omega⟩ | (constructor <;> (dsimp only; omega))) rfl dX6_logLength_29 rfl ?_ 
        refine pv_istore_n (q := 33) C dX6_logLength_32 rfl rfl (Nat.le_of_ble_eq_true rfl) rfl ?_ 
        refine pv_iinc (q := 36) (v := nI (v + 1)) C dX6_logLength_33 rfl rfl (nI_add _ _) rfl ?_ 
        refine pv_goto (tgt := 4) C dX6_logLength_36 (by decide) ?_ 
        exact ih (v + 1) _ (by omega) (by omega) (by show _ = imx (lgd (M 7) v) (wt (M 7) v); rw [← hx]; rfl)
  exact loop_4 4 0 0 (by omega) (by omega) rfl
set_option maxRecDepth 100000 in
set_option maxHeartbeats 4000000 in
theorem c_X6_dropOldestSaved (l : Launch) (X : XT) (D : DT) (P : PT) (hP1 : ∀ j, j < 5 → kd (P.1 j) = 3) : CG l X yX6_dropOldestSaved (.code yX6_dropOldestSaved cX6_dropOldestSaved 3 none :: AW) ({ frames := 0, cells := 0, slots := 0, locals := 0 } : Room) [.ref (X.2.2 0)] (qV X (fun D' P' => D' = up2 D 0 2 (nI 4) ∧ P' = rotP P)) D P 0 0 := by
  refine cg_of (by decide +kernel) (Nat.le_of_ble_eq_true rfl) ?_
  intro K hKl hKR C
  refine PV_lv (lv' := [some (.ref (X.2.2 0)), none, none]) rfl ?_
  refine pv_aload_n (q := 1) C dX6_dropOldestSaved_0 rfl rfl rfl ?_ 
  refine pg_6_1 (q := 4) C k0 tw_202 dX6_dropOldestSaved_1 rfl (fun k1 => ?_) 
  refine pv_iconst (q := 5) (v := 0) C dX6_dropOldestSaved_4 rfl (by decide) ?_ 
  refine pv_aald_11 (q := 6) (j := 0) C k1 rfl (by decide) (hP1 0 (by decide)) dX6_dropOldestSaved_5 rfl (fun k5 => ?_) 
  refine pv_astore_n (q := 7) C dX6_dropOldestSaved_6 rfl rfl (Nat.le_of_ble_eq_true rfl) rfl ?_ 
  refine pv_iconst (q := 8) (v := 1) C dX6_dropOldestSaved_7 rfl (by decide) ?_ 
  refine pv_istore_n (q := 9) C dX6_dropOldestSaved_8 rfl rfl (Nat.le_of_ble_eq_true rfl) rfl ?_ 
  have loop_9 : ∀ (nn : Nat) (i : Nat) (P1 : PT), (6 ≤ i + nn) → 1 ≤ i → i ≤ 5 → P1.2 = P.2 → (∀ j, P1.1 j = if j + 1 < i then P.1 (j + 1) else P.1 j) → PV K X (MK K X (qV X (fun D' P' => D' = up2 D 0 2 (nI 4) ∧ P' = rotP P)) 0 0) (0) (0) 9 [some (.ref (X.2.2 0)), some (.ref (X.2.2 (P.1 0))), some (.int (nI i))] [] D P1 := by
    intro nn
    induction nn with
    | zero =>
      intro i P1 hfuel hi1 hi5 h2 h1
      exact absurd hfuel (by omega)
    | succ nn ih =>
      intro i P1 hfuel hi1 hi5 h2 h1
      refine pv_iload_n (q := 10) C dX6_dropOldestSaved_9 rfl rfl rfl ?_ 
      refine pv_aload_n (q := 11) C dX6_dropOldestSaved_10 rfl rfl rfl ?_ 
      refine pg_6_1 (q := 14) C k0 tw_202 dX6_dropOldestSaved_11 rfl (fun k11 => ?_) 
      refine pv_alen_11 (q := 15) C k11 dX6_dropOldestSaved_14 rfl ?_ 
      refine pv_icmp_geN (q := 18) (tgt := 38) (a := i) (b := 5) C rfl rfl (by omega) (by omega) dX6_dropOldestSaved_15 (by decide) rfl (fun c_15 => ?_) (fun c_15 => ?_) 
      · refine pv_aload_n (q := 39) C dX6_dropOldestSaved_38 rfl rfl rfl ?_
        refine pg_6_1 (q := 42) C k0 tw_202 dX6_dropOldestSaved_39 rfl (fun k39 => ?_) 
        refine pv_aload_n (q := 43) C dX6_dropOldestSaved_42 rfl rfl rfl ?_ 
        refine pg_6_1 (q := 46) C k0 tw_202 dX6_dropOldestSaved_43 rfl (fun k43 => ?_) 
        refine pv_alen_11 (q := 47) C k43 dX6_dropOldestSaved_46 rfl ?_ 
        refine pv_iconst (q := 48) (v := 1) C dX6_dropOldestSaved_47 rfl (by decide) ?_ 
        refine pv_isubN (q := 49) (a := 5) (b := 1) C rfl rfl (by omega) dX6_dropOldestSaved_48 rfl ?_ 
        refine pv_aload_n (q := 50) C dX6_dropOldestSaved_49 rfl rfl rfl ?_ 
        refine pv_aast (q := 51) (j := 4) C rfl (by decide) k5 dX6_dropOldestSaved_50 rfl (fun P50 hP50 => ?_) 
        refine pv_aload_n (q := 52) C dX6_dropOldestSaved_51 rfl rfl rfl ?_ 
        refine pv_aload_n (q := 53) C dX6_dropOldestSaved_52 rfl rfl rfl ?_ 
        refine pg_6_1 (q := 56) C k0 tw_202 dX6_dropOldestSaved_53 rfl (fun k53 => ?_) 
        refine pv_alen_11 (q := 57) C k53 dX6_dropOldestSaved_56 rfl ?_ 
        refine pv_iconst (q := 58) (v := 1) C dX6_dropOldestSaved_57 rfl (by decide) ?_ 
        refine pv_isubN (q := 59) (a := 5) (b := 1) C rfl rfl (by omega) dX6_dropOldestSaved_58 rfl ?_ 
        refine pp_6_2 (q := 62) C k0 tw_203 dX6_dropOldestSaved_59 rfl (fun D59 hD59 => ?_) 
        exact pv_vret C (by
            have e5 : i = 5 := by omega
            subst e5
            refine ⟨hD59, ?_⟩
            rw [hP50]
            unfold rotP
            refine Prod.ext (funext fun j => ?_) h2
            show va_up P1.1 4 (P.1 0) j = _
            dsimp only
            by_cases e : j = 4
            · subst e; rw [va_up_self]; rfl
            · rw [va_up_ne _ _ e, h1]
              by_cases q : j < 4
              · rw [if_pos (by omega), if_pos q]
              · rw [if_neg (by omega), if_neg q, if_neg e]) (by decide) (by decide) dX6_dropOldestSaved_62
      · refine pv_aload_n (q := 19) C dX6_dropOldestSaved_18 rfl rfl rfl ?_
        refine pg_6_1 (q := 22) C k0 tw_202 dX6_dropOldestSaved_19 rfl (fun k19 => ?_) 
        refine pv_iload_n (q := 23) C dX6_dropOldestSaved_22 rfl rfl rfl ?_ 
        refine pv_iconst (q := 24) (v := 1) C dX6_dropOldestSaved_23 rfl (by decide) ?_ 
        refine pv_isubN (q := 25) (a := i) (b := 1) C rfl rfl (by omega) dX6_dropOldestSaved_24 rfl ?_ 
        refine pv_aload_n (q := 26) C dX6_dropOldestSaved_25 rfl rfl rfl ?_ 
        refine pg_6_1 (q := 29) C k0 tw_202 dX6_dropOldestSaved_26 rfl (fun k26 => ?_) 
        refine pv_iload_n (q := 30) C dX6_dropOldestSaved_29 rfl rfl rfl ?_ 
        refine pv_aald_11 (q := 31) (j := i) C k26 rfl (by omega) (by rw [h1, if_neg (by omega)]; exact hP1 i (by omega)) dX6_dropOldestSaved_30 rfl (fun k30 => ?_) 
        refine pv_aast (q := 32) (j := (i - 1)) C rfl (by omega) k30 dX6_dropOldestSaved_31 rfl (fun P31 hP31 => ?_) 
        refine pv_iinc (q := 35) (v := nI (i + 1)) C dX6_dropOldestSaved_32 rfl rfl (nI_add _ _) rfl ?_ 
        refine pv_goto (tgt := 9) C dX6_dropOldestSaved_35 (by decide) ?_ 
        exact ih (i + 1) P31 (by omega) (by omega) (by omega) (by rw [hP31]; exact h2) (fun j => by
          rw [hP31]
          show va_up P1.1 (i - 1) (P1.1 i) j = _
          by_cases e : j = i - 1
          · subst e
            rw [va_up_self, h1, if_neg (by omega), if_pos (by omega), show i - 1 + 1 = i by omega]
          · rw [va_up_ne _ _ e, h1]
            by_cases q : j + 1 < i
            · rw [if_pos q, if_pos (by omega)]
            · rw [if_neg q, if_neg (by omega)])
  exact loop_9 6 1 P (by omega) (by omega) (by omega) rfl (fun j => by rw [if_neg (by omega)])
set_option maxRecDepth 100000 in
set_option maxHeartbeats 4000000 in
theorem c_X6_saveState (l : Launch) (X : XT) (D : DT) (P : PT) (M : DT) (W : Nat) (h : RI D P M W)  : CG l X yX6_saveState (.code yX6_saveState cX6_saveState 1 none :: AW) ({ frames := 4, cells := 0, slots := 0, locals := 144 } : Room) [.ref (X.2.2 0)] (qV X (fun D' P' => RI D' P' (m_save M) W ∧ (∀ i, i ≠ 0 → i < 63 → D' i = D i) ∧ (∀ k, k ≠ 2 → D' 0 k = D 0 k))) D P 0 0 := by
  refine cg_of (by decide +kernel) (Nat.le_of_ble_eq_true rfl) ?_
  intro K hKl hKR C
  refine PV_lv (lv' := [some (.ref (X.2.2 0))]) rfl ?_
  obtain ⟨⟨G, A, wr, nx, hw, hR, hT, hI, hAM⟩, ⟨s, hs5, hs3, hs0, hsj⟩, hP1, hP2, ⟨hk4, hk01, hkS⟩, n, hn60, hn9, hn1, hnk⟩ := id h
  refine pv_aload_n (q := 1) C dX6_saveState_0 rfl rfl rfl ?_ 
  refine pg_6_2 (q := 4) C k0 tw_203 dX6_saveState_1 rfl ?_ 
  rw [hs0]
  refine pv_aload_n (q := 5) C dX6_saveState_4 rfl rfl rfl ?_ 
  refine pg_6_1 (q := 8) C k0 tw_202 dX6_saveState_5 rfl (fun k5 => ?_) 
  refine pv_alen_11 (q := 9) C k5 dX6_saveState_8 rfl ?_ 
  have join_16 : ∀ (DA : DT) (PA : PT), DA 0 2 = nI (min s 4) → (∀ i, i ≠ 0 → DA i = D i) → (∀ k, k ≠ 2 → DA 0 k = D 0 k) → (∀ j, j < 5 → kd (PA.1 j) = 3 ∧ PA.1 j ≠ 24 ∧ PA.1 j ≠ 258) → (∀ i j, i < 5 → j < 5 → PA.1 i = PA.1 j → i = j) → (∀ j, j < min s 4 → SB D (PA.1 j) (fun k => m_book (M 8) (M 7) s (184 * j + k)) W) → PV K X (MK K X (qV X (fun D' P' => RI D' P' (m_save M) W ∧ (∀ i, i ≠ 0 → i < 63 → D' i = D i) ∧ (∀ k, k ≠ 2 → D' 0 k = D 0 k))) 0 0) (0) (0) 16 [some (.ref (X.2.2 0))] [] DA PA := by
    intro DA PA a1 a2 a3 a4 a5 a6
    have hB := sv_B (a4 (min s 4) (by omega))
    have hRA : Rp DA 24 (M 7) G A wr nx := Rp_D hR (fun i x => a2 i (by omega))
    have hTA : TR DA 24 (M 7) := TR_lo hT (a2 _ (by omega)) (a2 _ (by omega)) (fun _ _ => rfl)
    refine pv_aload_n (q := 17) C dX6_saveState_16 rfl rfl rfl ?_ 
    refine pg_6_1 (q := 20) C k0 tw_202 dX6_saveState_17 rfl (fun k17 => ?_) 
    refine pv_aload_n (q := 21) C dX6_saveState_20 rfl rfl rfl ?_ 
    refine pg_6_2 (q := 24) C k0 tw_203 dX6_saveState_21 rfl ?_ 
    rw [a1]
    refine pv_aald_11 (q := 25) (j := (min s 4)) C k17 rfl (by omega) (a4 _ (by omega)).1 dX6_saveState_24 rfl (fun k24 => ?_) 
    refine pv_aload_n (q := 26) C dX6_saveState_25 rfl rfl rfl ?_ 
    refine pg_6_0 (q := 29) C k0 tw_201 dX6_saveState_26 rfl (fun k26 => ?_) 
    refine pv_callVv (q := 32) C hKl (c_X3_copyFrom l X DA PA (PA.1 (min s 4)) 24 (a4 _ (by omega)).1 kS24 (fun z => (a4 _ (by omega)).2.1 z) (M 7) G A wr nx hRA hTA) tw_230 k24 (by decide) rfl mm_X3_copyFrom ⟨rfl, rfl⟩ (by rw [hKR]; exact ⟨Nat.le_of_ble_eq_true rfl, Nat.le_of_ble_eq_true rfl⟩) (by rw [hKR]; exact ⟨Nat.le_of_ble_eq_true rfl, Nat.le_of_ble_eq_true rfl⟩) rfl rfl rfl (Nat.le_of_ble_eq_true rfl) dX6_saveState_29 rfl (fun D29 P29 hp29 => ?_) 
    obtain ⟨s1, s2, s3, rfl⟩ := hp29
    refine pv_aload_n (q := 33) C dX6_saveState_32 rfl rfl rfl ?_ 
    refine pv_dup (q := 34) C dX6_saveState_33 rfl rfl ?_ 
    refine pg_6_2 (q := 37) C k0 tw_203 dX6_saveState_34 rfl ?_ 
    rw [show D29 0 2 = nI (min s 4) by rw [s1 0 (by omega)]; exact a1]
    refine pv_iconst (q := 38) (v := 1) C dX6_saveState_37 rfl (by decide) ?_ 
    refine pv_iaddN (q := 39) (a := (min s 4)) (b := 1) C rfl rfl dX6_saveState_38 rfl ?_ 
    refine pp_6_2 (q := 42) C k0 tw_203 dX6_saveState_39 rfl (fun D39 hD39 => ?_) 
    exact pv_vret C (by
        have fO : ∀ i, i ≠ 0 → (i < PA.1 (min s 4) ∨ PA.1 (min s 4) + 39 ≤ i) → D39 i = D i := fun i hi q => by rw [hD39, up2_ne _ _ _ hi, s1 i q, a2 i hi]
        have f0 : ∀ k, k ≠ 2 → D39 0 k = D 0 k := fun k hk => by rw [hD39, up2_nk _ _ _ hk, s1 0 (by omega), a3 k hk]
        have m8 : m_save M 8 = m_book (M 8) (M 7) s := by
          show up2 (va_up M 8 (m_book (M 8) (M 7) (ix (M 6 3)))) 6 3 _ 8 = _
          rw [up2_ne _ _ _ (by decide), va_up_self, hs3, ix_n (by omega)]
        have m3 : m_save M 6 3 = nI (min s 4 + 1) := by
          show up2 _ 6 3 (nI (min (ix (M 6 3)) 4 + 1)) 6 3 = _
          rw [up2_self, hs3, ix_n (by omega)]
        refine ⟨⟨?_, ⟨min s 4 + 1, by omega, m3, by rw [hD39, up2_self], fun j hj => ?_⟩, a4, a5, ⟨by rw [f0 4 (by decide)]; exact hk4, hk01, fun z => ?_⟩, n, hn60, hn9, by rw [fO 2 (by decide) (by omega)]; exact hn1, fun k hk => by rw [fO 3 (by decide) (by omega)]; exact hnk k hk⟩, fun i hi q => fO i hi (by omega), f0⟩
        · exact SB_cong h.1 (fun i x y => fO i (by omega) (by omega)) (fun _ _ => rfl)
        · rw [m8]
          by_cases e : j = min s 4
          · subst e
            refine ⟨G, A, wr, nx, hw, ?_, ?_, TI_ext hI (fun k hk => ?_), AM_same hAM (fun k hk => by unfold m_book; rw [if_pos (by omega), Nat.add_sub_cancel_left])⟩
            · exact Rp_cong (Rp_D s2 (fun i x => by rw [hD39, up2_ne _ _ _ (by omega)])) (fun k hk => by unfold m_book; rw [if_pos (by omega), Nat.add_sub_cancel_left]) (fun _ _ _ => rfl) rfl (fun _ _ => ⟨rfl, rfl, rfl⟩) (fun _ _ => ⟨fun _ _ _ => rfl, fun _ _ => ⟨rfl, fun _ _ => rfl⟩⟩)
            · exact TR_lo s3 (by rw [hD39, up2_ne _ _ _ (by omega)]) (by rw [hD39, up2_ne _ _ _ (by omega)]) (fun k hk => by unfold m_book; rw [if_pos (by omega), Nat.add_sub_cancel_left])
            · unfold m_book; rw [if_pos (by omega), Nat.add_sub_cancel_left]
          · have hj2 : j < min s 4 := by omega
            have hsep := kd3_sep (a4 j (by omega)).1 (a4 (min s 4) (by omega)).1 (fun z => e (a5 _ _ (by omega) (by omega) z))
            have := sv_B (a4 j (by omega))
            exact SB_cong (a6 j hj2) (fun i x y => fO i (by omega) (by omega)) (fun _ _ => rfl)
        · exact SB_cong (hkS z) (fun i x y => fO i (by omega) (by omega)) (fun _ _ => rfl)) (by decide) (by decide) dX6_saveState_42
  refine pv_icmp_ltN (q := 12) (tgt := 16) (a := s) (b := 5) C rfl rfl (by omega) (by omega) dX6_saveState_9 (by decide) rfl (fun c_9 => ?_) (fun c_9 => ?_) 
  · exact join_16 D P (by rw [hs0, show min s 4 = s by omega]) (fun _ _ => rfl) (fun _ _ => rfl) hP1 hP2 (fun j hj => SB_cong (hsj j (by omega)) (fun _ _ _ => rfl) (fun k hk => by unfold m_book; rw [if_neg (by omega), if_neg (by omega)]))
  · refine pv_aload_n (q := 13) C dX6_saveState_12 rfl rfl rfl ?_
    refine pv_callVv (q := 16) C hKl (c_X6_dropOldestSaved l X D P (fun j hj => (hP1 j hj).1)) tw_348 k0 (by decide) rfl mm_X6_dropOldestSaved ⟨rfl, rfl⟩ (by rw [hKR]; exact ⟨Nat.le_of_ble_eq_true rfl, Nat.le_of_ble_eq_true rfl⟩) (by rw [hKR]; exact ⟨Nat.le_of_ble_eq_true rfl, Nat.le_of_ble_eq_true rfl⟩) rfl rfl rfl (Nat.le_of_ble_eq_true rfl) dX6_saveState_13 rfl (fun D13 P13 hp13 => ?_) 
    obtain ⟨hD13, hP13⟩ := hp13
    have es : s = 5 := by omega
    subst es
    exact join_16 D13 P13 (by rw [hD13, up2_self]; rfl) (fun i hi => by rw [hD13, up2_ne _ _ _ hi]) (fun k hk => by rw [hD13, up2_nk _ _ _ hk]) (fun j hj => by
      rw [hP13]; unfold rotP; dsimp only
      split
      · exact hP1 _ (by omega)
      · rw [if_pos (by omega)]; exact hP1 0 (by omega)) (fun i j hi hj e => by
      rw [hP13] at e; unfold rotP at e; dsimp only at e
      by_cases q1 : i < 4
      · rw [if_pos q1] at e
        by_cases q2 : j < 4
        · rw [if_pos q2] at e; have := hP2 _ _ (by omega) (by omega) e; omega
        · rw [if_neg q2, if_pos (by omega)] at e; have := hP2 _ _ (by omega) (by omega) e; omega
      · rw [if_neg q1, if_pos (by omega)] at e
        by_cases q2 : j < 4
        · rw [if_pos q2] at e; have := hP2 _ _ (by omega) (by omega) e; omega
        · omega) (fun j hj => by
      have e : P13.1 j = P.1 (j + 1) := by rw [hP13]; unfold rotP; dsimp only; rw [if_pos (by omega)]
      rw [e]
      exact SB_cong (hsj (j + 1) (by omega)) (fun _ _ _ => rfl) (fun k hk => by unfold m_book; rw [if_neg (by omega), if_pos (by omega)]; congr 1; omega))
