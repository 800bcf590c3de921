set_option maxRecDepth 100000 in
set_option maxHeartbeats 4000000 in
theorem c_X0_valueAt (l : Launch) (X : XT) (D : DT) (P : PT) (h : Nat) (hk : kd h = 0) (n : Nat) (hn : D h 1 = nI n) (hn2 : n ≤ 16) (x : Int32) : CG l X yX0_valueAt (.code yX0_valueAt cX0_valueAt 2 (some .int) :: AW) ({ frames := 0, cells := 0, slots := 0, locals := 0 } : Room) [.ref (X.2.2 h), .int x] (qI X (fun r D' P' => ((∃ j, j < n ∧ x = nI j ∧ r = D (h + 1) j) ∨ ((x < 0 ∨ nI n ≤ x) ∧ r = 0)) ∧ D = D' ∧ P = P')) D P 0 0 := by
  refine cg_of (by decide +kernel) (Nat.le_of_ble_eq_true rfl) ?_
  intro K hKl hKR C
  refine PV_lv (lv' := [some (.ref (X.2.2 h)), some (.int x)]) rfl ?_
  refine pv_iload_n (q := 1) C dX0_valueAt_0 rfl rfl rfl ?_ 
  refine pv_if_lt (q := 4) (tgt := 12) C dX0_valueAt_1 (by decide) rfl (fun c_1 => ?_) (fun c_1 => ?_) 
  · refine pv_iconst (q := 13) (v := 0) C dX0_valueAt_12 rfl (by decide) ?_
    exact pv_iret C (⟨Or.inr ⟨Or.inl c_1, rfl⟩, rfl, rfl⟩) (by decide) (by decide) dX0_valueAt_13
  · refine pv_iload_n (q := 5) C dX0_valueAt_4 rfl rfl rfl ?_
    refine pv_aload_n (q := 6) C dX0_valueAt_5 rfl rfl rfl ?_ 
    refine pg_0_1 (q := 9) C hk tw_89 dX0_valueAt_6 rfl ?_ 
    rw [hn]
    refine pv_icmp_lt (q := 12) (tgt := 14) C dX0_valueAt_9 (by decide) rfl (fun c_9 => ?_) (fun c_9 => ?_) 
    · obtain ⟨j, hj, hxj⟩ : ∃ j, j < n ∧ x = nI j := by
        rcases pk_ix x (n := n) (by omega) with q | q | ⟨j, q1, q2⟩
        · exact absurd q c_1
        · rw [i32_le] at q; rw [i32_lt] at c_9; omega
        · exact ⟨j, q1, q2⟩
      refine pv_aload_n (q := 15) C dX0_valueAt_14 rfl rfl rfl ?_ 
      refine pg_0_0 (q := 18) C hk tw_88 dX0_valueAt_15 rfl (fun k15 => ?_) 
      refine pv_iload_n (q := 19) C dX0_valueAt_18 rfl rfl rfl ?_ 
      refine pv_iald (q := 20) (j := j) C (iln_9 k15) hxj (by omega) dX0_valueAt_19 rfl ?_ 
      exact pv_iret C (⟨Or.inl ⟨j, hj, hxj, rfl⟩, rfl, rfl⟩) (by decide) (by decide) dX0_valueAt_20
    · have c_9 := Int32.not_lt.mp c_9
      refine pv_iconst (q := 13) (v := 0) C dX0_valueAt_12 rfl (by decide) ?_ 
      exact pv_iret C (⟨Or.inr ⟨Or.inr c_9, rfl⟩, rfl, rfl⟩) (by decide) (by decide) dX0_valueAt_13
set_option maxRecDepth 100000 in
set_option maxHeartbeats 4000000 in
theorem c_X0_first (l : Launch) (X : XT) (D : DT) (P : PT) (h : Nat) (hk : kd h = 0) (n : Nat) (hn : D h 1 = nI n) (hn2 : n ≤ 16)  : CG l X yX0_first (.code yX0_first cX0_first 1 (some .int) :: AW) ({ frames := 1, cells := 0, slots := 0, locals := 36 } : Room) [.ref (X.2.2 h)] (qI X (fun r D' P' => r = at0 (D (h + 1)) n (0) ∧ D = D' ∧ P = P')) D P 0 0 := by
  refine cg_of (by decide +kernel) (Nat.le_of_ble_eq_true rfl) ?_
  intro K hKl hKR C
  refine PV_lv (lv' := [some (.ref (X.2.2 h))]) rfl ?_
  refine pv_aload_n (q := 1) C dX0_first_0 rfl rfl rfl ?_ 
  refine pv_iconst (q := 2) (v := 0) C dX0_first_1 rfl (by decide) ?_ 
  refine pv_callVi (q := 5) C hKl (c_X0_valueAt l X D P h hk n hn hn2 _) tw_519 hk (by decide) rfl mm_X0_valueAt ⟨rfl, rfl⟩ (by rw [hKR]; exact ⟨Nat.le_of_ble_eq_true rfl, Nat.le_of_ble_eq_true rfl⟩) (by rw [hKR]; exact ⟨Nat.le_of_ble_eq_true rfl, Nat.le_of_ble_eq_true rfl⟩) rfl rfl rfl (Nat.le_of_ble_eq_true rfl) dX0_first_2 rfl (fun r2 D2 P2 hp2 => ?_) 
  obtain ⟨hv, rfl, rfl⟩ := hp2
  exact pv_iret C (⟨by
      unfold at0
      rcases hv with ⟨j, hj, hx, rfl⟩ | ⟨hx, rfl⟩
      · rw [if_neg (by omega)]
        rw [← nI_0] at hx
        rw [(nI_eq (by decide) (by omega)).mp hx]
      · rw [if_pos]
        rcases hx with hx | hx
        · exact absurd hx (by decide)
        · rw [← nI_0] at hx
          have := (nI_leI (by omega) (by decide)).mp hx
          omega, rfl, rfl⟩) (by decide) (by decide) dX0_first_5
set_option maxRecDepth 100000 in
set_option maxHeartbeats 4000000 in
theorem c_X0_last (l : Launch) (X : XT) (D : DT) (P : PT) (h : Nat) (hk : kd h = 0) (n : Nat) (hn : D h 1 = nI n) (hn2 : n ≤ 16)  : CG l X yX0_last (.code yX0_last cX0_last 1 (some .int) :: AW) ({ frames := 1, cells := 0, slots := 0, locals := 36 } : Room) [.ref (X.2.2 h)] (qI X (fun r D' P' => r = at0 (D (h + 1)) n (n - 1) ∧ D = D' ∧ P = P')) D P 0 0 := by
  refine cg_of (by decide +kernel) (Nat.le_of_ble_eq_true rfl) ?_
  intro K hKl hKR C
  refine PV_lv (lv' := [some (.ref (X.2.2 h))]) rfl ?_
  refine pv_aload_n (q := 1) C dX0_last_0 rfl rfl rfl ?_ 
  refine pv_aload_n (q := 2) C dX0_last_1 rfl rfl rfl ?_ 
  refine pg_0_1 (q := 5) C hk tw_89 dX0_last_2 rfl ?_ 
  rw [hn]
  refine pv_iconst (q := 6) (v := 1) C dX0_last_5 rfl (by decide) ?_ 
  refine pv_isub (q := 7) C dX0_last_6 rfl ?_ 
  refine pv_callVi (q := 10) C hKl (c_X0_valueAt l X D P h hk n hn hn2 _) tw_519 hk (by decide) rfl mm_X0_valueAt ⟨rfl, rfl⟩ (by rw [hKR]; exact ⟨Nat.le_of_ble_eq_true rfl, Nat.le_of_ble_eq_true rfl⟩) (by rw [hKR]; exact ⟨Nat.le_of_ble_eq_true rfl, Nat.le_of_ble_eq_true rfl⟩) rfl rfl rfl (Nat.le_of_ble_eq_true rfl) dX0_last_7 rfl (fun r7 D7 P7 hp7 => ?_) 
  obtain ⟨hv, rfl, rfl⟩ := hp7
  exact pv_iret C (⟨by
      unfold at0
      rcases hv with ⟨j, hj, hx, rfl⟩ | ⟨hx, rfl⟩
      · rw [if_neg (by omega)]
        rw [show (1 : Int32) = nI 1 from rfl, pk_sub (by omega)] at hx
        rw [(nI_eq (by omega) (by omega)).mp hx]
      · by_cases e : n = 0
        · rw [if_pos e]
        · exfalso
          rw [show (1 : Int32) = nI 1 from rfl, pk_sub (by omega)] at hx
          rcases hx with hx | hx
          · exact nI_pos (by omega) hx
          · have := (nI_leI (by omega) (by omega)).mp hx
            omega, rfl, rfl⟩) (by decide) (by decide) dX0_last_10
set_option maxRecDepth 100000 in
set_option maxHeartbeats 4000000 in
theorem c_X0_middle (l : Launch) (X : XT) (D : DT) (P : PT) (h : Nat) (hk : kd h = 0) (n : Nat) (hn : D h 1 = nI n) (hn2 : n ≤ 16)  : CG l X yX0_middle (.code yX0_middle cX0_middle 1 (some .int) :: AW) ({ frames := 1, cells := 0, slots := 0, locals := 36 } : Room) [.ref (X.2.2 h)] (qI X (fun r D' P' => r = at0 (D (h + 1)) n ((n - 1) / 2) ∧ D = D' ∧ P = P')) D P 0 0 := by
  refine cg_of (by decide +kernel) (Nat.le_of_ble_eq_true rfl) ?_
  intro K hKl hKR C
  refine PV_lv (lv' := [some (.ref (X.2.2 h))]) rfl ?_
  refine pv_aload_n (q := 1) C dX0_middle_0 rfl rfl rfl ?_ 
  refine pv_aload_n (q := 2) C dX0_middle_1 rfl rfl rfl ?_ 
  refine pg_0_1 (q := 5) C hk tw_89 dX0_middle_2 rfl ?_ 
  rw [hn]
  refine pv_iconst (q := 6) (v := 1) C dX0_middle_5 rfl (by decide) ?_ 
  refine pv_isub (q := 7) C dX0_middle_6 rfl ?_ 
  refine pv_iconst (q := 8) (v := 2) C dX0_middle_7 rfl (by decide) ?_ 
  refine pv_idiv (q := 9) C dX0_middle_8 rfl (by decide) ?_ 
  refine pv_callVi (q := 12) C hKl (c_X0_valueAt l X D P h hk n hn hn2 _) tw_519 hk (by decide) rfl mm_X0_valueAt ⟨rfl, rfl⟩ (by rw [hKR]; exact ⟨Nat.le_of_ble_eq_true rfl, Nat.le_of_ble_eq_true rfl⟩) (by rw [hKR]; exact ⟨Nat.le_of_ble_eq_true rfl, Nat.le_of_ble_eq_true rfl⟩) rfl rfl rfl (Nat.le_of_ble_eq_true rfl) dX0_middle_9 rfl (fun r9 D9 P9 hp9 => ?_) 
  obtain ⟨hv, rfl, rfl⟩ := hp9
  exact pv_iret C (⟨by
      unfold at0
      by_cases e : n = 0
      · subst e
        rw [if_pos rfl]
        rcases hv with ⟨j, hj, hx, rfl⟩ | ⟨hx, rfl⟩
        · omega
        · rfl
      · rw [if_neg e]
        rw [show (1 : Int32) = nI 1 from rfl, pk_sub (by omega), show (2 : Int32) = nI 2 from rfl, pk_div (by omega) (by decide) (by decide)] at hv
        rcases hv with ⟨j, hj, hx, rfl⟩ | ⟨hx, rfl⟩
        · rw [(nI_eq (by omega) (by omega)).mp hx]
        · exfalso
          rcases hx with hx | hx
          · exact nI_pos (by omega) hx
          · have := (nI_leI (by omega) (by omega)).mp hx
            omega, rfl, rfl⟩) (by decide) (by decide) dX0_middle_12
set_option maxRecDepth 100000 in
set_option maxHeartbeats 4000000 in
theorem c_X0_total (l : Launch) (X : XT) (D : DT) (P : PT) (h : Nat) (hk : kd h = 0) (n : Nat) (hn : D h 1 = nI n) (hn2 : n ≤ 16)  : CG l X yX0_total (.code yX0_total cX0_total 3 (some .int) :: AW) ({ frames := 0, cells := 0, slots := 0, locals := 0 } : Room) [.ref (X.2.2 h)] (qI X (fun r D' P' => r = sm (D (h + 1)) n ∧ D = D' ∧ P = P')) D P 0 0 := by
  refine cg_of (by decide +kernel) (Nat.le_of_ble_eq_true rfl) ?_
  intro K hKl hKR C
  refine PV_lv (lv' := [some (.ref (X.2.2 h)), none, none]) rfl ?_
  refine pv_iconst (q := 1) (v := 0) C dX0_total_0 rfl (by decide) ?_ 
  refine pv_istore_n (q := 2) C dX0_total_1 rfl rfl (Nat.le_of_ble_eq_true rfl) rfl ?_ 
  refine pv_iconst (q := 3) (v := 0) C dX0_total_2 rfl (by decide) ?_ 
  refine pv_istore_n (q := 4) C dX0_total_3 rfl rfl (Nat.le_of_ble_eq_true rfl) rfl ?_ 
  have loop_4 : ∀ (nn : Nat) (i : Nat), (n + 1 ≤ i + nn) → i ≤ n → PV K X (MK K X (qI X (fun r D' P' => r = sm (D (h + 1)) n ∧ D = D' ∧ P = P')) 0 0) (0) (0) 4 [some (.ref (X.2.2 h)), some (.int (sm (D (h + 1)) i)), some (.int (nI i))] [] D P := by
    intro nn
    induction nn with
    | zero =>
      intro i hfuel hi
      exact absurd hfuel (by omega)
    | succ nn ih =>
      intro i hfuel hi
      refine pv_iload_n (q := 5) C dX0_total_4 rfl rfl rfl ?_ 
      refine pv_aload_n (q := 6) C dX0_total_5 rfl rfl rfl ?_ 
      refine pg_0_1 (q := 9) C hk tw_89 dX0_total_6 rfl ?_ 
      rw [hn]
      refine pv_icmp_geN (q := 12) (tgt := 27) (a := i) (b := n) C rfl rfl (by omega) (by omega) dX0_total_9 (by decide) rfl (fun c_9 => ?_) (fun c_9 => ?_) 
      · refine pv_iload_n (q := 28) C dX0_total_27 rfl rfl rfl ?_
        exact pv_iret C (⟨by rw [show i = n by omega], rfl, rfl⟩) (by decide) (by decide) dX0_total_28
      · refine pv_iload_n (q := 13) C dX0_total_12 rfl rfl rfl ?_
        refine pv_aload_n (q := 14) C dX0_total_13 rfl rfl rfl ?_ 
        refine pg_0_0 (q := 17) C hk tw_88 dX0_total_14 rfl (fun k14 => ?_) 
        refine pv_iload_n (q := 18) C dX0_total_17 rfl rfl rfl ?_ 
        refine pv_iald (q := 19) (j := i) C (iln_9 k14) rfl (by omega) dX0_total_18 rfl ?_ 
        refine pv_iadd (q := 20) C dX0_total_19 rfl ?_ 
        refine pv_istore_n (q := 21) C dX0_total_20 rfl rfl (Nat.le_of_ble_eq_true rfl) rfl ?_ 
        refine pv_iinc (q := 24) (v := nI (i + 1)) C dX0_total_21 rfl rfl (nI_add _ _) rfl ?_ 
        refine pv_goto (tgt := 4) C dX0_total_24 (by decide) ?_ 
        exact ih (i + 1) (by omega) (by omega)
  exact loop_4 (n + 1) 0 (by omega) (by omega)
set_option maxRecDepth 100000 in
set_option maxHeartbeats 4000000 in
theorem c_X0_countBelow (l : Launch) (X : XT) (D : DT) (P : PT) (h : Nat) (hk : kd h = 0) (n : Nat) (hn : D h 1 = nI n) (hn2 : n ≤ 16) (x : Int32) : CG l X yX0_countBelow (.code yX0_countBelow cX0_countBelow 3 (some .int) :: AW) ({ frames := 0, cells := 0, slots := 0, locals := 0 } : Room) [.ref (X.2.2 h), .int x] (qI X (fun r D' P' => (∃ k, r = nI k ∧ fb (D (h + 1)) n x k) ∧ D = D' ∧ P = P')) D P 0 0 := by
  refine cg_of (by decide +kernel) (Nat.le_of_ble_eq_true rfl) ?_
  intro K hKl hKR C
  refine PV_lv (lv' := [some (.ref (X.2.2 h)), some (.int x), none]) rfl ?_
  refine pv_iconst (q := 1) (v := 0) C dX0_countBelow_0 rfl (by decide) ?_ 
  refine pv_istore_n (q := 2) C dX0_countBelow_1 rfl rfl (Nat.le_of_ble_eq_true rfl) rfl ?_ 
  have loop_2 : ∀ (nn : Nat) (i : Nat), (n + 1 ≤ i + nn) → i ≤ n → (∀ j, j < i → D (h + 1) j < x) → PV K X (MK K X (qI X (fun r D' P' => (∃ k, r = nI k ∧ fb (D (h + 1)) n x k) ∧ D = D' ∧ P = P')) 0 0) (0) (0) 2 [some (.ref (X.2.2 h)), some (.int x), some (.int (nI i))] [] D P := by
    intro nn
    induction nn with
    | zero =>
      intro i hfuel hi hb
      exact absurd hfuel (by omega)
    | succ nn ih =>
      intro i hfuel hi hb
      refine pv_iload_n (q := 3) C dX0_countBelow_2 rfl rfl rfl ?_ 
      refine pv_aload_n (q := 4) C dX0_countBelow_3 rfl rfl rfl ?_ 
      refine pg_0_1 (q := 7) C hk tw_89 dX0_countBelow_4 rfl ?_ 
      rw [hn]
      refine pv_icmp_geN (q := 10) (tgt := 26) (a := i) (b := n) C rfl rfl (by omega) (by omega) dX0_countBelow_7 (by decide) rfl (fun c_7 => ?_) (fun c_7 => ?_) 
      · refine pv_iload_n (q := 27) C dX0_countBelow_26 rfl rfl rfl ?_
        exact pv_iret C (⟨⟨i, rfl, hi, hb, fun z => absurd z (by omega)⟩, rfl, rfl⟩) (by decide) (by decide) dX0_countBelow_27
      · refine pv_aload_n (q := 11) C dX0_countBelow_10 rfl rfl rfl ?_
        refine pg_0_0 (q := 14) C hk tw_88 dX0_countBelow_11 rfl (fun k11 => ?_) 
        refine pv_iload_n (q := 15) C dX0_countBelow_14 rfl rfl rfl ?_ 
        refine pv_iald (q := 16) (j := i) C (iln_9 k11) rfl (by omega) dX0_countBelow_15 rfl ?_ 
        refine pv_iload_n (q := 17) C dX0_countBelow_16 rfl rfl rfl ?_ 
        refine pv_icmp_ge (q := 20) (tgt := 26) C dX0_countBelow_17 (by decide) rfl (fun c_17 => ?_) (fun c_17 => ?_) 
        · refine pv_iload_n (q := 27) C dX0_countBelow_26 rfl rfl rfl ?_
          exact pv_iret C (⟨⟨i, rfl, hi, hb, fun _ => Int32.not_lt.mpr c_17⟩, rfl, rfl⟩) (by decide) (by decide) dX0_countBelow_27
        · refine pv_iinc (q := 23) (v := nI (i + 1)) C dX0_countBelow_20 rfl rfl (nI_add _ _) rfl ?_
          refine pv_goto (tgt := 2) C dX0_countBelow_23 (by decide) ?_ 
          exact ih (i + 1) (by omega) (by omega) (fun j hj => by
            by_cases e : j = i
            · subst e; exact Int32.not_le.mp c_17
            · exact hb j (by omega))
  exact loop_2 (n + 1) 0 (by omega) (by omega) (fun j hj => absurd hj (by omega))
set_option maxRecDepth 100000 in
set_option maxHeartbeats 4000000 in
theorem c_X0_countUnlike (l : Launch) (X : XT) (D : DT) (P : PT) (h : Nat) (hk : kd h = 0) (n : Nat) (hn : D h 1 = nI n) (hn2 : n ≤ 16)  : CG l X yX0_countUnlike (.code yX0_countUnlike cX0_countUnlike 3 (some .int) :: AW) ({ frames := 0, cells := 0, slots := 0, locals := 0 } : Room) [.ref (X.2.2 h)] (qI X (fun r D' P' => r = nI (kn (D (h + 1)) n) ∧ D = D' ∧ P = P')) D P 0 0 := by
  refine cg_of (by decide +kernel) (Nat.le_of_ble_eq_true rfl) ?_
  intro K hKl hKR C
  refine PV_lv (lv' := [some (.ref (X.2.2 h)), none, none]) rfl ?_
  refine pv_iconst (q := 1) (v := 0) C dX0_countUnlike_0 rfl (by decide) ?_ 
  refine pv_istore_n (q := 2) C dX0_countUnlike_1 rfl rfl (Nat.le_of_ble_eq_true rfl) rfl ?_ 
  refine pv_iconst (q := 3) (v := 0) C dX0_countUnlike_2 rfl (by decide) ?_ 
  refine pv_istore_n (q := 4) C dX0_countUnlike_3 rfl rfl (Nat.le_of_ble_eq_true rfl) rfl ?_ 
  have loop_4 : ∀ (nn : Nat) (i u : Nat), (n + 1 ≤ i + nn) → i ≤ n → u = kn (D (h + 1)) i → PV K X (MK K X (qI X (fun r D' P' => r = nI (kn (D (h + 1)) n) ∧ D = D' ∧ P = P')) 0 0) (0) (0) 4 [some (.ref (X.2.2 h)), some (.int (nI u)), some (.int (nI i))] [] D P := by
    intro nn
    induction nn with
    | zero =>
      intro i u hfuel hi hu
      exact absurd hfuel (by omega)
    | succ nn ih =>
      intro i u hfuel hi hu
      refine pv_iload_n (q := 5) C dX0_countUnlike_4 rfl rfl rfl ?_ 
      refine pv_aload_n (q := 6) C dX0_countUnlike_5 rfl rfl rfl ?_ 
      refine pg_0_1 (q := 9) C hk tw_89 dX0_countUnlike_6 rfl ?_ 
      rw [hn]
      refine pv_icmp_geN (q := 12) (tgt := 42) (a := i) (b := n) C rfl rfl (by omega) (by omega) dX0_countUnlike_9 (by decide) rfl (fun c_9 => ?_) (fun c_9 => ?_) 
      · refine pv_iload_n (q := 43) C dX0_countUnlike_42 rfl rfl rfl ?_
        exact pv_iret C (⟨by rw [hu, show i = n by omega], rfl, rfl⟩) (by decide) (by decide) dX0_countUnlike_43
      · refine pv_iload_n (q := 13) C dX0_countUnlike_12 rfl rfl rfl ?_
        refine pv_if_eqN (q := 16) (tgt := 33) (a := i) (b := 0) C rfl rfl (by omega) (by omega) dX0_countUnlike_13 (by decide) rfl (fun c_13 => ?_) (fun c_13 => ?_) 
        · refine pv_iinc (q := 36) (v := nI (u + 1)) C dX0_countUnlike_33 rfl rfl (nI_add _ _) rfl ?_
          refine pv_iinc (q := 39) (v := nI (i + 1)) C dX0_countUnlike_36 rfl rfl (nI_add _ _) rfl ?_ 
          refine pv_goto (tgt := 4) C dX0_countUnlike_39 (by decide) ?_ 
          exact ih (i + 1) (u + 1) (by omega) (by omega) (by unfold kn; rw [if_pos (Or.inl c_13), hu])
        · refine pv_aload_n (q := 17) C dX0_countUnlike_16 rfl rfl rfl ?_
          refine pg_0_0 (q := 20) C hk tw_88 dX0_countUnlike_17 rfl (fun k17 => ?_) 
          refine pv_iload_n (q := 21) C dX0_countUnlike_20 rfl rfl rfl ?_ 
          refine pv_iald (q := 22) (j := i) C (iln_9 k17) rfl (by omega) dX0_countUnlike_21 rfl ?_ 
          refine pv_aload_n (q := 23) C dX0_countUnlike_22 rfl rfl rfl ?_ 
          refine pg_0_0 (q := 26) C hk tw_88 dX0_countUnlike_23 rfl (fun k23 => ?_) 
          refine pv_iload_n (q := 27) C dX0_countUnlike_26 rfl rfl rfl ?_ 
          refine pv_iconst (q := 28) (v := 1) C dX0_countUnlike_27 rfl (by decide) ?_ 
          refine pv_isubN (q := 29) (a := i) (b := 1) C rfl rfl (by omega) dX0_countUnlike_28 rfl ?_ 
          refine pv_iald (q := 30) (j := (i - 1)) C (iln_9 k23) rfl (by omega) dX0_countUnlike_29 rfl ?_ 
          refine pv_icmp_eq (q := 33) (tgt := 36) C dX0_countUnlike_30 (by decide) rfl (fun c_30 => ?_) (fun c_30 => ?_) 
          · refine pv_iinc (q := 39) (v := nI (i + 1)) C dX0_countUnlike_36 rfl rfl (nI_add _ _) rfl ?_
            refine pv_goto (tgt := 4) C dX0_countUnlike_39 (by decide) ?_ 
            exact ih (i + 1) u (by omega) (by omega) (by unfold kn; rw [if_neg (by rintro (q | q); exact c_13 q; exact q c_30), hu]; rfl)
          · refine pv_iinc (q := 36) (v := nI (u + 1)) C dX0_countUnlike_33 rfl rfl (nI_add _ _) rfl ?_
            refine pv_iinc (q := 39) (v := nI (i + 1)) C dX0_countUnlike_36 rfl rfl (nI_add _ _) rfl ?_ 
            refine pv_goto (tgt := 4) C dX0_countUnlike_39 (by decide) ?_ 
            exact ih (i + 1) (u + 1) (by omega) (by omega) (by unfold kn; rw [if_pos (Or.inr c_30), hu])
  exact loop_4 (n + 1) 0 0 (by omega) (by omega) rfl
set_option maxRecDepth 100000 in
set_option maxHeartbeats 4000000 in
theorem c_X0_copyFrom (l : Launch) (X : XT) (D : DT) (P : PT) (h o : Nat) (hk : kd h = 0) (ho : kd o = 0) : CG l X yX0_copyFrom (.code yX0_copyFrom cX0_copyFrom 2 none :: AW) ({ frames := 1, cells := 0, slots := 0, locals := 36 } : Room) [.ref (X.2.2 h), .ref (X.2.2 o)] (qV X (fun D' P' => D' = setA D h (fun j => if j < 16 then D (o + 1) j else D (h + 1) j) (D o 1) ∧ P = P')) D P 0 0 := by
  refine cg_of (by decide +kernel) (Nat.le_of_ble_eq_true rfl) ?_
  intro K hKl hKR C
  refine PV_lv (lv' := [some (.ref (X.2.2 h)), some (.ref (X.2.2 o))]) rfl ?_
  refine pv_aload_n (q := 1) C dX0_copyFrom_0 rfl rfl rfl ?_ 
  refine pg_0_0 (q := 4) C ho tw_88 dX0_copyFrom_1 rfl (fun k1 => ?_) 
  refine pv_iconst (q := 5) (v := 0) C dX0_copyFrom_4 rfl (by decide) ?_ 
  refine pv_aload_n (q := 6) C dX0_copyFrom_5 rfl rfl rfl ?_ 
  refine pg_0_0 (q := 9) C hk tw_88 dX0_copyFrom_6 rfl (fun k6 => ?_) 
  refine pv_iconst (q := 10) (v := 0) C dX0_copyFrom_9 rfl (by decide) ?_ 
  refine pv_aload_n (q := 11) C dX0_copyFrom_10 rfl rfl rfl ?_ 
  refine pg_0_0 (q := 14) C hk tw_88 dX0_copyFrom_11 rfl (fun k11 => ?_) 
  refine pv_alenI (q := 15) (n := 16) C (iln_9 k11) dX0_copyFrom_14 rfl ?_ 
  refine pv_copy (q := 18) (N := 16) C tw_254 mm_copy (iln_9 k1) (iln_9 k6) rfl rfl rfl (by rw [hKR]; exact ⟨Nat.le_of_ble_eq_true rfl, Nat.le_of_ble_eq_true rfl⟩) rfl dX0_copyFrom_15 rfl (fun D15 hD15 => ?_) 
  refine pv_aload_n (q := 19) C dX0_copyFrom_18 rfl rfl rfl ?_ 
  refine pv_aload_n (q := 20) C dX0_copyFrom_19 rfl rfl rfl ?_ 
  refine pg_0_1 (q := 23) C ho tw_89 dX0_copyFrom_20 rfl ?_ 
  refine pp_0_1 (q := 26) C hk tw_89 dX0_copyFrom_23 rfl (fun D23 hD23 => ?_) 
  exact pv_vret C (⟨by rw [hD23, hD15, va_up_ne _ _ (kne ho (kd_0_0 hk) (by decide))]; rfl, rfl⟩) (by decide) (by decide) dX0_copyFrom_26
set_option maxRecDepth 100000 in
set_option maxHeartbeats 4000000 in
theorem c_X0_add (l : Launch) (X : XT) (D : DT) (P : PT) (h : Nat) (hk : kd h = 0) (n : Nat) (hn : D h 1 = nI n) (hn2 : n ≤ 16) (x : Int32) : CG l X yX0_add (.code yX0_add cX0_add 3 none :: AW) ({ frames := 0, cells := 0, slots := 0, locals := 0 } : Room) [.ref (X.2.2 h), .int x] (qV X (fun D' P' => ((n = 16 ∧ D = D') ∨ (n < 16 ∧ ∃ f', D' = setA D h f' (nI (n + 1)) ∧ ins (D (h + 1)) n x f')) ∧ P = P')) D P 0 0 := by
  refine cg_of (by decide +kernel) (Nat.le_of_ble_eq_true rfl) ?_
  intro K hKl hKR C
  refine PV_lv (lv' := [some (.ref (X.2.2 h)), some (.int x), none]) rfl ?_
  refine pv_aload_n (q := 1) C dX0_add_0 rfl rfl rfl ?_ 
  refine pg_0_1 (q := 4) C hk tw_89 dX0_add_1 rfl ?_ 
  rw [hn]
  refine pv_aload_n (q := 5) C dX0_add_4 rfl rfl rfl ?_ 
  refine pg_0_0 (q := 8) C hk tw_88 dX0_add_5 rfl (fun k5 => ?_) 
  refine pv_alenI (q := 9) (n := 16) C (iln_9 k5) dX0_add_8 rfl ?_ 
  refine pv_icmp_ltN (q := 12) (tgt := 13) (a := n) (b := 16) C rfl rfl (by omega) (by omega) dX0_add_9 (by decide) rfl (fun c_9 => ?_) (fun c_9 => ?_) 
  · refine pv_aload_n (q := 14) C dX0_add_13 rfl rfl rfl ?_
    refine pg_0_1 (q := 17) C hk tw_89 dX0_add_14 rfl ?_ 
    rw [hn]
    refine pv_istore_n (q := 18) C dX0_add_17 rfl rfl (Nat.le_of_ble_eq_true rfl) rfl ?_ 
    have loop_18 : ∀ (nn : Nat) (i : Nat) (g : Nat → Int32), (i + 1 ≤ nn) → i ≤ n → (∀ j, j < i → g j = D (h + 1) j) → (∀ j, i < j → j ≤ n → g j = D (h + 1) (j - 1)) → (∀ j, i ≤ j → j < n → x < D (h + 1) j) → PV K X (MK K X (qV X (fun D' P' => ((n = 16 ∧ D = D') ∨ (n < 16 ∧ ∃ f', D' = setA D h f' (nI (n + 1)) ∧ ins (D (h + 1)) n x f')) ∧ P = P')) 0 0) (0) (0) 18 [some (.ref (X.2.2 h)), some (.int x), some (.int (nI i))] [] (va_up D (h + 1) g) P := by
      intro nn
      induction nn with
      | zero =>
        intro i g hfuel hi h1 h2 h3
        exact absurd hfuel (by omega)
      | succ nn ih =>
        intro i g hfuel hi h1 h2 h3
        refine pv_iload_n (q := 19) C dX0_add_18 rfl rfl rfl ?_ 
        refine pv_if_leN (q := 22) (tgt := 54) (a := i) (b := 0) C rfl rfl (by omega) (by omega) dX0_add_19 (by decide) rfl (fun c_19 => ?_) (fun c_19 => ?_) 
        · refine pv_aload_n (q := 55) C dX0_add_54 rfl rfl rfl ?_
          refine pg_0_0 (q := 58) C hk tw_88 dX0_add_55 rfl (fun k55 => ?_) 
          refine pv_iload_n (q := 59) C dX0_add_58 rfl rfl rfl ?_ 
          refine pv_iload_n (q := 60) C dX0_add_59 rfl rfl rfl ?_ 
          refine pv_iast (q := 61) (j := i) C (iln_9 k55) rfl (by omega) dX0_add_60 rfl (fun D60 hD60 => ?_) 
          refine pv_aload_n (q := 62) C dX0_add_61 rfl rfl rfl ?_ 
          refine pv_dup (q := 63) C dX0_add_62 rfl rfl ?_ 
          refine pg_0_1 (q := 66) C hk tw_89 dX0_add_63 rfl ?_ 
          rw [hD60, up2_ne _ _ _ (by omega), va_up_ne _ _ (by omega), hn]
          refine pv_iconst (q := 67) (v := 1) C dX0_add_66 rfl (by decide) ?_ 
          refine pv_iaddN (q := 68) (a := n) (b := 1) C rfl rfl dX0_add_67 rfl ?_ 
          refine pp_0_1 (q := 71) C hk tw_89 dX0_add_68 rfl (fun D68 hD68 => ?_) 
          exact pv_vret C (⟨Or.inr ⟨by omega, va_up g i x, by rw [hD68, up2_va]; rfl, i, hi, fun j hj => by rw [va_up_ne _ _ (by omega)]; exact h1 j hj, va_up_self _ _ _, fun j a b => by rw [va_up_ne _ _ (by omega)]; exact h2 j a b, h3, fun z => absurd z (by omega)⟩, rfl⟩) (by decide) (by decide) dX0_add_71
        · refine pv_aload_n (q := 23) C dX0_add_22 rfl rfl rfl ?_
          refine pg_0_0 (q := 26) C hk tw_88 dX0_add_23 rfl (fun k23 => ?_) 
          refine pv_iload_n (q := 27) C dX0_add_26 rfl rfl rfl ?_ 
          refine pv_iconst (q := 28) (v := 1) C dX0_add_27 rfl (by decide) ?_ 
          refine pv_isubN (q := 29) (a := i) (b := 1) C rfl rfl (by omega) dX0_add_28 rfl ?_ 
          refine pv_iald (q := 30) (j := (i - 1)) C (iln_9 k23) rfl (by omega) dX0_add_29 rfl ?_ 
          refine pv_iload_n (q := 31) C dX0_add_30 rfl rfl rfl ?_ 
          refine pv_icmp_le (q := 34) (tgt := 54) C dX0_add_31 (by decide) rfl (fun c_31 => ?_) (fun c_31 => ?_) 
          · refine pv_aload_n (q := 55) C dX0_add_54 rfl rfl rfl ?_
            refine pg_0_0 (q := 58) C hk tw_88 dX0_add_55 rfl (fun k55 => ?_) 
            refine pv_iload_n (q := 59) C dX0_add_58 rfl rfl rfl ?_ 
            refine pv_iload_n (q := 60) C dX0_add_59 rfl rfl rfl ?_ 
            refine pv_iast (q := 61) (j := i) C (iln_9 k55) rfl (by omega) dX0_add_60 rfl (fun D60 hD60 => ?_) 
            refine pv_aload_n (q := 62) C dX0_add_61 rfl rfl rfl ?_ 
            refine pv_dup (q := 63) C dX0_add_62 rfl rfl ?_ 
            refine pg_0_1 (q := 66) C hk tw_89 dX0_add_63 rfl ?_ 
            rw [hD60, up2_ne _ _ _ (by omega), va_up_ne _ _ (by omega), hn]
            refine pv_iconst (q := 67) (v := 1) C dX0_add_66 rfl (by decide) ?_ 
            refine pv_iaddN (q := 68) (a := n) (b := 1) C rfl rfl dX0_add_67 rfl ?_ 
            refine pp_0_1 (q := 71) C hk tw_89 dX0_add_68 rfl (fun D68 hD68 => ?_) 
            exact pv_vret C (⟨Or.inr ⟨by omega, va_up g i x, by rw [hD68, up2_va]; rfl, i, hi, fun j hj => by rw [va_up_ne _ _ (by omega)]; exact h1 j hj, va_up_self _ _ _, fun j a b => by rw [va_up_ne _ _ (by omega)]; exact h2 j a b, h3, fun z => by rw [va_up_self, h1 _ (by omega)] at c_31; exact Int32.not_lt.mpr c_31⟩, rfl⟩) (by decide) (by decide) dX0_add_71
          · refine pv_aload_n (q := 35) C dX0_add_34 rfl rfl rfl ?_
            refine pg_0_0 (q := 38) C hk tw_88 dX0_add_35 rfl (fun k35 => ?_) 
            refine pv_iload_n (q := 39) C dX0_add_38 rfl rfl rfl ?_ 
            refine pv_aload_n (q := 40) C dX0_add_39 rfl rfl rfl ?_ 
            refine pg_0_0 (q := 43) C hk tw_88 dX0_add_40 rfl (fun k40 => ?_) 
            refine pv_iload_n (q := 44) C dX0_add_43 rfl rfl rfl ?_ 
            refine pv_iconst (q := 45) (v := 1) C dX0_add_44 rfl (by decide) ?_ 
            refine pv_isubN (q := 46) (a := i) (b := 1) C rfl rfl (by omega) dX0_add_45 rfl ?_ 
            refine pv_iald (q := 47) (j := (i - 1)) C (iln_9 k40) rfl (by omega) dX0_add_46 rfl ?_ 
            refine pv_iast (q := 48) (j := i) C (iln_9 k35) rfl (by omega) dX0_add_47 rfl (fun D47 hD47 => ?_) 
            refine pv_iinc (q := 51) (v := nI (i - 1)) C dX0_add_48 rfl rfl (nI_m1 (by omega)) rfl ?_ 
            refine pv_goto (tgt := 18) C dX0_add_51 (by decide) ?_ 
            rw [up2_va] at hD47
            subst hD47
            exact ih (i - 1) _ (by omega) (by omega) (fun j hj => by rw [va_up_ne _ _ (by omega)]; exact h1 j (by omega)) (fun j a b => by
              by_cases e : j = i
              · subst e; rw [va_up_self, va_up_self]; exact h1 _ (by omega)
              · rw [va_up_ne _ _ e]; exact h2 j (by omega) b) (fun j a b => by
              by_cases e : j = i - 1
              · subst e; rw [va_up_self, h1 _ (by omega)] at c_31; exact Int32.not_le.mp c_31
              · exact h3 j (by omega) b)
    refine PV_D (va_id D (h + 1)).symm ?_
    exact loop_18 (n + 1) n (D (h + 1)) (by omega) (by omega) (fun _ _ => rfl) (fun j a b => absurd b (by omega)) (fun j a b => absurd b (by omega))
  · exact pv_vret C (⟨Or.inl ⟨by omega, rfl⟩, rfl⟩) (by decide) (by decide) dX0_add_12
set_option maxRecDepth 100000 in
set_option maxHeartbeats 4000000 in
theorem c_X0_remove (l : Launch) (X : XT) (D : DT) (P : PT) (h : Nat) (hk : kd h = 0) (n : Nat) (hn : D h 1 = nI n) (hn2 : n ≤ 16) (x : Int32) : CG l X yX0_remove (.code yX0_remove cX0_remove 4 none :: AW) ({ frames := 0, cells := 0, slots := 0, locals := 0 } : Room) [.ref (X.2.2 h), .int x] (qV X (fun D' P' => (((∀ j, j < n → D (h + 1) j ≠ x) ∧ D = D') ∨ (∃ k f', D (h + 1) k = x ∧ D' = setA D h f' (nI (n - 1)) ∧ del (D (h + 1)) n k f')) ∧ P = P')) D P 0 0 := by
  refine cg_of (by decide +kernel) (Nat.le_of_ble_eq_true rfl) ?_
  intro K hKl hKR C
  refine PV_lv (lv' := [some (.ref (X.2.2 h)), some (.int x), none, none]) rfl ?_
  refine pv_iconst (q := 1) (v := 0) C dX0_remove_0 rfl (by decide) ?_ 
  refine pv_istore_n (q := 2) C dX0_remove_1 rfl rfl (Nat.le_of_ble_eq_true rfl) rfl ?_ 
  have loop_2 : ∀ (nn : Nat) (i : Nat), (n + 1 ≤ i + nn) → i ≤ n → (∀ j, j < i → D (h + 1) j ≠ x) → PV K X (MK K X (qV X (fun D' P' => (((∀ j, j < n → D (h + 1) j ≠ x) ∧ D = D') ∨ (∃ k f', D (h + 1) k = x ∧ D' = setA D h f' (nI (n - 1)) ∧ del (D (h + 1)) n k f')) ∧ P = P')) 0 0) (0) (0) 2 [some (.ref (X.2.2 h)), some (.int x), some (.int (nI i)), none] [] D P := by
    intro nn
    induction nn with
    | zero =>
      intro i hfuel hi hb
      exact absurd hfuel (by omega)
    | succ nn ih =>
      intro i hfuel hi hb
      refine pv_iload_n (q := 3) C dX0_remove_2 rfl rfl rfl ?_ 
      refine pv_aload_n (q := 4) C dX0_remove_3 rfl rfl rfl ?_ 
      refine pg_0_1 (q := 7) C hk tw_89 dX0_remove_4 rfl ?_ 
      rw [hn]
      refine pv_icmp_geN (q := 10) (tgt := 26) (a := i) (b := n) C rfl rfl (by omega) (by omega) dX0_remove_7 (by decide) rfl (fun c_7 => ?_) (fun c_7 => ?_) 
      · refine pv_iload_n (q := 27) C dX0_remove_26 rfl rfl rfl ?_
        refine pv_aload_n (q := 28) C dX0_remove_27 rfl rfl rfl ?_ 
        refine pg_0_1 (q := 31) C hk tw_89 dX0_remove_28 rfl ?_ 
        rw [hn]
        refine pv_icmp_ltN (q := 34) (tgt := 35) (a := i) (b := n) C rfl rfl (by omega) (by omega) dX0_remove_31 (by decide) rfl (fun c_31 => absurd c_31 (by omega)) (fun c_31 => ?_) 
        exact pv_vret C (⟨Or.inl ⟨fun j hj => hb j (by omega), rfl⟩, rfl⟩) (by decide) (by decide) dX0_remove_34
      · refine pv_aload_n (q := 11) C dX0_remove_10 rfl rfl rfl ?_
        refine pg_0_0 (q := 14) C hk tw_88 dX0_remove_11 rfl (fun k11 => ?_) 
        refine pv_iload_n (q := 15) C dX0_remove_14 rfl rfl rfl ?_ 
        refine pv_iald (q := 16) (j := i) C (iln_9 k11) rfl (by omega) dX0_remove_15 rfl ?_ 
        refine pv_iload_n (q := 17) C dX0_remove_16 rfl rfl rfl ?_ 
        refine pv_icmp_eq (q := 20) (tgt := 26) C dX0_remove_17 (by decide) rfl (fun c_17 => ?_) (fun c_17 => ?_) 
        · refine pv_iload_n (q := 27) C dX0_remove_26 rfl rfl rfl ?_
          refine pv_aload_n (q := 28) C dX0_remove_27 rfl rfl rfl ?_ 
          refine pg_0_1 (q := 31) C hk tw_89 dX0_remove_28 rfl ?_ 
          rw [hn]
          refine pv_icmp_ltN (q := 34) (tgt := 35) (a := i) (b := n) C rfl rfl (by omega) (by omega) dX0_remove_31 (by decide) rfl (fun c_31 => ?_) (fun c_31 => absurd c_31 (by omega)) 
          refine pv_aload_n (q := 36) C dX0_remove_35 rfl rfl rfl ?_ 
          refine pv_dup (q := 37) C dX0_remove_36 rfl rfl ?_ 
          refine pg_0_1 (q := 40) C hk tw_89 dX0_remove_37 rfl ?_ 
          rw [hn]
          refine pv_iconst (q := 41) (v := 1) C dX0_remove_40 rfl (by decide) ?_ 
          refine pv_isubN (q := 42) (a := n) (b := 1) C rfl rfl (by omega) dX0_remove_41 rfl ?_ 
          refine pp_0_1 (q := 45) C hk tw_89 dX0_remove_42 rfl (fun D42 hD42 => ?_) 
          refine pv_iload_n (q := 46) C dX0_remove_45 rfl rfl rfl ?_ 
          refine pv_istore_n (q := 47) C dX0_remove_46 rfl rfl (Nat.le_of_ble_eq_true rfl) rfl ?_ 
          have loop_47 : ∀ (nn : Nat) (k : Nat) (g : Nat → Int32), (n + 1 ≤ k + nn) → i ≤ k → k ≤ n - 1 → (∀ j, (j < i ∨ k ≤ j) → g j = D (h + 1) j) → (∀ j, i ≤ j → j < k → g j = D (h + 1) (j + 1)) → PV K X (MK K X (qV X (fun D' P' => (((∀ j, j < n → D (h + 1) j ≠ x) ∧ D = D') ∨ (∃ k f', D (h + 1) k = x ∧ D' = setA D h f' (nI (n - 1)) ∧ del (D (h + 1)) n k f')) ∧ P = P')) 0 0) (0) (0) 47 [some (.ref (X.2.2 h)), some (.int x), some (.int (nI i)), some (.int (nI k))] [] (up2 (va_up D (h + 1) g) h 1 (nI (n - 1))) P := by
            intro nn
            induction nn with
            | zero =>
              intro k g hfuel hk1 hk2 h1 h2
              exact absurd hfuel (by omega)
            | succ nn ih =>
              intro k g hfuel hk1 hk2 h1 h2
              refine pv_iload_n (q := 48) C dX0_remove_47 rfl rfl rfl ?_ 
              refine pv_aload_n (q := 49) C dX0_remove_48 rfl rfl rfl ?_ 
              refine pg_0_1 (q := 52) C hk tw_89 dX0_remove_49 rfl ?_ 
              rw [up2_self]
              refine pv_icmp_geN (q := 55) (tgt := 75) (a := k) (b := (n - 1)) C rfl rfl (by omega) (by omega) dX0_remove_52 (by decide) rfl (fun c_52 => ?_) (fun c_52 => ?_) 
              · exact pv_vret C (⟨Or.inr ⟨i, g, c_17, rfl, by omega, fun j hj => h1 j (Or.inl hj), fun j a b => h2 j a (by omega)⟩, rfl⟩) (by decide) (by decide) dX0_remove_75
              · refine pv_aload_n (q := 56) C dX0_remove_55 rfl rfl rfl ?_
                refine pg_0_0 (q := 59) C hk tw_88 dX0_remove_56 rfl (fun k56 => ?_) 
                refine pv_iload_n (q := 60) C dX0_remove_59 rfl rfl rfl ?_ 
                refine pv_aload_n (q := 61) C dX0_remove_60 rfl rfl rfl ?_ 
                refine pg_0_0 (q := 64) C hk tw_88 dX0_remove_61 rfl (fun k61 => ?_) 
                refine pv_iload_n (q := 65) C dX0_remove_64 rfl rfl rfl ?_ 
                refine pv_iconst (q := 66) (v := 1) C dX0_remove_65 rfl (by decide) ?_ 
                refine pv_iaddN (q := 67) (a := k) (b := 1) C rfl rfl dX0_remove_66 rfl ?_ 
                refine pv_iald (q := 68) (j := (k + 1)) C (iln_9 k61) rfl (by omega) dX0_remove_67 rfl ?_ 
                refine pv_iast (q := 69) (j := k) C (iln_9 k56) rfl (by omega) dX0_remove_68 rfl (fun D68 hD68 => ?_) 
                refine pv_iinc (q := 72) (v := nI (k + 1)) C dX0_remove_69 rfl rfl (nI_add _ _) rfl ?_ 
                refine pv_goto (tgt := 47) C dX0_remove_72 (by decide) ?_ 
                have e68 : D68 = up2 (va_up D (h + 1) (va_up g k (D (h + 1) (k + 1)))) h 1 (nI (n - 1)) := by
                  rw [hD68]
                  refine setA_eq (D := D) (h := h) ?_ ?_ ?_ ?_
                  · rw [up2_row, up2_ne _ _ _ (by omega), va_up_self, h1 _ (Or.inr (by omega))]
                  · rw [up2_ne _ _ _ (by omega), up2_self]
                  · intro z hz; rw [up2_ne _ _ _ (by omega), up2_nk _ _ _ hz, va_up_ne _ _ (by omega)]
                  · intro z a b; rw [up2_ne _ _ _ b, up2_ne _ _ _ a, va_up_ne _ _ b]
                refine PV_D e68 ?_
                exact ih (k + 1) _ (by omega) (by omega) (by omega) (fun j hj => by rw [va_up_ne _ _ (by omega)]; exact h1 j (by omega)) (fun j a b => by
                  by_cases e : j = k
                  · subst e; rw [va_up_self]
                  · rw [va_up_ne _ _ e]; exact h2 j a (by omega))
          refine PV_D (by rw [hD42, va_id] : _ = up2 (va_up D (h + 1) (D (h + 1))) h 1 (nI (n - 1))) ?_
          exact loop_47 (n + 1) i (D (h + 1)) (by omega) (by omega) (by omega) (fun _ _ => rfl) (fun j a b => absurd b (by omega))
        · refine pv_iinc (q := 23) (v := nI (i + 1)) C dX0_remove_20 rfl rfl (nI_add _ _) rfl ?_
          refine pv_goto (tgt := 2) C dX0_remove_23 (by decide) ?_ 
          exact ih (i + 1) (by omega) (by omega) (fun j hj => by
            by_cases e : j = i
            · subst e; exact c_17
            · exact hb j (by omega))
  exact loop_2 (n + 1) 0 (by omega) (by omega) (fun j hj => absurd hj (by omega))
