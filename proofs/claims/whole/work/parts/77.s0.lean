/-! the pool as it is made is told by the reference as it is made -/
theorem row0_lo : ∀ p, p < 32 → row0 p = 0 := by decide +kernel
theorem row0_v : ∀ v, v < 3 → ∀ p, p < 34 → row0 (32 + 38 * v + p) = 0 := by decide +kernel
theorem row0_w : ∀ v, v < 3 → row0 (32 + 38 * v + 34) = -99 ∧ row0 (32 + 38 * v + 35) = 10 ∧ row0 (32 + 38 * v + 36) = 8 ∧ row0 (32 + 38 * v + 37) = 0 := by decide +kernel
theorem row0_hi : ∀ p, p < 37 → row0 (146 + p) = 0 := by decide +kernel
theorem dk_v : ∀ v, v < 3 → dk (24 + 8 + 1 + 10 * v) = 1 := by decide +kernel
theorem dk_vg : ∀ v, v < 3 → ∀ g, g < 4 → dk (24 + 8 + 1 + 10 * v + 1 + 1 + 2 * g) = 0 := by decide +kernel
theorem tcn_none {am : Nat → Int32} {g : Nat} (hg : g < 4) (lo a : Int32) : ∀ n : Nat, tcn (fun _ => -1) am (nI g) lo a n = 0
  | 0 => rfl
  | n + 1 => by
    show tcn (fun _ => -1) am (nI g) lo a n + _ = 0
    rw [tcn_none hg lo a n, if_neg]
    simp only [decide_eq_true_eq]
    exact fun z => nI_m9 (by omega) z.1.symm
theorem SB_0 : SB D0 24 row0 0 := by
  refine ⟨fun _ _ => -1, fun _ _ => 0, 0, fun _ => 0, Nat.le_refl _, ⟨?_, ?_, by decide, fun p hp => ⟨by rw [row0_lo p (by omega)]; show (-1 : Int32) = 0 - 1; decide, fun z => absurd (row0_lo p (by omega)) z, 0, by decide, row0_lo p (by omega)⟩, fun v hv => ?_, fun j a b => ?_⟩, fun p hp => ⟨?_, fun z => absurd (row0_lo p (by omega)) z⟩, fun v hv => ?_, fun k hk => ?_⟩
  · rw [D0_of (show dk (24 + 4) = 0 by decide)]; rfl
  · exact row0_hi 32 (by decide)
  · obtain ⟨w1, w2, w3, w4⟩ := row0_w v hv
    have dv1 := D0_of (dk_v v hv)
    refine ⟨by rw [dv1]; rfl, w4, Nat.le_refl _, Nat.zero_le _, fun k a b => ?_, by rw [dv1, row0_v v hv 32 (by decide)]; rfl, by rw [dv1, row0_v v hv 33 (by decide)]; rfl, Or.inl (row0_v v hv 32 (by decide)), fun d a b => absurd b (by omega), fun g hg => ⟨0, by decide, by rw [D0_of (dk_vg v hv g hg)]; rfl, fun i j a b => absurd b (by omega), fun a => ?_⟩, fun p hp => ⟨?_, fun z => absurd (row0_v v hv p (by omega)) z⟩⟩
    · rw [dv1]
      rcases (show k = 1 ∨ k = 2 ∨ k = 3 by omega) with e | e | e <;> subst e
      · exact w1.symm
      · exact w2.symm
      · exact w3.symm
    · show cn _ 0 a = tcn (fun _ => -1) (fun _ => 0) (nI g) _ a 16
      rw [tcn_none hg]; rfl
    · rw [row0_v v hv p (by omega)]; show (0 : Int32) = -1 + 1; decide
  · rw [D0_of (show dk 24 = 2 by decide)]
    rcases (show j = 3 ∨ j = 4 ∨ j = 5 ∨ j = 6 ∨ j = 7 by omega) with e | e | e | e | e <;> subst e <;> rfl
  · rw [D0_of (show dk (24 + 1 + 1) = 3 by decide), row0_lo p (by omega)]; rfl
  · obtain ⟨w1, w2, w3, w4⟩ := row0_w v hv
    refine ⟨⟨10, by decide, by decide, w2⟩, ?_, fun _ => ?_⟩
    · unfold wt
      rw [w2, w4, row0_hi 32 (by decide)]
      decide
    · rw [w4]; exact (row0_hi 32 (by decide)).symm
  · have e : row0 k = 0 := by
      rcases hk with ⟨a, b⟩ | ⟨a, b⟩
      · exact row0_lo k b
      · obtain ⟨p, rfl⟩ : ∃ p, k = 146 + p := ⟨k - 146, by omega⟩
        exact row0_hi p (by omega)
    rw [e]
    decide
theorem RI_0 : RI D0 P0 D0 0 := by
  have e7 : D0 7 = row0 := D0_of (i := 7) (k := 4) (by decide)
  have e6 : D0 6 = fun _ => 0 := D0_of (i := 6) (k := 0) (by decide)
  have e0 : D0 0 = fun _ => 0 := D0_of (i := 0) (k := 0) (by decide)
  have e2 : D0 2 = fun _ => 0 := D0_of (i := 2) (k := 0) (by decide)
  refine ⟨by rw [e7]; exact SB_0, ⟨0, by decide, by rw [e6]; rfl, by rw [e0]; rfl, fun j hj => absurd hj (by omega)⟩, fun j hj => ?_, fun i j hi hj e => ?_, ⟨by rw [e0, e6], by rw [e6]; exact Or.inl rfl, fun z => by rw [e6] at z; exact absurd z (by decide)⟩, 0, by decide, by rw [e6]; rfl, by rw [e2]; rfl, fun k hk => absurd hk (by omega)⟩
  · refine ⟨(by decide +kernel : ∀ j, j < 5 → kd (63 + 39 * j) = 3) j hj, ?_, ?_⟩
    · show 63 + 39 * j ≠ 24; omega
    · show 63 + 39 * j ≠ 258; omega
  · have e' : 63 + 39 * i = 63 + 39 * j := e
    omega
theorem cl_27 : clo (rgS 2 6) := clo_c (by unfold okK; decide +kernel)
theorem cl_14 : clo (rgS 14 297) := clo_c (by unfold okK; decide +kernel)
theorem cl_7m : ∀ i, 7 ≤ i → i < 13 → okK (kd i) ∧ exK (kd i) = 1 := by
  intro i a b
  rcases (show i = 7 ∨ i = 8 ∨ i = 9 ∨ i = 10 ∨ i = 11 ∨ i = 12 by omega) with e | e | e | e | e | e <;> subst e <;> unfold okK <;> decide
/-- the whole pool, behind the three makers -/
theorem bI_all {X : XT} {u v a : Nat → Nat} {c : Nat → va_E} (h6 : ∀ i, (i < 6 ∨ (14 ≤ i ∧ i < 297)) → a i = u i ∧ c i = bI X u i) (h7 : ∀ i, 6 ≤ i → i < 13 → a i = v i ∧ c i = bI X v i) (h13 : c 13 = .inl (X.2.1 5, 1, .inr (.inl (fun _ => 0)))) : ∀ i, i < 297 → qE X (c i) (bI X a i) := by
  intro i hi
  rcases (show (i = 0 ∨ i = 1) ∨ (2 ≤ i ∧ i < 6) ∨ i = 6 ∨ (7 ≤ i ∧ i < 13) ∨ i = 13 ∨ (14 ≤ i ∧ i < 297) by omega) with (e | e) | e | e | e | e | e
  · subst e
    rw [(h6 0 (by omega)).2, bI_6, bI_6, (h6 24 (by omega)).1, (h6 1 (by omega)).1, (h6 258 (by omega)).1, (h6 2 (by omega)).1, (h6 4 (by omega)).1, (h6 14 (by omega)).1]
    exact qE.rf _
  · subst e
    rw [(h6 1 (by omega)).2, bI_s1, bI_s1]
    exact qE_q (fun j hj => by rw [(h6 (63 + 39 * j) (by omega)).1])
  · rw [(h6 i (by omega)).2]
    obtain ⟨⟨k1, k2, k3, k4⟩, hr⟩ := cl_27 i e
    exact bI_cg k1 k2 k3 k4 (fun j p q => (h6 j (by have := (hr j p q).2; omega)).1)
  · subst e
    rw [(h7 6 (by omega) (by omega)).2, bI_7, bI_7, (h7 7 (by omega) (by omega)).1, (h7 8 (by omega) (by omega)).1, (h7 9 (by omega) (by omega)).1, (h7 10 (by omega) (by omega)).1, (h7 11 (by omega) (by omega)).1, (h7 12 (by omega) (by omega)).1]
    exact qE.rf _
  · rw [(h7 i (by omega) e.2).2]
    obtain ⟨⟨k1, k2, k3, k4⟩, hr⟩ := cl_7m i e.1 e.2
    exact bI_cg k1 k2 k3 k4 (fun j p q => absurd q (by omega))
  · subst e
    rw [h13]
    refine qE.of (((bI_of (show kd 13 = 13 from rfl)).trans ?_).symm)
    show (Sum.inl (X.2.1 5, 1, .inr (.inl (vp_updL (fun _ => 0) 0 0))) : va_E) = _
    rw [show vp_updL (fun _ => 0) 0 0 = fun _ => (0 : Int64) from funext fun z => by unfold vp_updL; split <;> rfl]
  · rw [(h6 i (by omega)).2]
    obtain ⟨⟨k1, k2, k3, k4⟩, hr⟩ := cl_14 i e
    exact bI_cg k1 k2 k3 k4 (fun j p q => (h6 j (by have := (hr j p q); exact Or.inr this)).1)
/-- all is made: the pool stands -/
theorem law_enter {K : KT} {X : XT} {Q : State → Prop} {ce sl pc : Nat} {lv : List (Option Value)} {a : Nat → Nat} {c : Nat → va_E} {I : Nat → Prop} (hI : ∀ i, i < 297 → I i) (hq : ∀ i, i < 297 → qE X (c i) (bI X a i)) (k : gI (X.1, X.2.1, a) → (∀ i, i < 297 → K.s.heap.size ≤ a i) → PV K (X.1, X.2.1, a) Q ce sl pc lv [] D0 P0) : PF K X (fun q => K.s.heap.size ≤ q) Q ce sl pc lv [] a c I := by
  intro H locs ls hF hS hl
  have hg : gI (X.1, X.2.1, a) := fun i j hi hj e => hF.2.2.1 i j (hI i hi) (hI j hj) e
  have hge : ∀ i, i < 297 → K.s.heap.size ≤ a i := fun i hi => hF.2.2.2 i (hI i hi)
  refine k hg hge H locs ls (fun n q hn => ?_) ⟨hS.1, fun q h1 h2 => hS.2.1 q h1 (fun z => h2 (Or.inr z)), fun z hz => Or.inr (hS.2.2 z hz)⟩ hl
  obtain ⟨h1, rfl⟩ := gw_get hn
  exact hq n h1 (a n) H (hF.2.1 n (hI n h1))
theorem sr_of {s : State} {args : Array Value} {k cur : Nat} {tx : String} (hcur : s.vm.findClass RX6 = some cur) (h : (Cond.stringRef RX6 k tx).before args s = true) : ∃ a : Nat, vk_R RX6 k tx a s := by
  obtain ⟨k9, cf, i, a, -, -, -, -, -, hev⟩ := Cond.stringRef_spec hcur h
  exact ⟨a, vk_R.of h hev⟩
theorem ka_p {s : State} {args : Array Value} {ty : FieldType} (hno : ∀ C, ty ≠ .object C) (h : (Cond.arrayClass ty).before args s = true) : ∃ cA, ArrOfT s cA ty ∧ va_RA s cA ty := by
  obtain ⟨cA, kA, comp, h1, h2, h3⟩ := Cond.arrayClass_spec h
  refine ⟨cA, fun n z => ⟨fun k h => (by cases h), kA, h2, comp, h3⟩, ?_⟩
  cases ty with
  | object C => exact absurd rfl (hno C)
  | _ => exact h1
theorem ka_o {s : State} {args : Array Value} {C : String} (h : (Cond.arrayOver (.object C)).before args s = true) : ∃ cA, ArrOfT s cA (.object C) ∧ va_RA s cA (.object C) := by
  obtain ⟨comp, cA, kA, h1, h2, h3, h4, h5⟩ := Cond.arrayOver_spec h
  exact ⟨cA, fun n z => ⟨fun k h => (by cases h), kA, h3, comp, h4⟩, kA, comp, h3, h4, h1, h5⟩
theorem tb_1 {w : Cond} (h : w ∈ tables_1_1) : w ∈ lw_tbl := List.mem_append_right _ (List.mem_append_left _ h)
theorem tb_2 {w : Cond} (h : w ∈ tables_1_2) : w ∈ lw_tbl := List.mem_append_right _ (List.mem_append_right _ (List.mem_append_left _ h))
theorem tb_3 {w : Cond} (h : w ∈ tables_1_3) : w ∈ lw_tbl := List.mem_append_right _ (List.mem_append_right _ (List.mem_append_right _ (List.mem_append_left _ h)))
theorem tb_4 {w : Cond} (h : w ∈ tables_1_4) : w ∈ lw_tbl := List.mem_append_right _ (List.mem_append_right _ (List.mem_append_right _ (List.mem_append_right _ (List.mem_append_left _ h))))
theorem tb_5 {w : Cond} (h : w ∈ tables_1_5) : w ∈ lw_tbl := List.mem_append_right _ (List.mem_append_right _ (List.mem_append_right _ (List.mem_append_right _ (List.mem_append_right _ (List.mem_append_left _ h)))))
theorem tb_6 {w : Cond} (h : w ∈ tables_1_6) : w ∈ lw_tbl := List.mem_append_right _ (List.mem_append_right _ (List.mem_append_right _ (List.mem_append_right _ (List.mem_append_right _ (List.mem_append_right _ (List.mem_append_left _ h))))))
theorem tb_7 {w : Cond} (h : w ∈ tables_1_7) : w ∈ lw_tbl := List.mem_append_right _ (List.mem_append_right _ (List.mem_append_right _ (List.mem_append_right _ (List.mem_append_right _ (List.mem_append_right _ (List.mem_append_right _ (h)))))))
