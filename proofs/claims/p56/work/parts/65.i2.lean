/-! what stands, as the pool grows -/
def rgS (lo hi : Nat) : Nat → Prop := fun i => lo ≤ i ∧ i < hi
def okK (k : Nat) : Prop := k < 18 ∧ k ≠ 6 ∧ k ≠ 7 ∧ k ≠ 11
def clo (S : Nat → Prop) : Prop := ∀ i, S i → okK (kd i) ∧ ∀ j, i < j → j < i + exK (kd i) → S j
def QS (X : XT) (a : Nat → Nat) (c : Nat → va_E) (S : Nat → Prop) : Prop := ∀ i, S i → qE X (c i) (bI X a i)
theorem QS_mv {X : XT} {a a2 : Nat → Nat} {c c2 : Nat → va_E} {S : Nat → Prop} (h : QS X a c S) (hcl : clo S) (hc : ∀ i, S i → c2 i = c i) (ha : ∀ i, S i → a2 i = a i) : QS X a2 c2 S := fun i hi => by
  rw [hc i hi]
  obtain ⟨⟨k1, k2, k3, k4⟩, hr⟩ := hcl i hi
  exact (h i hi).tr (bI_cg k1 k2 k3 k4 (fun j h1 h2 => ha j (hr j h1 h2)))
theorem QS_call {X : XT} {a u : Nat → Nat} {c : Nat → va_E} {J : Nat → Prop} (hcl : clo J) : QS X (mA J u a) (mC J (bI X u) c) J := fun i hi => by
  rw [mC_in hi]
  obtain ⟨⟨k1, k2, k3, k4⟩, hr⟩ := hcl i hi
  exact bI_cg k1 k2 k3 k4 (fun j h1 h2 => mA_in (hr j h1 h2))
theorem QS_out {X : XT} {a u : Nat → Nat} {c w : Nat → va_E} {S J : Nat → Prop} (h : QS X a c S) (hcl : clo S) (hd : ∀ i, S i → ¬ J i) : QS X (mA J u a) (mC J w c) S := QS_mv h hcl (fun i hi => mC_out (hd i hi)) (fun i hi => mA_out (hd i hi))
theorem QS_up {X : XT} {a : Nat → Nat} {c : Nat → va_E} {S : Nat → Prop} {i : Nat} {e : va_E} (h : QS X a c S) (hi : ¬ S i) : QS X a (va_up c i e) S := fun j hj => by
  rw [va_up_ne _ _ (show j ≠ i from fun z => hi (z ▸ hj))]
  exact h j hj
theorem QS_upa {X : XT} {a : Nat → Nat} {c : Nat → va_E} {S : Nat → Prop} {i q : Nat} {e : va_E} (h : QS X a c S) (hcl : clo S) (hi : ¬ S i) : QS X (va_up a i q) (va_up c i e) S := QS_mv h hcl (fun j hj => va_up_ne _ _ (fun z => hi (z ▸ hj))) (fun j hj => va_up_ne _ _ (fun z => hi (z ▸ hj)))
theorem QS_sub {X : XT} {a : Nat → Nat} {c : Nat → va_E} {S T : Nat → Prop} (h : QS X a c S) (hs : ∀ i, T i → S i) : QS X a c T := fun i hi => h i (hs i hi)
theorem QS_or {X : XT} {a : Nat → Nat} {c : Nat → va_E} {S T U : Nat → Prop} (h : QS X a c S) (h2 : QS X a c T) (hs : ∀ i, U i → S i ∨ T i) : QS X a c U := fun i hi => (hs i hi).elim (h i) (h2 i)
theorem kd_kv : ∀ i, i < 297 → kd i = 5 → ∀ k, k < 10 → kd (i + k) = kv k := by decide +kernel
theorem kv_ok : ∀ k, k < 10 → 2 ≤ k → okK (kv k) := by unfold okK; decide +kernel
theorem ks_ok : ∀ k, k < 39 → okK (ks k) := by unfold okK; decide +kernel
theorem clo_v {B lo hi : Nat} (hB : kd B = 5) (hl : 2 ≤ lo) (hh : hi ≤ 10) (h : ∀ k, k < 10 → lo ≤ k → k < hi → k + exK (kv k) ≤ hi) : clo (rgS (B + lo) (B + hi)) := fun i hi2 => by
  obtain ⟨h1, h2⟩ := hi2
  obtain ⟨k, rfl⟩ : ∃ k, i = B + k := ⟨i - B, by omega⟩
  have e := kd_kv B (kd_lt hB (by decide)) hB k (by omega)
  rw [e]
  have := h k (by omega) (by omega) (by omega)
  exact ⟨kv_ok k (by omega) (by omega), fun j a b => ⟨by omega, by omega⟩⟩
theorem clo_s {B lo hi : Nat} (hB : kd B = 3) (hh : hi ≤ 39) (h : ∀ k, k < 39 → lo ≤ k → k < hi → k + exK (ks k) ≤ hi) : clo (rgS (B + lo) (B + hi)) := fun i hi2 => by
  obtain ⟨h1, h2⟩ := hi2
  obtain ⟨k, rfl⟩ : ∃ k, i = B + k := ⟨i - B, by omega⟩
  have e := kd_ks B (kd_lt hB (by decide)) hB k (by omega)
  rw [e]
  have := h k (by omega) (by omega) (by omega)
  exact ⟨ks_ok k (by omega), fun j a b => ⟨by omega, by omega⟩⟩
theorem clo_c {lo hi : Nat} (h : ∀ i, i < hi → lo ≤ i → okK (kd i) ∧ i + exK (kd i) ≤ hi) : clo (rgS lo hi) := fun i hi2 => by
  obtain ⟨h1, h2⟩ := hi2
  obtain ⟨g1, g2⟩ := h i h2 h1
  exact ⟨g1, fun j a b => ⟨by omega, by omega⟩⟩
theorem clo_am {N : Nat} (h : kd N = 0) : clo (rgS N (N + 2)) := fun i hi => by
  obtain ⟨h1, h2⟩ := hi
  have h9 := kd_0_0 h
  rcases (show i = N ∨ i = N + 1 by omega) with e | e
  · subst e
    rw [h]
    exact ⟨by unfold okK; decide, fun j a b => ⟨by omega, b⟩⟩
  · subst e
    rw [h9]
    exact ⟨by unfold okK; decide, fun j a b => absurd b (by show ¬ j < N + 1 + 1; omega)⟩
theorem clo_tb {N : Nat} (h : kd N = 4) : clo (rgS N (N + 3)) := fun i hi => by
  obtain ⟨h1, h2⟩ := hi
  have h9 := kd_4_0 h
  have h8 := kd_4_1 h
  rcases (show i = N ∨ i = N + 1 ∨ i = N + 2 by omega) with e | e | e
  · subst e
    rw [h]
    exact ⟨by unfold okK; decide, fun j a b => ⟨by omega, b⟩⟩
  · subst e
    rw [h9]
    exact ⟨by unfold okK; decide, fun j a b => absurd b (by show ¬ j < N + 1 + 1; omega)⟩
  · subst e
    rw [h8]
    exact ⟨by unfold okK; decide, fun j a b => absurd b (by show ¬ j < N + 2 + 1; omega)⟩
theorem clo_vw {N : Nat} (h : kd N = 5) : clo (rgS N (N + 10)) := fun i hi => by
  obtain ⟨h1, h2⟩ := hi
  obtain ⟨k, rfl⟩ : ∃ k, i = N + k := ⟨i - N, by omega⟩
  have e := kd_kv N (kd_lt h (by decide)) h k (by omega)
  rw [e]
  have ok : ∀ k, k < 10 → (kv k < 18 ∧ kv k ≠ 6 ∧ kv k ≠ 7 ∧ kv k ≠ 11) ∧ k + exK (kv k) ≤ 10 := by decide +kernel
  have := ok k (by omega)
  exact ⟨this.1, fun j a b => ⟨by omega, by omega⟩⟩
theorem clo_st {N : Nat} (h : kd N = 3) : clo (rgS N (N + 39)) := clo_s (lo := 0) h (by decide) (by decide +kernel)
set_option maxRecDepth 100000 in
set_option maxHeartbeats 4000000 in
theorem c_X5_init (l : Launch) (X : XT) (hgI : gI X) (B : Nat) (hB : kd B = 5) : IG l X yX5_init cX5_init 2 ({ frames := 2, cells := 9, slots := 76, locals := 72 } : Room) (.inr (5, [.null, .int 0, .int 0, .int 0, .int 0, .int 0, .int 0])) B (fun i => B ≤ i ∧ i < B + 10) 9 76 := by
  refine ig_of hgI (kd_lt hB (by decide)) (by decide +kernel) (by decide) rfl ?_
  intro K h A hKl hKR C hnm hIK hA
  have hBN := bd_5 B (kd_lt hB (by decide)) hB
  refine PF_lv (lv' := [some (.ref h), none]) rfl ?_
  refine pf_aload_n (q := 1) C dX5_init_0 rfl rfl rfl ?_
  refine pf_obj (q := 4) C tw_80 rfl (by rw [hKR]; exact ⟨Nat.le_of_ble_eq_true rfl, Nat.le_of_ble_eq_true rfl⟩) dX5_init_1 rfl ?_
  refine pf_aload_n (q := 5) C dX5_init_4 rfl rfl rfl ?_
  refine pf_iconst (q := 6) (v := 4) C dX5_init_5 rfl (by decide) ?_
  refine pf_newq (q := 9) (i := (B + 1)) (n := 4) (t0 := 2) (C9 := RX0) C hA tw_81 hIK.1.1 rfl rfl (by decide) (by first | fail | (dsimp only; omega) | omega | simp) (by unfold NN; omega) (by rw [hKR]; constructor <;> (dsimp only; omega)) dX5_init_6 rfl (fun h6 => ?_)
  refine pf_putF (q := 12) (C9 := RX5) (T := TX5) (N := 7) (ci := 5) (i := B) (fs := [.null, .int 0, .int 0, .int 0, .int 0, .int 0, .int 0]) (ty := tyX5 0) C inX5c tyX5 tyX5_ok nmX5 (by first | rfl | (dsimp only; omega) | omega | simp) (by first | rfl | assumption | (simp [va_up]) | (simp [va_up]; omega)) (by first | rfl | assumption | (simp [va_up]) | (simp [va_up]; omega)) rfl 0 (by decide) tw_96 rfl rfl hnm rfl (tyX5_ok 0 (by decide)) rfl rfl (Nat.le_of_ble_eq_true rfl) dX5_init_9 rfl ?_
  refine pf_aload_n (q := 13) C dX5_init_12 rfl rfl rfl ?_
  refine pf_bipush (q := 15) (v := (-99)) C dX5_init_13 rfl (by decide) ?_
  refine pf_put (q := 18) (C9 := RX5) (T := TX5) (N := 7) (ci := 5) (i := B) (fs := [.ref h6, .int 0, .int 0, .int 0, .int 0, .int 0, .int 0]) (ty := tyX5 1) C inX5c tyX5 tyX5_ok nmX5 (by first | rfl | (dsimp only; omega) | omega | simp) (by first | rfl | assumption | (simp [va_up]) | (simp [va_up]; omega)) (by first | rfl | assumption | (simp [va_up]) | (simp [va_up]; omega)) rfl 1 (by decide) tw_98 rfl rfl (tyX5_ok 1 (by decide)) rfl rfl (Nat.le_of_ble_eq_true rfl) dX5_init_15 rfl ?_
  refine pf_aload_n (q := 19) C dX5_init_18 rfl rfl rfl ?_
  refine pf_bipush (q := 21) (v := 10) C dX5_init_19 rfl (by decide) ?_
  refine pf_put (q := 24) (C9 := RX5) (T := TX5) (N := 7) (ci := 5) (i := B) (fs := [.ref h6, .int (-99), .int 0, .int 0, .int 0, .int 0, .int 0]) (ty := tyX5 2) C inX5c tyX5 tyX5_ok nmX5 (by first | rfl | (dsimp only; omega) | omega | simp) (by first | rfl | assumption | (simp [va_up]) | (simp [va_up]; omega)) (by first | rfl | assumption | (simp [va_up]) | (simp [va_up]; omega)) rfl 2 (by decide) tw_100 rfl rfl (tyX5_ok 2 (by decide)) rfl rfl (Nat.le_of_ble_eq_true rfl) dX5_init_21 rfl ?_
  refine pf_aload_n (q := 25) C dX5_init_24 rfl rfl rfl ?_
  refine pf_bipush (q := 27) (v := 8) C dX5_init_25 rfl (by decide) ?_
  refine pf_put (q := 30) (C9 := RX5) (T := TX5) (N := 7) (ci := 5) (i := B) (fs := [.ref h6, .int (-99), .int 10, .int 0, .int 0, .int 0, .int 0]) (ty := tyX5 3) C inX5c tyX5 tyX5_ok nmX5 (by first | rfl | (dsimp only; omega) | omega | simp) (by first | rfl | assumption | (simp [va_up]) | (simp [va_up]; omega)) (by first | rfl | assumption | (simp [va_up]) | (simp [va_up]; omega)) rfl 3 (by decide) tw_103 rfl rfl (tyX5_ok 3 (by decide)) rfl rfl (Nat.le_of_ble_eq_true rfl) dX5_init_27 rfl ?_
  refine pf_iconst (q := 31) (v := 0) C dX5_init_30 rfl (by decide) ?_
  refine pf_istore_n (q := 32) C dX5_init_31 rfl rfl (Nat.le_of_ble_eq_true rfl) rfl ?_
  have loop : ∀ (nn g : Nat) (f : Nat → Option Nat) (a : Nat → Nat) (c : Nat → va_E) (I : Nat → Prop), (5 ≤ g + nn) → g ≤ 4 → a B = h → a (B + 1) = h6 → c B = .inr (5, [.ref h6, .int (-99), .int 10, .int 8, .int 0, .int 0, .int 0]) → c (B + 1) = .inl (X.2.1 2, 4, .inr (.inr (.inr (.inr f)))) → (∀ j, j < g → f j = some (a (B + 1 + 1 + 2 * j))) → QS X a c (rgS (B + 2) (B + (2 + 2 * g))) → (∀ i, I i ↔ (B ≤ i ∧ i < B + (2 + 2 * g))) → PF K X A (IQ K X A (fun i => B ≤ i ∧ i < B + 10) B h 9 76) (1 + 2 * g) (4 + 18 * g) 32 [some (.ref h), some (.int (nI g))] [] a c I := by
    intro nn
    induction nn with
    | zero =>
      intro g f a c I hfuel hg
      exact absurd hfuel (by omega)
    | succ nn ih =>
      intro g f a c I hfuel hg ha0 ha1 hc0 hc1 hf hQ hI
      have hk10 := kd_5_0 hB
      refine pf_iload_n (q := 33) C dX5_init_32 rfl rfl rfl ?_
      refine pf_aload_n (q := 34) C dX5_init_33 rfl rfl rfl ?_
      refine pf_get (q := 37) (C9 := RX5) (T := TX5) (N := 7) (ci := 5) (i := B) (fs := [.ref h6, .int (-99), .int 10, .int 8, .int 0, .int 0, .int 0]) (v := .ref h6) C inX5c (by first | (exact (hI _).mpr (by omega)) | (exact Or.inl ((hI _).mpr (by omega))) | (exact Or.inr rfl) | (exact Or.inl (Or.inr rfl)) | (exact Or.inl (Or.inl ((hI _).mpr (by omega))))) (by first | assumption | exact va_up_self _ _ _ | (rw [va_up_ne _ _ (by omega)]; first | assumption | exact va_up_self _ _ _ | (rw [va_up_ne _ _ (by omega)]; first | assumption | exact va_up_self _ _ _))) (by first | assumption | exact va_up_self _ _ _ | (rw [va_up_ne _ _ (by omega)]; first | assumption | exact va_up_self _ _ _ | (rw [va_up_ne _ _ (by omega)]; first | assumption | exact va_up_self _ _ _))) rfl 0 (by decide) tw_96 rfl rfl dX5_init_34 rfl ?_
      refine pf_alen (q := 38) (i := (B + 1)) (t0 := 2) C (by first | (exact (hI _).mpr (by omega)) | (exact Or.inl ((hI _).mpr (by omega))) | (exact Or.inr rfl) | (exact Or.inl (Or.inr rfl)) | (exact Or.inl (Or.inl ((hI _).mpr (by omega))))) (by first | assumption | exact va_up_self _ _ _ | (rw [va_up_ne _ _ (by omega)]; first | assumption | exact va_up_self _ _ _ | (rw [va_up_ne _ _ (by omega)]; first | assumption | exact va_up_self _ _ _))) (by first | assumption | exact va_up_self _ _ _ | (rw [va_up_ne _ _ (by omega)]; first | assumption | exact va_up_self _ _ _ | (rw [va_up_ne _ _ (by omega)]; first | assumption | exact va_up_self _ _ _))) rfl dX5_init_37 rfl ?_
      refine pf_icmp_ge (tgt := 60) (q := 41) (n := 4) C dX5_init_38 (by decide) rfl (by omega) (by decide) (fun hge => ?_) (fun hlt => ?_)
      ·
        obtain rfl : g = 4 := by omega
        refine pf_vret C (fun i hi => (hI i).mpr (by omega)) (fun i hi => ?_) ha0 (by omega) (by omega) dX5_init_60
        rcases (show i = B ∨ i = B + 1 ∨ (B + 2 ≤ i ∧ i < B + (2 + 2 * 4)) by omega) with e | e | e
        · rw [e]; exact qE.of (by rw [(bI_5 hB).1, hc0, ha1])
        · rw [e, (bI_5 hB).2, hc1]; exact qE_q (fun j hj => hf j hj)
        · exact hQ i e
      ·
        have hk0 : kd (B + 1 + 1 + 2 * g) = 0 := kd_10_j hk10 hlt
        refine pf_aload_n (q := 42) C dX5_init_41 rfl rfl rfl ?_
        refine pf_get (q := 45) (C9 := RX5) (T := TX5) (N := 7) (ci := 5) (i := B) (fs := [.ref h6, .int (-99), .int 10, .int 8, .int 0, .int 0, .int 0]) (v := .ref h6) C inX5c (by first | (exact (hI _).mpr (by omega)) | (exact Or.inl ((hI _).mpr (by omega))) | (exact Or.inr rfl) | (exact Or.inl (Or.inr rfl)) | (exact Or.inl (Or.inl ((hI _).mpr (by omega))))) (by first | assumption | exact va_up_self _ _ _ | (rw [va_up_ne _ _ (by omega)]; first | assumption | exact va_up_self _ _ _ | (rw [va_up_ne _ _ (by omega)]; first | assumption | exact va_up_self _ _ _))) (by first | assumption | exact va_up_self _ _ _ | (rw [va_up_ne _ _ (by omega)]; first | assumption | exact va_up_self _ _ _ | (rw [va_up_ne _ _ (by omega)]; first | assumption | exact va_up_self _ _ _))) rfl 0 (by decide) tw_96 rfl rfl dX5_init_42 rfl ?_
        refine pf_iload_n (q := 46) C dX5_init_45 rfl rfl rfl ?_
        refine pf_new (q := 49) (C9 := RX0) (T := TX0) (N := 2) (ci := 0) (i := (B + 1 + 1 + 2 * g)) (fs := [.null, .int 0]) C hA inX0c tyX0 tyX0_ok tw_81 tw_83 tw_6 rfl (fun j hj => by rcases (show j = 0 ∨ j = 1 by omega) with rfl | rfl <;> rfl) (fun z => by first | (have := (hI _).mp z; omega) | (rcases z with z | z; (have := (hI _).mp z; omega); omega)) (by unfold NN; omega) (by rw [hKR]; constructor <;> (dsimp only; omega)) dX5_init_46 rfl (fun h46 => ?_)
        refine pf_dup (q := 50) C dX5_init_49 rfl rfl ?_
        refine pf_callIN (q := 53) (i := (B + 1 + 1 + 2 * g)) C hA hIK hKl (c_X0_init l X hgI ((B + 1 + 1 + 2 * g)) hk0) (hIK.2 _ (List.mem_of_getElem? (i := 1) rfl)) tw_86 tw_85 tw_6 rfl ⟨by decide, by decide, by decide +kernel⟩ ⟨rfl, rfl⟩ (by rw [hKR]; exact ⟨Nat.le_of_ble_eq_true rfl, Nat.le_of_ble_eq_true rfl⟩) (by rw [hKR]; constructor <;> (dsimp only; omega)) (by first | (exact (hI _).mpr (by omega)) | (exact Or.inl ((hI _).mpr (by omega))) | (exact Or.inr rfl) | (exact Or.inl (Or.inr rfl)) | (exact Or.inl (Or.inl ((hI _).mpr (by omega))))) (by first | assumption | exact va_up_self _ _ _ | (rw [va_up_ne _ _ (by omega)]; first | assumption | exact va_up_self _ _ _ | (rw [va_up_ne _ _ (by omega)]; first | assumption | exact va_up_self _ _ _))) (by first | assumption | exact va_up_self _ _ _ | (rw [va_up_ne _ _ (by omega)]; first | assumption | exact va_up_self _ _ _ | (rw [va_up_ne _ _ (by omega)]; first | assumption | exact va_up_self _ _ _))) (by first | omega | (dsimp only; omega)) (fun j hj => by by_cases e : j = (B + 1 + 1 + 2 * g); exact Or.inl e; exact Or.inr (fun z => z.elim (fun z => by have := (hI _).mp z; first | omega | (dsimp only at hj; omega)) e)) rfl (Nat.le_of_ble_eq_true rfl) dX5_init_50 rfl (fun u50 hu50 => ?_)
        refine pf_aast (q := 54) (i := (B + 1)) (j := (B + 1 + 1 + 2 * g)) (k := g) (t0 := 2) (ci := 0) (r := (RX0, TX0, 2)) C (Or.inl (Or.inl ((hI _).mpr (by omega)))) (by rw [mA_out (by omega), va_up_ne _ _ (by omega)]; exact ha1) (by rw [mC_out (by omega), va_up_ne _ _ (by omega)]; exact hc1) rfl (Or.inl (Or.inr rfl)) (by rw [mA_in (by omega)]; exact hu50) (by rw [mC_in (by omega)]; exact (bI_0 hk0).1) rfl (by omega) (by decide) dX5_init_53 rfl ?_
        refine pf_iinc (q := 57) (v := (nI (g + 1))) C dX5_init_54 rfl rfl (nI_add _ _) rfl ?_
        refine pf_goto (tgt := 32) C dX5_init_57 (by decide) ?_
        refine PF_widen (ce' := 1 + 2 * (g + 1)) (sl' := 4 + 18 * (g + 1)) (by omega) (by omega) ?_
        refine ih (g + 1) (va_up f g (some h46)) _ _ _ (by omega) (by omega) (by rw [mA_out (by omega), va_up_ne _ _ (by omega)]; exact ha0) (by rw [mA_out (by omega), va_up_ne _ _ (by omega)]; exact ha1) (by rw [va_up_ne _ _ (by omega), mC_out (by omega), va_up_ne _ _ (by omega)]; exact hc0) (va_up_self _ _ _) (fun j hj => ?_) ?_ (fun i => ?_)
        · by_cases e : j = g
          · subst e
            rw [va_up_self, mA_in (by omega), hu50]
          · rw [va_up_ne _ _ e, hf j (by omega), mA_out (by omega), va_up_ne _ _ (by omega)]
        · have q1 := QS_upa (i := (B + 1 + 1 + 2 * g)) (q := h46) (e := .inr (0, [.null, .int 0])) hQ (clo_v hB (by omega) (by omega) (fun k k1 k2 k3 => by
              have kvk : kv k = if k % 2 = 0 then 0 else 9 := (by decide : ∀ k, k < 10 → 2 ≤ k → kv k = if k % 2 = 0 then 0 else 9) k k1 k2
              rw [kvk]
              split
              · show k + 2 ≤ _; omega
              · show k + 1 ≤ _; omega)) (fun z => by have := z.2; omega)
          have q2 := QS_out (u := u50) (w := bI X u50) (J := (fun i => (B + 1 + 1 + 2 * g) ≤ i ∧ i < (B + 1 + 1 + 2 * g) + 2)) q1 (clo_v hB (by omega) (by omega) (fun k k1 k2 k3 => by
              have kvk : kv k = if k % 2 = 0 then 0 else 9 := (by decide : ∀ k, k < 10 → 2 ≤ k → kv k = if k % 2 = 0 then 0 else 9) k k1 k2
              rw [kvk]
              split
              · show k + 2 ≤ _; omega
              · show k + 1 ≤ _; omega)) (fun i z => by have := z.2; omega)
          have q3 : QS X _ _ (fun i => (B + 1 + 1 + 2 * g) ≤ i ∧ i < (B + 1 + 1 + 2 * g) + 2) := QS_call (X := X) (a := va_up a (B + 1 + 1 + 2 * g) h46) (u := u50) (c := va_up c (B + 1 + 1 + 2 * g) (.inr (0, [.null, .int 0]))) (clo_am hk0)
          exact QS_up (QS_or q2 q3 (fun i z => by
            have z1 := z.1
            have z2 := z.2
            by_cases e : i < B + (2 + 2 * g)
            · exact Or.inl ⟨z1, e⟩
            · exact Or.inr ⟨by omega, by omega⟩)) (fun z => by have := z.1; omega)
        · first
            | (rw [hI i]; omega)
            | (dsimp only; rw [hI i]; omega)
  exact loop 5 0 (fun _ => none) _ _ _ (by omega) (by omega) (by simp [va_up]) (by simp [va_up]) (by simp [va_up]) (by simp [va_up]) (fun j hj => absurd hj (by omega)) (fun i hi => absurd hi.2 (by have := hi.1; omega)) (fun i => by first | omega | (dsimp only; omega))
