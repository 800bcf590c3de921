/-! blocks of the pool as they are made -/
theorem dk_0f : ∀ i, i < 297 → kd i = 0 → dk i = 0 ∧ dk (i + 1) = 0 := by decide +kernel
theorem dk_1f : ∀ i, i < 297 → kd i = 1 → dk i = 0 ∧ dk (i + 1) = 0 ∧ dk (i + 2) = 0 ∧ dk (i + 3) = 0 := by decide +kernel
theorem dk_2f : ∀ i, i < 297 → kd i = 2 → dk i = 0 ∧ dk (i + 1) = 0 := by decide +kernel
theorem dk_4f : ∀ i, i < 297 → kd i = 4 → dk i = 0 ∧ dk (i + 1) = 3 ∧ dk (i + 2) = 0 := by decide +kernel
theorem dk_5f : ∀ i, i < 297 → kd i = 5 → dk i = 1 ∧ dk (i + 1) = 0 := by decide +kernel
theorem dk_3f : ∀ i, i < 297 → kd i = 3 → dk i = 2 ∧ dk (i + 8) = 0 := by decide +kernel
theorem bd_0 : ∀ i, i < 297 → kd i = 0 → i + 2 ≤ 297 := by decide +kernel
theorem bd_1 : ∀ i, i < 297 → kd i = 1 → i + 4 ≤ 297 := by decide +kernel
theorem bd_2 : ∀ i, i < 297 → kd i = 2 → i + 2 ≤ 297 := by decide +kernel
theorem bd_4 : ∀ i, i < 297 → kd i = 4 → i + 3 ≤ 297 := by decide +kernel
theorem bd_5 : ∀ i, i < 297 → kd i = 5 → i + 10 ≤ 297 := by decide +kernel
theorem bd_3 : ∀ i, i < 297 → kd i = 3 → i + 39 ≤ 297 := by decide +kernel
theorem kd_ks : ∀ i, i < 297 → kd i = 3 → ∀ k, k < 39 → kd (i + k) = ks k := by decide +kernel
theorem D0_of {i k : Nat} (h : dk i = k) : D0 i = dv k := by unfold D0; rw [h]
theorem bI_of {X : XT} {u : Nat → Nat} {i k : Nat} (h : kd i = k) : bI X u i = gcK (X.1, X.2.1, u) D0 P0 i k := by unfold bI gc; rw [h]
theorem bI_0 {X : XT} {u : Nat → Nat} {B : Nat} (h : kd B = 0) : bI X u B = .inr (0, [.ref (u (B + 1)), .int 0]) ∧ bI X u (B + 1) = .inl (X.2.1 1, 16, .inl (fun _ => 0)) := by
  obtain ⟨d0, d1⟩ := dk_0f B (kd_lt h (by decide)) h
  refine ⟨(bI_of h).trans ?_, (bI_of (kd_0_0 h)).trans ?_⟩
  · show (Sum.inr (0, [.ref (u (B + 1)), .int (D0 B 1)]) : va_E) = _
    rw [D0_of d0]; rfl
  · show (Sum.inl (X.2.1 1, 16, .inl (D0 (B + 1))) : va_E) = _
    rw [D0_of d1]; rfl
theorem bI_1 {X : XT} {u : Nat → Nat} {B : Nat} (h : kd B = 1) : bI X u B = .inr (1, [.ref (u (B + 1)), .ref (u (B + 2)), .ref (u (B + 3)), .int 0]) ∧ bI X u (B + 1) = .inl (X.2.1 1, 64, .inl (fun _ => 0)) ∧ bI X u (B + 2) = .inl (X.2.1 1, 64, .inl (fun _ => 0)) ∧ bI X u (B + 3) = .inl (X.2.1 1, 64, .inl (fun _ => 0)) := by
  obtain ⟨d0, d1, d2, d3⟩ := dk_1f B (kd_lt h (by decide)) h
  refine ⟨(bI_of h).trans ?_, (bI_of (kd_1_0 h)).trans ?_, (bI_of (kd_1_1 h)).trans ?_, (bI_of (kd_1_2 h)).trans ?_⟩
  · show (Sum.inr (1, [.ref (u (B + 1)), .ref (u (B + 2)), .ref (u (B + 3)), .int (D0 B 3)]) : va_E) = _
    rw [D0_of d0]; rfl
  · show (Sum.inl (X.2.1 1, 64, .inl (D0 (B + 1))) : va_E) = _
    rw [D0_of d1]; rfl
  · show (Sum.inl (X.2.1 1, 64, .inl (D0 (B + 2))) : va_E) = _
    rw [D0_of d2]; rfl
  · show (Sum.inl (X.2.1 1, 64, .inl (D0 (B + 3))) : va_E) = _
    rw [D0_of d3]; rfl
theorem bI_2 {X : XT} {u : Nat → Nat} {B : Nat} (h : kd B = 2) : bI X u B = .inr (2, [.ref (u (B + 1)), .int 0, .int 0, .int 0, .int 0, .int 0, .int 0]) ∧ bI X u (B + 1) = .inl (X.2.1 0, 60, .inl (fun _ => 0)) := by
  obtain ⟨d0, d1⟩ := dk_2f B (kd_lt h (by decide)) h
  refine ⟨(bI_of h).trans ?_, (bI_of (kd_2_0 h)).trans ?_⟩
  · show (Sum.inr (2, [.ref (u (B + 1)), .int (D0 B 1), .int (D0 B 2), .int (D0 B 3), .int (D0 B 4), .int (D0 B 5), .int (D0 B 6)]) : va_E) = _
    rw [D0_of d0]; rfl
  · show (Sum.inl (X.2.1 0, 60, .inl (D0 (B + 1))) : va_E) = _
    rw [D0_of d1]; rfl
theorem bI_4 {X : XT} {u : Nat → Nat} {B : Nat} (h : kd B = 4) : bI X u B = .inr (4, [.ref (u (B + 1)), .ref (u (B + 2))]) ∧ bI X u (B + 1) = .inl (X.2.1 1, 16, .inl (fun _ => -1)) ∧ bI X u (B + 2) = .inl (X.2.1 1, 16, .inl (fun _ => 0)) := by
  obtain ⟨d0, d1, d2⟩ := dk_4f B (kd_lt h (by decide)) h
  refine ⟨(bI_of h).trans rfl, (bI_of (kd_4_0 h)).trans ?_, (bI_of (kd_4_1 h)).trans ?_⟩
  · show (Sum.inl (X.2.1 1, 16, .inl (D0 (B + 1))) : va_E) = _
    rw [D0_of d1]; rfl
  · show (Sum.inl (X.2.1 1, 16, .inl (D0 (B + 2))) : va_E) = _
    rw [D0_of d2]; rfl
theorem bI_5 {X : XT} {u : Nat → Nat} {B : Nat} (h : kd B = 5) : bI X u B = .inr (5, [.ref (u (B + 1)), .int (-99), .int 10, .int 8, .int 0, .int 0, .int 0]) ∧ bI X u (B + 1) = .inl (X.2.1 2, 4, .inr (.inr (.inr (.inr (fun j => some (u (B + 1 + 1 + 2 * j))))))) := by
  obtain ⟨d0, d1⟩ := dk_5f B (kd_lt h (by decide)) h
  refine ⟨(bI_of h).trans ?_, (bI_of (kd_5_0 h)).trans rfl⟩
  show (Sum.inr (5, [.ref (u (B + 1)), .int (D0 B 1), .int (D0 B 2), .int (D0 B 3), .int (D0 B 4), .int (D0 B 5), .int (D0 B 6)]) : va_E) = _
  rw [D0_of d0]; rfl
theorem bI_3 {X : XT} {u : Nat → Nat} {B : Nat} (h : kd B = 3) : bI X u B = .inr (3, [.ref (u (B + 1)), .ref (u (B + 4)), .ref (u (B + 8)), .int 0, .int 0, .int 0, .int 0, .int (-1)]) ∧ bI X u (B + 8) = .inl (X.2.1 4, 3, .inr (.inr (.inr (.inr (fun j => some (u (B + 8 + 1 + 10 * j))))))) := by
  obtain ⟨d0, d1⟩ := dk_3f B (kd_lt h (by decide)) h
  refine ⟨(bI_of h).trans ?_, (bI_of (kd_3_2 h)).trans rfl⟩
  show (Sum.inr (3, [.ref (u (B + 1)), .ref (u (B + 4)), .ref (u (B + 8)), .int (D0 B 3), .int (D0 B 4), .int (D0 B 5), .int (D0 B 6), .int (D0 B 7)]) : va_E) = _
  rw [D0_of d0]; rfl
/-- how far the places reach that a thing of the pool names -/
def exK : Nat → Nat
  | 0 => 2 | 1 => 4 | 2 => 2 | 3 => 9 | 4 => 3 | 5 => 2 | 10 => 8 | 12 => 22 | _ => 1
theorem bI_cg {X : XT} {u u' : Nat → Nat} {i : Nat} (hi : kd i < 18) (h6 : kd i ≠ 6) (h7 : kd i ≠ 7) (h11 : kd i ≠ 11) (h : ∀ j, i < j → j < i + exK (kd i) → u' j = u j) : qE X (bI X u i) (bI X u' i) := by
  unfold bI gc
  generalize kd i = k at *
  match k, hi with
  | 0, _ => exact qE.of (by show (Sum.inr (0, [.ref (u (i + 1)), .int (D0 i 1)]) : va_E) = .inr (0, [.ref (u' (i + 1)), .int (D0 i 1)]); rw [h (i + 1) (by omega) (by show i + 1 < i + 2; omega)])
  | 1, _ => exact qE.of (by show (Sum.inr (1, [.ref (u (i + 1)), .ref (u (i + 2)), .ref (u (i + 3)), .int (D0 i 3)]) : va_E) = .inr (1, [.ref (u' (i + 1)), .ref (u' (i + 2)), .ref (u' (i + 3)), .int (D0 i 3)]); rw [h (i + 1) (by omega) (by show i + 1 < i + 4; omega), h (i + 2) (by omega) (by show i + 2 < i + 4; omega), h (i + 3) (by omega) (by show i + 3 < i + 4; omega)])
  | 2, _ => exact qE.of (by show (Sum.inr (2, [.ref (u (i + 1)), .int (D0 i 1), .int (D0 i 2), .int (D0 i 3), .int (D0 i 4), .int (D0 i 5), .int (D0 i 6)]) : va_E) = .inr (2, [.ref (u' (i + 1)), .int (D0 i 1), .int (D0 i 2), .int (D0 i 3), .int (D0 i 4), .int (D0 i 5), .int (D0 i 6)]); rw [h (i + 1) (by omega) (by show i + 1 < i + 2; omega)])
  | 3, _ => exact qE.of (by show (Sum.inr (3, [.ref (u (i + 1)), .ref (u (i + 4)), .ref (u (i + 8)), .int (D0 i 3), .int (D0 i 4), .int (D0 i 5), .int (D0 i 6), .int (D0 i 7)]) : va_E) = .inr (3, [.ref (u' (i + 1)), .ref (u' (i + 4)), .ref (u' (i + 8)), .int (D0 i 3), .int (D0 i 4), .int (D0 i 5), .int (D0 i 6), .int (D0 i 7)]); rw [h (i + 1) (by omega) (by show i + 1 < i + 9; omega), h (i + 4) (by omega) (by show i + 4 < i + 9; omega), h (i + 8) (by omega) (by show i + 8 < i + 9; omega)])
  | 4, _ => exact qE.of (by show (Sum.inr (4, [.ref (u (i + 1)), .ref (u (i + 2))]) : va_E) = .inr (4, [.ref (u' (i + 1)), .ref (u' (i + 2))]); rw [h (i + 1) (by omega) (by show i + 1 < i + 3; omega), h (i + 2) (by omega) (by show i + 2 < i + 3; omega)])
  | 5, _ => exact qE.of (by show (Sum.inr (5, [.ref (u (i + 1)), .int (D0 i 1), .int (D0 i 2), .int (D0 i 3), .int (D0 i 4), .int (D0 i 5), .int (D0 i 6)]) : va_E) = .inr (5, [.ref (u' (i + 1)), .int (D0 i 1), .int (D0 i 2), .int (D0 i 3), .int (D0 i 4), .int (D0 i 5), .int (D0 i 6)]); rw [h (i + 1) (by omega) (by show i + 1 < i + 2; omega)])
  | 6, _ => exact absurd rfl h6
  | 7, _ => exact absurd rfl h7
  | 8, _ => exact qE.rf _
  | 9, _ => exact qE.rf _
  | 10, _ => exact qE_q (f := fun j => some (u (i + 1 + 2 * j))) (g := fun j => some (u' (i + 1 + 2 * j))) (fun j hj => by show some (u _) = some (u' _); rw [h (i + 1 + 2 * j) (by omega) (by show i + 1 + 2 * j < i + 8; omega)])
  | 11, _ => exact absurd rfl h11
  | 12, _ => exact qE_q (f := fun j => some (u (i + 1 + 10 * j))) (g := fun j => some (u' (i + 1 + 10 * j))) (fun j hj => by show some (u _) = some (u' _); rw [h (i + 1 + 10 * j) (by omega) (by show i + 1 + 10 * j < i + 22; omega)])
  | 13, _ => exact qE.rf _
  | 14, _ => exact qE.rf _
  | 15, _ => exact qE.rf _
  | 16, _ => exact qE.rf _
  | 17, _ => exact qE.rf _
  | n + 18, hz => exact absurd hz (by omega)
set_option maxRecDepth 100000 in
set_option maxHeartbeats 4000000 in
theorem c_X0_init (l : Launch) (X : XT) (hgI : gI X) (B : Nat) (hB : kd B = 0) : IG l X yX0_init cX0_init 1 ({ frames := 1, cells := 1, slots := 16, locals := 36 } : Room) (.inr (0, [.null, .int 0])) B (fun i => B ≤ i ∧ i < B + 2) 1 16 := by
  refine ig_of hgI (kd_lt hB (by decide)) (by decide +kernel) (by decide) rfl ?_
  intro K h A hKl hKR C hnm hIK hA
  have hBN := bd_0 B (kd_lt hB (by decide)) hB
  refine PF_lv (lv' := [some (.ref h)]) rfl ?_
  refine pf_aload_n (q := 1) C dX0_init_0 rfl rfl rfl ?_
  refine pf_obj (q := 4) C tw_87 rfl (by rw [hKR]; exact ⟨Nat.le_of_ble_eq_true rfl, Nat.le_of_ble_eq_true rfl⟩) dX0_init_1 rfl ?_
  refine pf_aload_n (q := 5) C dX0_init_4 rfl rfl rfl ?_
  refine pf_bipush (q := 7) (v := 16) C dX0_init_5 rfl (by decide) ?_
  refine pf_newa (q := 9) (atype := .int) (i := (B + 1)) (n := 16) (t0 := 1) (ty := .int) (a0 := (16, .inl (fun _ => 0))) C hA tw_49 rfl rfl (fun _ => rfl) (by decide) (by decide) (by decide) (by first | fail | (dsimp only; omega) | omega | simp) (by unfold NN; omega) (by rw [hKR]; constructor <;> (dsimp only; omega)) dX0_init_7 rfl (fun h7 => ?_)
  refine pf_putF (q := 12) (C9 := RX0) (T := TX0) (N := 2) (ci := 0) (i := B) (fs := [.null, .int 0]) (ty := tyX0 0) C inX0c tyX0 tyX0_ok nmX0 (by first | rfl | (dsimp only; omega) | omega | simp) (by first | rfl | assumption | (simp [va_up]) | (simp [va_up]; omega)) (by first | rfl | assumption | (simp [va_up]) | (simp [va_up]; omega)) rfl 0 (by decide) tw_88 rfl rfl hnm rfl (tyX0_ok 0 (by decide)) rfl rfl (Nat.le_of_ble_eq_true rfl) dX0_init_9 rfl ?_
  refine pf_vret C (fun i hi => by first | omega | (dsimp only at hi ⊢; omega) | (dsimp only; omega)) (fun i hi => ?_) (by first | rfl | assumption | (simp [va_up]) | (simp [va_up]; omega)) (by omega) (by omega) dX0_init_12
  rcases (show i = B ∨ i = B + 1 by omega) with e | e
  · rw [e]; exact qE.of (by rw [(bI_0 hB).1]; simp [va_up])
  · rw [e]; exact qE.of (by rw [(bI_0 hB).2]; simp [va_up])
set_option maxRecDepth 100000 in
set_option maxHeartbeats 4000000 in
theorem c_X1_init (l : Launch) (X : XT) (hgI : gI X) (B : Nat) (hB : kd B = 1) : IG l X yX1_init cX1_init 1 ({ frames := 1, cells := 3, slots := 192, locals := 36 } : Room) (.inr (1, [.null, .null, .null, .int 0])) B (fun i => B ≤ i ∧ i < B + 4) 3 192 := by
  refine ig_of hgI (kd_lt hB (by decide)) (by decide +kernel) (by decide) rfl ?_
  intro K h A hKl hKR C hnm hIK hA
  have hBN := bd_1 B (kd_lt hB (by decide)) hB
  refine PF_lv (lv' := [some (.ref h)]) rfl ?_
  refine pf_aload_n (q := 1) C dX1_init_0 rfl rfl rfl ?_
  refine pf_obj (q := 4) C tw_55 rfl (by rw [hKR]; exact ⟨Nat.le_of_ble_eq_true rfl, Nat.le_of_ble_eq_true rfl⟩) dX1_init_1 rfl ?_
  refine pf_aload_n (q := 5) C dX1_init_4 rfl rfl rfl ?_
  refine pf_bipush (q := 7) (v := 64) C dX1_init_5 rfl (by decide) ?_
  refine pf_newa (q := 9) (atype := .int) (i := (B + 1)) (n := 64) (t0 := 1) (ty := .int) (a0 := (64, .inl (fun _ => 0))) C hA tw_49 rfl rfl (fun _ => rfl) (by decide) (by decide) (by decide) (by first | fail | (dsimp only; omega) | omega | simp) (by unfold NN; omega) (by rw [hKR]; constructor <;> (dsimp only; omega)) dX1_init_7 rfl (fun h7 => ?_)
  refine pf_putF (q := 12) (C9 := RX1) (T := TX1) (N := 4) (ci := 1) (i := B) (fs := [.null, .null, .null, .int 0]) (ty := tyX1 0) C inX1c tyX1 tyX1_ok nmX1 (by first | rfl | (dsimp only; omega) | omega | simp) (by first | rfl | assumption | (simp [va_up]) | (simp [va_up]; omega)) (by first | rfl | assumption | (simp [va_up]) | (simp [va_up]; omega)) rfl 0 (by decide) tw_56 rfl rfl hnm rfl (tyX1_ok 0 (by decide)) rfl rfl (Nat.le_of_ble_eq_true rfl) dX1_init_9 rfl ?_
  refine pf_aload_n (q := 13) C dX1_init_12 rfl rfl rfl ?_
  refine pf_bipush (q := 15) (v := 64) C dX1_init_13 rfl (by decide) ?_
  refine pf_newa (q := 17) (atype := .int) (i := (B + 2)) (n := 64) (t0 := 1) (ty := .int) (a0 := (64, .inl (fun _ => 0))) C hA tw_49 rfl rfl (fun _ => rfl) (by decide) (by decide) (by decide) (by first | fail | (dsimp only; omega) | omega | simp) (by unfold NN; omega) (by rw [hKR]; constructor <;> (dsimp only; omega)) dX1_init_15 rfl (fun h15 => ?_)
  refine pf_putF (q := 20) (C9 := RX1) (T := TX1) (N := 4) (ci := 1) (i := B) (fs := [.ref h7, .null, .null, .int 0]) (ty := tyX1 1) C inX1c tyX1 tyX1_ok nmX1 (by first | rfl | (dsimp only; omega) | omega | simp) (by first | rfl | assumption | (simp [va_up]) | (simp [va_up]; omega)) (by first | rfl | assumption | (simp [va_up]) | (simp [va_up]; omega)) rfl 1 (by decide) tw_58 rfl rfl hnm rfl (tyX1_ok 1 (by decide)) rfl rfl (Nat.le_of_ble_eq_true rfl) dX1_init_17 rfl ?_
  refine pf_aload_n (q := 21) C dX1_init_20 rfl rfl rfl ?_
  refine pf_bipush (q := 23) (v := 64) C dX1_init_21 rfl (by decide) ?_
  refine pf_newa (q := 25) (atype := .int) (i := (B + 3)) (n := 64) (t0 := 1) (ty := .int) (a0 := (64, .inl (fun _ => 0))) C hA tw_49 rfl rfl (fun _ => rfl) (by decide) (by decide) (by decide) (by first | fail | (dsimp only; omega) | omega | simp) (by unfold NN; omega) (by rw [hKR]; constructor <;> (dsimp only; omega)) dX1_init_23 rfl (fun h23 => ?_)
  refine pf_putF (q := 28) (C9 := RX1) (T := TX1) (N := 4) (ci := 1) (i := B) (fs := [.ref h7, .ref h15, .null, .int 0]) (ty := tyX1 2) C inX1c tyX1 tyX1_ok nmX1 (by first | rfl | (dsimp only; omega) | omega | simp) (by first | rfl | assumption | (simp [va_up]) | (simp [va_up]; omega)) (by first | rfl | assumption | (simp [va_up]) | (simp [va_up]; omega)) rfl 2 (by decide) tw_60 rfl rfl hnm rfl (tyX1_ok 2 (by decide)) rfl rfl (Nat.le_of_ble_eq_true rfl) dX1_init_25 rfl ?_
  refine pf_vret C (fun i hi => by first | omega | (dsimp only at hi ⊢; omega) | (dsimp only; omega)) (fun i hi => ?_) (by first | rfl | assumption | (simp [va_up]) | (simp [va_up]; omega)) (by omega) (by omega) dX1_init_28
  rcases (show i = B ∨ i = B + 1 ∨ i = B + 2 ∨ i = B + 3 by omega) with e | e | e | e
  · rw [e]; exact qE.of (by rw [(bI_1 hB).1]; simp [va_up])
  · rw [e]; exact qE.of (by rw [(bI_1 hB).2.1]; simp [va_up])
  · rw [e]; exact qE.of (by rw [(bI_1 hB).2.2.1]; simp [va_up])
  · rw [e]; exact qE.of (by rw [(bI_1 hB).2.2.2]; simp [va_up])
set_option maxRecDepth 100000 in
set_option maxHeartbeats 4000000 in
theorem c_X2_init (l : Launch) (X : XT) (hgI : gI X) (B : Nat) (hB : kd B = 2) : IG l X yX2_init cX2_init 1 ({ frames := 1, cells := 1, slots := 60, locals := 36 } : Room) (.inr (2, [.null, .int 0, .int 0, .int 0, .int 0, .int 0, .int 0])) B (fun i => B ≤ i ∧ i < B + 2) 1 60 := by
  refine ig_of hgI (kd_lt hB (by decide)) (by decide +kernel) (by decide) rfl ?_
  intro K h A hKl hKR C hnm hIK hA
  have hBN := bd_2 B (kd_lt hB (by decide)) hB
  refine PF_lv (lv' := [some (.ref h)]) rfl ?_
  refine pf_aload_n (q := 1) C dX2_init_0 rfl rfl rfl ?_
  refine pf_obj (q := 4) C tw_167 rfl (by rw [hKR]; exact ⟨Nat.le_of_ble_eq_true rfl, Nat.le_of_ble_eq_true rfl⟩) dX2_init_1 rfl ?_
  refine pf_aload_n (q := 5) C dX2_init_4 rfl rfl rfl ?_
  refine pf_bipush (q := 7) (v := 60) C dX2_init_5 rfl (by decide) ?_
  refine pf_newa (q := 9) (atype := .char) (i := (B + 1)) (n := 60) (t0 := 0) (ty := .char) (a0 := (60, .inl (fun _ => 0))) C hA tw_196 rfl rfl (fun _ => rfl) (by decide) (by decide) (by decide) (by first | fail | (dsimp only; omega) | omega | simp) (by unfold NN; omega) (by rw [hKR]; constructor <;> (dsimp only; omega)) dX2_init_7 rfl (fun h7 => ?_)
  refine pf_putF (q := 12) (C9 := RX2) (T := TX2) (N := 7) (ci := 2) (i := B) (fs := [.null, .int 0, .int 0, .int 0, .int 0, .int 0, .int 0]) (ty := tyX2 0) C inX2c tyX2 tyX2_ok nmX2 (by first | rfl | (dsimp only; omega) | omega | simp) (by first | rfl | assumption | (simp [va_up]) | (simp [va_up]; omega)) (by first | rfl | assumption | (simp [va_up]) | (simp [va_up]; omega)) rfl 0 (by decide) tw_168 rfl rfl hnm rfl (tyX2_ok 0 (by decide)) rfl rfl (Nat.le_of_ble_eq_true rfl) dX2_init_9 rfl ?_
  refine pf_vret C (fun i hi => by first | omega | (dsimp only at hi ⊢; omega) | (dsimp only; omega)) (fun i hi => ?_) (by first | rfl | assumption | (simp [va_up]) | (simp [va_up]; omega)) (by omega) (by omega) dX2_init_12
  rcases (show i = B ∨ i = B + 1 by omega) with e | e
  · rw [e]; exact qE.of (by rw [(bI_2 hB).1]; simp [va_up])
  · rw [e]; exact qE.of (by rw [(bI_2 hB).2]; simp [va_up])
set_option maxRecDepth 100000 in
set_option maxHeartbeats 4000000 in
theorem c_X4_init (l : Launch) (X : XT) (hgI : gI X) (B : Nat) (hB : kd B = 4) : IG l X yX4_init cX4_init 2 ({ frames := 1, cells := 2, slots := 32, locals := 36 } : Room) (.inr (4, [.null, .null])) B (fun i => B ≤ i ∧ i < B + 3) 2 32 := by
  refine ig_of hgI (kd_lt hB (by decide)) (by decide +kernel) (by decide) rfl ?_
  intro K h A hKl hKR C hnm hIK hA
  have hBN := bd_4 B (kd_lt hB (by decide)) hB
  refine PF_lv (lv' := [some (.ref h), none]) rfl ?_
  refine pf_aload_n (q := 1) C dX4_init_0 rfl rfl rfl ?_
  refine pf_obj (q := 4) C tw_35 rfl (by rw [hKR]; exact ⟨Nat.le_of_ble_eq_true rfl, Nat.le_of_ble_eq_true rfl⟩) dX4_init_1 rfl ?_
  refine pf_aload_n (q := 5) C dX4_init_4 rfl rfl rfl ?_
  refine pf_bipush (q := 7) (v := 16) C dX4_init_5 rfl (by decide) ?_
  refine pf_newa (q := 9) (atype := .int) (i := (B + 1)) (n := 16) (t0 := 1) (ty := .int) (a0 := (16, .inl (fun _ => 0))) C hA tw_49 rfl rfl (fun _ => rfl) (by decide) (by decide) (by decide) (by first | fail | (dsimp only; omega) | omega | simp) (by unfold NN; omega) (by rw [hKR]; constructor <;> (dsimp only; omega)) dX4_init_7 rfl (fun h7 => ?_)
  refine pf_putF (q := 12) (C9 := RX4) (T := TX4) (N := 2) (ci := 4) (i := B) (fs := [.null, .null]) (ty := tyX4 0) C inX4c tyX4 tyX4_ok nmX4 (by first | rfl | (dsimp only; omega) | omega | simp) (by first | rfl | assumption | (simp [va_up]) | (simp [va_up]; omega)) (by first | rfl | assumption | (simp [va_up]) | (simp [va_up]; omega)) rfl 0 (by decide) tw_36 rfl rfl hnm rfl (tyX4_ok 0 (by decide)) rfl rfl (Nat.le_of_ble_eq_true rfl) dX4_init_9 rfl ?_
  refine pf_aload_n (q := 13) C dX4_init_12 rfl rfl rfl ?_
  refine pf_bipush (q := 15) (v := 16) C dX4_init_13 rfl (by decide) ?_
  refine pf_newa (q := 17) (atype := .int) (i := (B + 2)) (n := 16) (t0 := 1) (ty := .int) (a0 := (16, .inl (fun _ => 0))) C hA tw_49 rfl rfl (fun _ => rfl) (by decide) (by decide) (by decide) (by first | fail | (dsimp only; omega) | omega | simp) (by unfold NN; omega) (by rw [hKR]; constructor <;> (dsimp only; omega)) dX4_init_15 rfl (fun h15 => ?_)
  refine pf_putF (q := 20) (C9 := RX4) (T := TX4) (N := 2) (ci := 4) (i := B) (fs := [.ref h7, .null]) (ty := tyX4 1) C inX4c tyX4 tyX4_ok nmX4 (by first | rfl | (dsimp only; omega) | omega | simp) (by first | rfl | assumption | (simp [va_up]) | (simp [va_up]; omega)) (by first | rfl | assumption | (simp [va_up]) | (simp [va_up]; omega)) rfl 1 (by decide) tw_40 rfl rfl hnm rfl (tyX4_ok 1 (by decide)) rfl rfl (Nat.le_of_ble_eq_true rfl) dX4_init_17 rfl ?_
  refine pf_iconst (q := 21) (v := 0) C dX4_init_20 rfl (by decide) ?_
  refine pf_istore_n (q := 22) C dX4_init_21 rfl rfl (Nat.le_of_ble_eq_true rfl) rfl ?_
  have loop : ∀ (nn t : Nat) (f : Nat → Int32) (c : Nat → va_E), (17 ≤ t + nn) → t ≤ 16 → c B = .inr (4, [.ref h7, .ref h15]) → c (B + 1) = .inl (X.2.1 1, 16, .inl f) → c (B + 2) = .inl (X.2.1 1, 16, .inl (fun _ => 0)) → (∀ j, j < t → f j = -1) → PF K X A (IQ K X A (fun i => B ≤ i ∧ i < B + 3) B h 2 32) 2 32 22 [some (.ref h), some (.int (nI t))] [] (va_up (va_up (fun _ => h) (B + 1) h7) (B + 2) h15) c (fun j => (j = B ∨ j = B + 1) ∨ j = B + 2) := by
    intro nn
    induction nn with
    | zero =>
      intro t f c hfuel ht
      exact absurd hfuel (by omega)
    | succ nn ih =>
      intro t f c hfuel ht hc0 hc1 hc2 hf
      refine pf_iload_n (q := 23) C dX4_init_22 rfl rfl rfl ?_
      refine pf_aload_n (q := 24) C dX4_init_23 rfl rfl rfl ?_
      refine pf_get (q := 27) (C9 := RX4) (T := TX4) (N := 2) (ci := 4) (i := B) (fs := [.ref h7, .ref h15]) (v := .ref h7) C inX4c (by first | rfl | (dsimp only; omega) | omega | simp) (by first | rfl | assumption | (simp [va_up]) | (simp [va_up]; omega)) (by first | rfl | assumption | (simp [va_up]) | (simp [va_up]; omega)) rfl 0 (by decide) tw_36 rfl rfl dX4_init_24 rfl ?_
      refine pf_alen (q := 28) (i := (B + 1)) (t0 := 1) C (by first | rfl | (dsimp only; omega) | omega | simp) (by first | rfl | assumption | (simp [va_up]) | (simp [va_up]; omega)) (by first | rfl | assumption | (simp [va_up]) | (simp [va_up]; omega)) rfl dX4_init_27 rfl ?_
      refine pf_icmp_ge (tgt := 44) (q := 31) (n := 16) C dX4_init_28 (by decide) rfl (by omega) (by decide) (fun hge => ?_) (fun hlt => ?_)
      ·
        refine pf_vret C (fun i hi => by first | omega | (dsimp only at hi ⊢; omega) | (dsimp only; omega)) (fun i hi => ?_) (by first | rfl | assumption | (simp [va_up]) | (simp [va_up]; omega)) (by omega) (by omega) dX4_init_44
        rcases (show i = B ∨ i = B + 1 ∨ i = B + 2 by omega) with e | e | e
        · rw [e]; exact qE.of (by rw [(bI_4 hB).1, hc0]; simp [va_up])
        · rw [e]; exact (by rw [(bI_4 hB).2.1, hc1]; exact qE_i (fun j hj => hf j (by omega)))
        · rw [e]; exact qE.of (by rw [(bI_4 hB).2.2, hc2])
      ·
        refine pf_aload_n (q := 32) C dX4_init_31 rfl rfl rfl ?_
        refine pf_get (q := 35) (C9 := RX4) (T := TX4) (N := 2) (ci := 4) (i := B) (fs := [.ref h7, .ref h15]) (v := .ref h7) C inX4c (by first | rfl | (dsimp only; omega) | omega | simp) (by first | rfl | assumption | (simp [va_up]) | (simp [va_up]; omega)) (by first | rfl | assumption | (simp [va_up]) | (simp [va_up]; omega)) rfl 0 (by decide) tw_36 rfl rfl dX4_init_32 rfl ?_
        refine pf_iload_n (q := 36) C dX4_init_35 rfl rfl rfl ?_
        refine pf_iconst (q := 37) (v := (-1)) C dX4_init_36 rfl (by decide) ?_
        refine pf_iast (q := 38) (i := (B + 1)) (j := t) C (by first | rfl | (dsimp only; omega) | omega | simp) (by first | rfl | assumption | (simp [va_up]) | (simp [va_up]; omega)) (by first | rfl | assumption | (simp [va_up]) | (simp [va_up]; omega)) rfl hlt (by decide) dX4_init_37 rfl ?_
        refine pf_iinc (q := 41) (v := (nI (t + 1))) C dX4_init_38 rfl rfl (nI_add _ _) rfl ?_
        refine pf_goto (tgt := 22) C dX4_init_41 (by decide) ?_
        exact ih (t + 1) (va_up f t (-1)) _ (by omega) (by omega) (by rw [va_up_ne _ _ (by omega)]; exact hc0) (by rw [va_up_self]) (by rw [va_up_ne _ _ (by omega)]; exact hc2) (fun j hj => by
          by_cases e : j = t
          · rw [e, va_up_self]
          · rw [va_up_ne _ _ e]; exact hf j (by omega))
  exact loop 17 0 (fun _ => 0) _ (by omega) (by omega) (by simp [va_up]) (by simp [va_up]) (by simp [va_up]) (fun j hj => absurd hj (by omega))
