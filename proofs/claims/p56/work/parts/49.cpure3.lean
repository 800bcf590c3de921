/-- a view's bounds, its filter: what its fields say then -/
theorem Rp_setk {D D2 : DT} {B v k : Nat} {x : Int32} {row : Nat → Int32} {G A : Nat → Nat → Int32} {wr : Nat} {nx : Nat → Nat} (h : Rp D B row G A wr nx) (hv : v < 3) (hk : k = 2 ∨ k = 3) (hD : D2 = up2 D (B + 8 + 1 + 10 * v) k x) : Rp D2 B (setV row v (33 + k) x) G A wr nx := by
  obtain ⟨h1, h2, h3, h4, h5, h6⟩ := h
  have eO : ∀ i, i ≠ B + 8 + 1 + 10 * v → D2 i = D i := fun i hi => by rw [hD, up2_ne _ _ _ hi]
  have eV : ∀ j, j ≠ k → D2 (B + 8 + 1 + 10 * v) j = D (B + 8 + 1 + 10 * v) j := fun j a => by rw [hD, up2_nk _ _ _ a]
  have eR : ∀ j, j ≠ 32 + 38 * v + (33 + k) → setV row v (33 + k) x j = row j := fun j a => by unfold setV; rw [va_up_ne _ _ a]
  refine ⟨by rw [eO _ (by omega)]; exact h1, by rw [eR _ (by omega)]; exact h2, h3, fun p hp => by rw [eR _ (by omega), eR _ (by omega)]; exact h4 p hp, fun u hu => ?_, fun j a b => by rw [eO _ (by omega), eR _ (by omega)]; exact h6 j a b⟩
  obtain ⟨q1, q2, q3, q4, q5, q6, q7, q8, q9, q10, q11⟩ := h5 u hu
  have q9' : ∀ d, nx u ≤ d → d < wr → LSt D2 (B + 4) G A d ∧ D2 (B + 4 + 2) (d % 64) = setV row v (33 + k) x (146 + d % 32) := fun d a b => by
    obtain ⟨z1, z2⟩ := q9 d a b
    exact ⟨LSt_cong z1 (by rw [eO _ (by omega)]) (by rw [eO _ (by omega)]) (by rw [eO _ (by omega)]) rfl rfl rfl rfl, by rw [eO _ (by omega), eR _ (by omega)]; exact z2⟩
  have q11' : ∀ p, p < 16 → setV row v (33 + k) x (32 + 38 * u + p) = G (nx u) p + 1 ∧ (setV row v (33 + k) x (32 + 38 * u + p) ≠ 0 → setV row v (33 + k) x (32 + 38 * u + (16 + p)) = A (nx u) p) := fun p hp => by rw [eR _ (by omega), eR _ (by omega)]; exact q11 p hp
  by_cases e : u = v
  · subst e
    refine ⟨by rw [eV 6 (by omega)]; exact q1, by rw [eR _ (by omega)]; exact q2, q3, q4, fun j a b => ?_, by rw [eV 4 (by omega), eR _ (by omega)]; exact q6, by rw [eV 5 (by omega), eR _ (by omega)]; exact q7, by rw [eR _ (by omega)]; exact q8, q9', SV_cong q10 (fun i a b k _ => by rw [eO i (by omega)]) (eV 1 (by omega)) (fun _ _ => rfl) (fun _ _ _ => rfl), q11'⟩
    by_cases e2 : j = k
    · subst e2; rw [hD, up2_self]; unfold setV; rw [va_up_self]
    · rw [eV j e2, eR _ (by omega)]; exact q5 j a b
  · refine ⟨by rw [eO _ (by omega)]; exact q1, by rw [eR _ (by omega)]; exact q2, q3, q4, fun j a b => by rw [eO _ (by omega), eR _ (by omega)]; exact q5 j a b, by rw [eO _ (by omega), eR _ (by omega)]; exact q6, by rw [eO _ (by omega), eR _ (by omega)]; exact q7, by rw [eR _ (by omega)]; exact q8, q9', SV_cong q10 (fun i a b k _ => by rw [eO i (by omega)]) (by rw [eO _ (by omega)]) (fun _ _ => rfl) (fun _ _ _ => rfl), q11'⟩
theorem Rp_setf {D : DT} {B v : Nat} (x : Int32) {row : Nat → Int32} {G A : Nat → Nat → Int32} {wr : Nat} {nx : Nat → Nat} (h : Rp D B row G A wr nx) (hv : v < 3) : ∃ D2 : DT, Rp D2 B (setV row v 34 x) G A wr nx ∧ (∀ i, (i < B + 8 + 1 + 10 * v ∨ B + 8 + 1 + 10 * v + 10 ≤ i) → D2 i = D i) ∧ D2 (B + 8 + 1 + 10 * v) 1 = x ∧ ∀ k, k ≠ 1 → D2 (B + 8 + 1 + 10 * v) k = D (B + 8 + 1 + 10 * v) k := by
  obtain ⟨h1, h2, h3, h4, h5, h6⟩ := h
  have hS := fun g => SL_ex (G (nx v)) (A (nx v)) (nI g) x 16
  let F : Nat → Nat → Int32 := fun g => Classical.choose (hS g)
  have hF : ∀ g, SL (F g) (ct (fun p => decide (G (nx v) p = nI g ∧ x ≤ A (nx v) p)) 16) (fun a => tcn (G (nx v)) (A (nx v)) (nI g) x a 16) := fun g => Classical.choose_spec (hS g)
  let D2 : DT := fun i => if i = B + 8 + 1 + 10 * v then va_up (D i) 1 x else if B + 8 + 1 + 10 * v + 2 ≤ i ∧ i < B + 8 + 1 + 10 * v + 10 then (if (i - (B + 8 + 1 + 10 * v)) % 2 = 0 then fun _ => nI (ct (fun p => decide (G (nx v) p = nI ((i - (B + 8 + 1 + 10 * v) - 2) / 2) ∧ x ≤ A (nx v) p)) 16) else F ((i - (B + 8 + 1 + 10 * v) - 2) / 2)) else D i
  have eV : D2 (B + 8 + 1 + 10 * v) = va_up (D (B + 8 + 1 + 10 * v)) 1 x := if_pos rfl
  have eO : ∀ i, (i < B + 8 + 1 + 10 * v ∨ B + 8 + 1 + 10 * v + 10 ≤ i) → D2 i = D i := fun i hi => by
    show (if i = B + 8 + 1 + 10 * v then _ else _) = _
    rw [if_neg (by omega), if_neg (by omega)]
  have eH : ∀ g, g < 4 → D2 (B + 8 + 1 + 10 * v + 1 + 1 + 2 * g) = fun _ => nI (ct (fun p => decide (G (nx v) p = nI g ∧ x ≤ A (nx v) p)) 16) := fun g hg => by
    show (if B + 8 + 1 + 10 * v + 1 + 1 + 2 * g = B + 8 + 1 + 10 * v then _ else _) = _
    rw [if_neg (by omega), if_pos (by omega), if_pos (by omega), show (B + 8 + 1 + 10 * v + 1 + 1 + 2 * g - (B + 8 + 1 + 10 * v) - 2) / 2 = g by omega]
  have eA : ∀ g, g < 4 → D2 (B + 8 + 1 + 10 * v + 1 + 1 + 2 * g + 1) = F g := fun g hg => by
    show (if B + 8 + 1 + 10 * v + 1 + 1 + 2 * g + 1 = B + 8 + 1 + 10 * v then _ else _) = _
    rw [if_neg (by omega), if_pos (by omega), if_neg (by omega), show (B + 8 + 1 + 10 * v + 1 + 1 + 2 * g + 1 - (B + 8 + 1 + 10 * v) - 2) / 2 = g by omega]
  have eK : ∀ k, k ≠ 1 → D2 (B + 8 + 1 + 10 * v) k = D (B + 8 + 1 + 10 * v) k := fun k hk => by rw [eV, va_up_ne _ _ hk]
  have eR : ∀ j, j ≠ 32 + 38 * v + 34 → setV row v 34 x j = row j := fun j a => by unfold setV; rw [va_up_ne _ _ a]
  refine ⟨D2, ⟨by rw [eO _ (by omega)]; exact h1, by rw [eR _ (by omega)]; exact h2, h3, fun p hp => by rw [eR _ (by omega), eR _ (by omega)]; exact h4 p hp, fun u hu => ?_, fun j a b => by rw [eO _ (by omega), eR _ (by omega)]; exact h6 j a b⟩, eO, by rw [eV, va_up_self], eK⟩
  obtain ⟨q1, q2, q3, q4, q5, q6, q7, q8, q9, q10, q11⟩ := h5 u hu
  have q9' : ∀ d, nx u ≤ d → d < wr → LSt D2 (B + 4) G A d ∧ D2 (B + 4 + 2) (d % 64) = setV row v 34 x (146 + d % 32) := fun d a b => by
    obtain ⟨z1, z2⟩ := q9 d a b
    exact ⟨LSt_cong z1 (by rw [eO _ (by omega)]) (by rw [eO _ (by omega)]) (by rw [eO _ (by omega)]) rfl rfl rfl rfl, by rw [eO _ (by omega), eR _ (by omega)]; exact z2⟩
  have q11' : ∀ p, p < 16 → setV row v 34 x (32 + 38 * u + p) = G (nx u) p + 1 ∧ (setV row v 34 x (32 + 38 * u + p) ≠ 0 → setV row v 34 x (32 + 38 * u + (16 + p)) = A (nx u) p) := fun p hp => by rw [eR _ (by omega), eR _ (by omega)]; exact q11 p hp
  by_cases e : u = v
  · subst e
    refine ⟨by rw [eK 6 (by omega)]; exact q1, by rw [eR _ (by omega)]; exact q2, q3, q4, fun j a b => ?_, by rw [eK 4 (by omega), eR _ (by omega)]; exact q6, by rw [eK 5 (by omega), eR _ (by omega)]; exact q7, by rw [eR _ (by omega)]; exact q8, q9', fun g hg => ⟨_, ct_le _ _, by rw [eH g hg], by rw [eA g hg, eV, va_up_self]; exact hF g⟩, q11'⟩
    by_cases e2 : j = 1
    · subst e2; rw [eV, va_up_self]; unfold setV; rw [va_up_self]
    · rw [eK j e2, eR _ (by omega)]; exact q5 j a b
  · refine ⟨by rw [eO _ (by omega)]; exact q1, by rw [eR _ (by omega)]; exact q2, q3, q4, fun j a b => by rw [eO _ (by omega), eR _ (by omega)]; exact q5 j a b, by rw [eO _ (by omega), eR _ (by omega)]; exact q6, by rw [eO _ (by omega), eR _ (by omega)]; exact q7, by rw [eR _ (by omega)]; exact q8, q9', SV_cong q10 (fun i a b k _ => by rw [eO i (by omega)]) (by rw [eO _ (by omega)]) (fun _ _ => rfl) (fun _ _ _ => rfl), q11'⟩
/-- views that are awake hold what the table is -/
theorem Rp_awk {D : DT} {B : Nat} {row : Nat → Int32} {G A : Nat → Nat → Int32} {wr : Nat} {nx : Nat → Nat} (h : Rp D B row G A wr nx) (hI : ∀ v, v < 3 → row (32 + 38 * v + 32) = 0 → row (32 + 38 * v + 37) = row 178) : Rp D B (rowT row (awk row)) G A wr nx := by
  obtain ⟨h1, h2, h3, h4, h5, h6⟩ := h
  refine ⟨h1, by rw [rowT_out (by omega)]; exact h2, h3, fun p hp => by rw [rowT_out (by omega), rowT_out (by omega)]; exact h4 p hp, fun u hu => ?_, fun j a b => by rw [rowT_out (by omega)]; exact h6 j a b⟩
  obtain ⟨q1, q2, q3, q4, q5, q6, q7, q8, q9, q10, q11⟩ := h5 u hu
  have hn2 : awk row u ≠ 2 := by unfold awk; split <;> decide
  have q9' : ∀ d, nx u ≤ d → d < wr → LSt D (B + 4) G A d ∧ D (B + 4 + 2) (d % 64) = rowT row (awk row) (146 + d % 32) := fun d a b => by
    rw [rowT_out (by omega)]; exact q9 d a b
  by_cases e : awk row u = 0
  · exact ⟨q1, by rw [rowT_0 (by omega) e]; exact q2, q3, q4, fun j a b => by rw [rowT_0 (by omega) e]; exact q5 j a b, by rw [rowT_0 (by omega) e]; exact q6, by rw [rowT_0 (by omega) e]; exact q7, by rw [rowT_0 (by omega) e]; exact q8, q9', q10, fun p hp => by rw [rowT_0 (by omega) e, rowT_0 (by omega) e]; exact q11 p hp⟩
  · have z : row (32 + 38 * u + 32) = 0 := by unfold awk at e; split at e; assumption; exact absurd rfl e
    have en : nx u = wr := nI_inj (by omega) (by omega) (by rw [← q2, hI u hu z, h2])
    refine ⟨q1, by rw [rowT_37 hu e, en]; exact h2, q3, q4, fun j a b => by rw [rowT_1 (by omega) (by omega) hn2]; exact q5 j a b, by rw [rowT_1 (by omega) (by omega) hn2]; exact q6, by rw [rowT_1 (by omega) (by omega) hn2]; exact q7, by rw [rowT_1 (by omega) (by omega) hn2]; exact q8, q9', q10, fun p hp => ?_⟩
    obtain ⟨z1, z2, -⟩ := h4 p hp
    rw [rowT_t hu (by omega) e, rowT_t hu (by omega) e, en]
    exact ⟨by rw [z1, i32_pm], fun z => (z2 z).symm⟩
theorem go_i (row : Nat → Int32) (p : Nat) (g x : Int32) : goP row (105, p, g, x) = m_ins row p g x := by unfold goP; rw [if_pos rfl]
theorem go_g (row : Nat → Int32) (p : Nat) (g x : Int32) : goP row (103, p, g, x) = m_rep row p (g + 1) (row (16 + p)) := by unfold goP; dsimp only; rw [if_neg (by decide), if_pos rfl]
theorem go_u (row : Nat → Int32) (p : Nat) (g x : Int32) : goP row (117, p, g, x) = m_rep row p (row p) x := by unfold goP; dsimp only; rw [if_neg (by decide), if_neg (by decide), if_pos rfl]
theorem go_x (row : Nat → Int32) (p : Nat) (g x : Int32) : goP row (120, p, g, x) = m_del row p := by unfold goP; dsimp only; rw [if_neg (by decide), if_neg (by decide), if_neg (by decide), if_pos rfl]
theorem SB_ri {D D2 : DT} {P : PT} {M : DT} {row : Nat → Int32} {W : Nat} (hRI : RI D P (m_save M) W) (hn : SB D2 24 row (W + 130)) (hD : ∀ i, (i < 24 ∨ 63 ≤ i) → D2 i = D i) : RI D2 P (va_up (m_save (clr M)) 7 row) (W + 130) :=
  RI_now hRI (by omega) (by rw [va_up_self]; exact hn) hD rfl rfl rfl rfl rfl rfl
theorem nps_eq {row : Nat → Int32} (hf : fl row) : ct (fun u => decide (row (32 + 38 * u + 32) ≠ 0)) 3 = nps row := ct_cong (fun u hu => by
  rcases hf u hu with z | z <;> rw [z] <;> rfl)
theorem B35_setV {row : Nat → Int32} {v k : Nat} {x : Int32} (h : B35 row) (hv : v < 3) (hx : k ≠ 35 ∨ ∃ be, 1 ≤ be ∧ be ≤ 30 ∧ x = nI be) (hk : 32 ≤ k ∧ k < 38) : B35 (setV row v k x) := fun u hu => by
  unfold setV
  by_cases e : 32 + 38 * u + 35 = 32 + 38 * v + k
  · rw [e, va_up_self]
    rcases hx with z | z
    · omega
    · exact z
  · rw [va_up_ne _ _ e]; exact h u hu
