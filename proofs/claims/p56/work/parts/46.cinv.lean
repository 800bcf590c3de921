/-! the class's pool, told by what the reference keeps -/
theorem k0 : kd 0 = 6 := rfl
theorem kS24 : kd 24 = 3 := rfl
def RI (D : DT) (P : PT) (M : DT) (W : Nat) : Prop :=
  SB D 24 (M 7) W ∧ (∃ s, s ≤ 5 ∧ M 6 3 = nI s ∧ D 0 2 = nI s ∧ ∀ j, j < s → SB D (P.1 j) (fun k => M 8 (184 * j + k)) W) ∧
  (∀ j, j < 5 → kd (P.1 j) = 3 ∧ P.1 j ≠ 24 ∧ P.1 j ≠ 258) ∧ (∀ i j, i < 5 → j < 5 → P.1 i = P.1 j → i = j) ∧
  (D 0 4 = M 6 5 ∧ (M 6 5 = 0 ∨ M 6 5 = 1) ∧ (M 6 5 = 1 → SB D 258 (M 9) W)) ∧
  ∃ n, n ≤ 60 ∧ M 6 9 = nI n ∧ D 2 1 = nI n ∧ ∀ k, k < n → D 3 k = M 12 k
theorem sv_B {a : Nat} (h : kd a = 3 ∧ a ≠ 24 ∧ a ≠ 258) : 63 ≤ a ∧ a + 39 ≤ 258 := by
  obtain ⟨k, hk, e⟩ := kd3_f h.1
  have := h.2.1
  have := h.2.2
  omega
theorem RI_D {D D2 : DT} {P : PT} {M : DT} {W : Nat} (h : RI D P M W) (h0 : D2 0 2 = D 0 2 ∧ D2 0 4 = D 0 4) (h2 : D2 2 1 = D 2 1) (h3 : D2 3 = D 3) (hb : ∀ i, 24 ≤ i → D2 i = D i) : RI D2 P M W := by
  obtain ⟨a, ⟨s, b1, b2, b3, b4⟩, c, d, ⟨e1, e2, e3⟩, n, f1, f2, f3, f4⟩ := h
  refine ⟨SB_cong a (fun i x _ => hb i x) (fun _ _ => rfl), ⟨s, b1, b2, h0.1.trans b3, fun j hj => SB_cong (b4 j hj) (fun i x _ => hb i (by have := sv_B (c j (by omega)); omega)) (fun _ _ => rfl)⟩, c, d, ⟨h0.2.trans e1, e2, fun z => SB_cong (e3 z) (fun i x _ => hb i (by omega)) (fun _ _ => rfl)⟩, n, f1, f2, h2.trans f3, fun k hk => by rw [h3]; exact f4 k hk⟩
/-- .. and what the reference keeps may be told otherwise -/
theorem RI_M {D : DT} {P P2 : PT} {M M2 : DT} {W : Nat} (h : RI D P M W) (hP : P2.1 = P.1) (h3 : M2 6 3 = M 6 3) (h5 : M2 6 5 = M 6 5) (h9 : M2 6 9 = M 6 9) (h7 : M2 7 = M 7) (h8 : M2 8 = M 8) (h99 : M2 9 = M 9) (h12 : M2 12 = M 12) : RI D P2 M2 W := by
  unfold RI
  rw [h3, h5, h9, h7, h8, h99, h12, hP]
  exact h
theorem RI_W {D : DT} {P : PT} {M : DT} {W W2 : Nat} (h : RI D P M W) (hW : W ≤ W2) : RI D P M W2 := by
  obtain ⟨a, ⟨s, b1, b2, b3, b4⟩, c, d, ⟨e1, e2, e3⟩, f⟩ := h
  exact ⟨a.W hW, ⟨s, b1, b2, b3, fun j hj => (b4 j hj).W hW⟩, c, d, ⟨e1, e2, fun z => (e3 z).W hW⟩, f⟩
/-- the state now takes another row -/
theorem RI_now {D D2 : DT} {P : PT} {M M2 : DT} {W W2 : Nat} (h : RI D P M W) (hW : W ≤ W2) (hn : SB D2 24 (M2 7) W2) (hD : ∀ i, (i < 24 ∨ 63 ≤ i) → D2 i = D i) (h3 : M2 6 3 = M 6 3) (h5 : M2 6 5 = M 6 5) (h9 : M2 6 9 = M 6 9) (h8 : M2 8 = M 8) (h99 : M2 9 = M 9) (h12 : M2 12 = M 12) : RI D2 P M2 W2 := by
  obtain ⟨a, ⟨s, b1, b2, b3, b4⟩, c, d, ⟨e1, e2, e3⟩, n, f1, f2, f3, f4⟩ := h
  refine ⟨hn, ⟨s, b1, h3.trans b2, by rw [hD 0 (by omega)]; exact b3, fun j hj => ?_⟩, c, d, ⟨by rw [hD 0 (by omega), h5]; exact e1, by rw [h5]; exact e2, fun z => ?_⟩, n, f1, h9.trans f2, by rw [hD 2 (by omega)]; exact f3, fun k hk => by rw [hD 3 (by omega), h12]; exact f4 k hk⟩
  · have := sv_B (c j (by omega))
    rw [h8]
    exact (SB_cong (b4 j hj) (fun i x _ => hD i (by omega)) (fun _ _ => rfl)).W hW
  · rw [h5] at z
    rw [h99]
    exact (SB_cong (e3 z) (fun i x _ => hD i (by omega)) (fun _ _ => rfl)).W hW
/-- the class's scratch objects -/
def Fs (D D' : DT) : Prop := ∀ i, ¬ (i = 4 ∨ i = 5 ∨ (14 ≤ i ∧ i < 24)) → D' i = D i
theorem Fs_rf (D : DT) : Fs D D := fun _ _ => rfl
theorem Fs.tr {D E F : DT} (h : Fs D E) (h2 : Fs E F) : Fs D F := fun i hi => (h2 i hi).trans (h i hi)
theorem RI_Fs {D D2 : DT} {P : PT} {M : DT} {W : Nat} (h : RI D P M W) (hF : Fs D D2) : RI D2 P M W := RI_D h ⟨by rw [hF 0 (by omega)], by rw [hF 0 (by omega)]⟩ (by rw [hF 2 (by omega)]) (hF 3 (by omega)) (fun i hi => hF i (by omega))
/-- the model's objects stay -/
def FX (D D' : DT) : Prop := ∀ i, 6 ≤ i → i ≤ 13 → D' i = D i
def rotP (P : PT) : PT := (fun j => if j < 4 then P.1 (j + 1) else if j = 4 then P.1 0 else P.1 j, P.2)
theorem Rp_fld {D : DT} {B v : Nat} {row : Nat → Int32} {G A : Nat → Nat → Int32} {wr : Nat} {nx : Nat → Nat} (h : Rp D B row G A wr nx) (hv : v < 3) : D (B + 8 + 1 + 10 * v) 1 = row (32 + 38 * v + 34) ∧ D (B + 8 + 1 + 10 * v) 2 = row (32 + 38 * v + 35) ∧ D (B + 8 + 1 + 10 * v) 3 = row (32 + 38 * v + 36) ∧ D (B + 8 + 1 + 10 * v) 4 = row (32 + 38 * v + 32) ∧ D (B + 8 + 1 + 10 * v) 5 = row (32 + 38 * v + 33) ∧ D (B + 8 + 1 + 10 * v) 6 = row (32 + 38 * v + 37) ∧ D (B + 4) 3 = row 178 := by
  obtain ⟨q1, q2, q3, q4, q5, q6, q7, q8, q9, q10, q11⟩ := h.2.2.2.2.1 v hv
  exact ⟨q5 1 (by omega) (by omega), q5 2 (by omega) (by omega), q5 3 (by omega) (by omega), q6, q7, q1.trans q2.symm, h.1.trans h.2.1.symm⟩
theorem Rp_wt {D : DT} {B v : Nat} {row : Nat → Int32} {G A : Nat → Nat → Int32} {wr : Nat} {nx : Nat → Nat} (h : Rp D B row G A wr nx) (hv : v < 3) : D (B + 4) 3 - D (B + 8 + 1 + 10 * v) 6 = wt row v := by
  obtain ⟨_, _, _, _, _, e6, e7⟩ := Rp_fld h hv
  rw [e6, e7]
  rfl
theorem TR_tk {D : DT} {B : Nat} {row : Nat → Int32} (h : TR D B row) : ct (fun p => decide (D (B + 1 + 1) p ≠ -1)) 16 = tk row := ct_cong (fun p hp => by
  rw [(h p hp).1]
  have : (row p - 1 ≠ -1) ↔ (row p ≠ 0) := by
    constructor
    · intro z e; rw [e] at z; exact z rfl
    · intro z e
      apply z
      have : row p = row p - 1 + 1 := (Int32.sub_add_cancel _ _).symm
      rw [this, e]; rfl
  simp only [this])
theorem Rp_seen {D : DT} {B v : Nat} {row : Nat → Int32} {G A : Nat → Nat → Int32} {wr : Nat} {nx : Nat → Nat} (h : Rp D B row G A wr nx) (hv : v < 3) : seen row v := by
  obtain ⟨q1, q2, q3, -⟩ := h.2.2.2.2.1 v hv
  exact ⟨nx v, wr, q2, h.2.1, q3, h.2.2.1⟩
theorem tcn_vcn {row gr am : Nat → Int32} {fr g : Nat} {lo a : Int32} (hg : g < 4) (h : ∀ p, p < 16 → row (fr + p) = gr p + 1 ∧ (row (fr + p) ≠ 0 → row (fr + (16 + p)) = am p)) : tcn gr am (nI g) lo a 16 = vcn row fr g lo a := by
  unfold vcn tcn
  refine ct_cong fun p hp => ?_
  obtain ⟨h1, h2⟩ := h p hp
  have e : (gr p = nI g) ↔ (row (fr + p) = nI (g + 1)) := by
    rw [h1, ← nI_1]
    constructor
    · intro z; rw [z]
    · intro z
      have : gr p + 1 - 1 = nI g + 1 - 1 := by rw [z]
      rw [Int32.add_sub_cancel, Int32.add_sub_cancel] at this
      exact this
  refine decide_eq_decide.mpr ?_
  show (gr p = nI g ∧ lo ≤ am p ∧ am p = a) ↔ (row (fr + p) = nI (g + 1) ∧ lo ≤ row (fr + 16 + p) ∧ row (fr + 16 + p) = a)
  by_cases q : row (fr + p) = nI (g + 1)
  · have n0 : row (fr + p) ≠ 0 := by rw [q]; exact nI_ne0 (by omega) (by omega)
    rw [Nat.add_assoc, h2 n0, e]
  · have q2 : ¬ gr p = nI g := fun z => q (e.mp z)
    exact ⟨fun z => absurd z.1 q2, fun z => absurd z.1 q⟩
theorem SL_V {row gr am f : Nat → Int32} {fr g n : Nat} {lo : Int32} (hg : g < 4) (h : ∀ p, p < 16 → row (fr + p) = gr p + 1 ∧ (row (fr + p) ≠ 0 → row (fr + (16 + p)) = am p)) (hs : SL f n (fun a => tcn gr am (nI g) lo a 16)) : n = vN row fr g lo ∧ ∀ j, j < n → f j = vF row fr g lo j :=
  vF_u (SL_cong hs (fun _ _ => rfl) (fun a => (tcn_vcn hg h).symm))
theorem TR_gr {D : DT} {B : Nat} {row : Nat → Int32} (h : TR D B row) : ∀ p, p < 16 → row (0 + p) = D (B + 1 + 1) p + 1 ∧ (row (0 + p) ≠ 0 → row (0 + (16 + p)) = D (B + 1 + 2) p) := fun p hp => by
  rw [Nat.zero_add, Nat.zero_add, (h p hp).1, Int32.sub_add_cancel]
  exact ⟨rfl, fun z => ((h p hp).2 z).symm⟩
theorem kh_all : ∀ v, v < 3 → ∀ g, g < 4 → kd (24 + 8 + 1 + 10 * v + 1 + 1 + 2 * g) = 0 := by decide +kernel
/-- what a view of the state now holds -/
theorem held_V {D : DT} {row : Nat → Int32} {G A : Nat → Nat → Int32} {wr : Nat} {nx : Nat → Nat} (h : Rp D 24 row G A wr nx) {v g : Nat} (hv : v < 3) (hg : g < 4) : D (24 + 8 + 1 + 10 * v + 1 + 1 + 2 * g) 1 = nI (VN row v g) ∧ (∀ j, j < VN row v g → D (24 + 8 + 1 + 10 * v + 1 + 1 + 2 * g + 1) j = VF row v g j) ∧ so (D (24 + 8 + 1 + 10 * v + 1 + 1 + 2 * g + 1)) (VN row v g) := by
  obtain ⟨q1, q2, q3, q4, q5, q6, q7, q8, q9, q10, q11⟩ := h.2.2.2.2.1 v hv
  obtain ⟨n, hn, e1, e2⟩ := q10 g hg
  rw [q5 1 (by omega) (by omega)] at e2
  obtain ⟨z1, z2⟩ := SL_V hg q11 e2
  subst z1
  exact ⟨e1, z2, e2.1⟩
theorem fb_V {f g : Nat → Int32} {n k : Nat} {a : Int32} (hs : so f n) (h : fb f n a k) (hf : ∀ j, j < n → f j = g j) : nI k = nI (bl g n a) := by
  rw [← bl_cong hf, fb_bl hs h]
theorem free_iff {D : DT} {B : Nat} {row : Nat → Int32} {p : Nat} (hT : TR D B row) (hp : p < 16) : (∀ q, q < 16 → nI p = nI q → D (B + 1 + 1) q = -1) ↔ row p = 0 := by
  have e := (hT p hp).1
  constructor
  · intro z
    have z2 := z p hp rfl
    rw [e] at z2
    have : row p = row p - 1 + 1 := (Int32.sub_add_cancel _ _).symm
    rw [this, z2]; rfl
  · intro z q hq eq
    have := nI_inj (by omega) (by omega) eq
    subst this
    rw [e, z]; rfl
/-- deltas that wait, by their numbers and one by one -/
theorem cw_all {D : DT} {B v : Nat} {row : Nat → Int32} {G A : Nat → Nat → Int32} {wr : Nat} {nx : Nat → Nat} (h : Rp D B row G A wr nx) (hv : v < 3) (hA : AM row) : nI (ct (fun i => decide ((-99 : Int32) ≤ D (B + 4 + 2) ((nx v + i) % 64))) (wr - nx v)) = wt row v := by
  obtain ⟨q1, q2, q3, q4, q5, q6, q7, q8, q9, q10, q11⟩ := h.2.2.2.2.1 v hv
  rw [ct_all (k := wr - nx v) (Nat.le_refl _) (fun j hj => decide_eq_true (by rw [(q9 (nx v + j) (by omega) (by omega)).2]; exact hA _ (by omega))) (fun j a b => absurd b (by omega))]
  unfold wt
  rw [h.2.1, q2, pk_sub q3]
theorem cw_wgt {D : DT} {B v : Nat} {row : Nat → Int32} {G A : Nat → Nat → Int32} {wr : Nat} {nx : Nat → Nat} (h : Rp D B row G A wr nx) (hv : v < 3) : ct (fun i => decide (row (32 + 38 * v + 34) ≤ D (B + 4 + 2) ((nx v + i) % 64))) (wr - nx v) = wgt row v := by
  obtain ⟨q1, q2, q3, q4, q5, q6, q7, q8, q9, q10, q11⟩ := h.2.2.2.2.1 v hv
  unfold wgt
  have hw := h.2.2.1
  rw [q2, h.2.1, ix_n (by omega), ix_n (by omega)]
  exact ct_cong (fun j hj => by rw [(q9 (nx v + j) (by omega) (by omega)).2])
theorem imx_wk (x : Int32) : (if (1 : Int32) < x then x else 1) = if x < 1 then 1 else x := by
  by_cases h : x < 1
  · rw [if_pos h, if_neg (by rw [i32_lt] at h ⊢; omega)]
  · rw [if_neg h]
    by_cases h2 : 1 < x
    · rw [if_pos h2]
    · rw [if_neg h2]
      rw [i32_lt] at h h2
      have : x.toInt = (1 : Int32).toInt := by omega
      exact (Int32.toInt_inj.mp this).symm
