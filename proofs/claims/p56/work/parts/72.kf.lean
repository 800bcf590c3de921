/-! what a row tells, for the law -/
theorem l_le {a b : Int32} : a.toInt64 ≤ b.toInt64 ↔ a ≤ b := by rw [Int64.le_iff_toInt_le, Int32.toInt_toInt64, Int32.toInt_toInt64, i32_le]
theorem l_lt {a b : Int32} : a.toInt64 < b.toInt64 ↔ a < b := by rw [Int64.lt_iff_toInt_lt, Int32.toInt_toInt64, Int32.toInt_toInt64, i32_lt]
theorem l_eq {a b : Int32} : a.toInt64 = b.toInt64 ↔ a = b := by
  constructor
  · intro h
    have := congrArg Int64.toInt h
    rw [Int32.toInt_toInt64, Int32.toInt_toInt64] at this
    exact Int32.toInt_inj.mp this
  · intro h; rw [h]
theorem l_ii (a : Int32) : a.toInt64.toInt32 = a := by
  rw [← Int32.toInt_inj, Int64.toInt_toInt32, Int32.toInt_toInt64]
  exact Int.bmod_eq_of_le (by have := Int32.le_toInt a; omega) (by have := Int32.toInt_lt a; omega)
theorem i32_addI {x y : Int32} (h1 : -2147483648 ≤ x.toInt + y.toInt) (h2 : x.toInt + y.toInt < 2147483648) : (x + y).toInt = x.toInt + y.toInt := by
  rw [Int32.toInt_add]
  exact Int.bmod_eq_of_le (by omega) (by omega)
theorem i64_mulI {x y : Int64} (h1 : -9223372036854775808 ≤ x.toInt * y.toInt) (h2 : x.toInt * y.toInt < 9223372036854775808) : (x * y).toInt = x.toInt * y.toInt := by
  rw [Int64.toInt_mul]
  exact Int.bmod_eq_of_le (by omega) (by omega)
theorem vF_e {row : Nat → Int32} {fr g j : Nat} {lo : Int32} (hj : j < vN row fr g lo) : ∃ p, p < 16 ∧ row (fr + p) = nI (g + 1) ∧ lo ≤ row (fr + 16 + p) ∧ vF row fr g lo j = row (fr + 16 + p) := by
  have h0 : 0 < cn (vF row fr g lo) (vN row fr g lo) (vF row fr g lo j) := ct_pos (k := j) hj (by simp)
  have hc : cn (vF row fr g lo) (vN row fr g lo) (vF row fr g lo j) = vcn row fr g lo (vF row fr g lo j) := (vF_s row fr g lo).2 _
  rw [hc] at h0
  unfold vcn tcn at h0
  obtain ⟨p, hp, e⟩ := ct_ex h0
  have e := of_decide_eq_true e
  exact ⟨p, hp, e.1, e.2.1, e.2.2.symm⟩
/-- amounts by size, within bounds -/
def FB (f : Nat → Int32) (n : Nat) : Prop := so f n ∧ n ≤ 16 ∧ ∀ j, j < n → rg (f j) (-99) 99
theorem FB_V {row : Nat → Int32} {v g : Nat} (hA : JA row) (hv : v < 3) : FB (VF row v g) (VN row v g) := ⟨(vF_s _ _ _ _).1, VN_le _ _ _, fun j hj => by
  obtain ⟨p, hp, -, -, e⟩ := vF_e hj
  show rg (vF row (32 + 38 * v) g (row (32 + 38 * v + 34)) j) (-99) 99
  rw [e]
  exact hA _ (Or.inr (by omega))⟩
theorem VF_lo {row : Nat → Int32} {v g j : Nat} (hj : j < VN row v g) : row (32 + 38 * v + 34) ≤ VF row v g j := by
  obtain ⟨p, hp, -, h, e⟩ := vF_e hj
  show _ ≤ vF row (32 + 38 * v) g (row (32 + 38 * v + 34)) j
  rw [e]; exact h
theorem rg_I {x : Int32} (h : rg x (-99) 99) : -99 ≤ x.toInt ∧ x.toInt ≤ 99 := ⟨by have := i32_le.mp h.1; exact this, by have := i32_le.mp h.2; exact this⟩
theorem sm_99 {f : Nat → Int32} : ∀ n, n ≤ 16 → (∀ j, j < n → rg (f j) (-99) 99) → -99 * (n : Int) ≤ (sm f n).toInt ∧ (sm f n).toInt ≤ 99 * (n : Int)
  | 0, _, _ => by
    show -99 * ((0 : Nat) : Int) ≤ (0 : Int32).toInt ∧ (0 : Int32).toInt ≤ 99 * ((0 : Nat) : Int)
    decide
  | n + 1, hn, h => by
    obtain ⟨h1, h2⟩ := sm_99 n (by omega) (fun j hj => h j (by omega))
    obtain ⟨h3, h4⟩ := rg_I (h n (by omega))
    show -99 * ((n + 1 : Nat) : Int) ≤ (sm f n + f n).toInt ∧ (sm f n + f n).toInt ≤ 99 * ((n + 1 : Nat) : Int)
    rw [i32_addI (by omega) (by omega)]
    omega
theorem mul_s (n : Nat) (a : Int) : ((n + 1 : Nat) : Int) * a = (n : Int) * a + a := by
  rw [Int.natCast_add, Int.add_mul]
  simp
theorem sm_lo {f : Nat → Int32} {a : Int} : ∀ n, n ≤ 16 → (∀ j, j < n → rg (f j) (-99) 99) → (∀ j, j < n → a ≤ (f j).toInt) → (n : Int) * a ≤ (sm f n).toInt
  | 0, _, _, _ => by
    show ((0 : Nat) : Int) * a ≤ (0 : Int32).toInt
    simp
  | n + 1, hn, h, ha => by
    obtain ⟨h1, h2⟩ := sm_99 n (by omega) (fun j hj => h j (by omega))
    obtain ⟨h3, h4⟩ := rg_I (h n (by omega))
    have ih := sm_lo n (by omega) (fun j hj => h j (by omega)) (fun j hj => ha j (by omega))
    have := ha n (by omega)
    show ((n + 1 : Nat) : Int) * a ≤ (sm f n + f n).toInt
    rw [i32_addI (by omega) (by omega), mul_s]
    omega
theorem sm_hi {f : Nat → Int32} {a : Int} : ∀ n, n ≤ 16 → (∀ j, j < n → rg (f j) (-99) 99) → (∀ j, j < n → (f j).toInt ≤ a) → (sm f n).toInt ≤ (n : Int) * a
  | 0, _, _, _ => by
    show (0 : Int32).toInt ≤ ((0 : Nat) : Int) * a
    simp
  | n + 1, hn, h, ha => by
    obtain ⟨h1, h2⟩ := sm_99 n (by omega) (fun j hj => h j (by omega))
    obtain ⟨h3, h4⟩ := rg_I (h n (by omega))
    have ih := sm_hi n (by omega) (fun j hj => h j (by omega)) (fun j hj => ha j (by omega))
    have := ha n (by omega)
    show (sm f n + f n).toInt ≤ ((n + 1 : Nat) : Int) * a
    rw [i32_addI (by omega) (by omega), mul_s]
    omega
theorem mul_b {n : Nat} {a : Int} (h1 : -99 ≤ a) (h2 : a ≤ 99) : -99 * (n : Int) ≤ (n : Int) * a ∧ (n : Int) * a ≤ 99 * (n : Int) := by
  have e1 := Int.mul_le_mul_of_nonneg_left h1 (Int.natCast_nonneg n)
  have e2 := Int.mul_le_mul_of_nonneg_left h2 (Int.natCast_nonneg n)
  rw [Int.mul_comm (n : Int) (-99)] at e1
  rw [Int.mul_comm (n : Int) 99] at e2
  exact ⟨e1, e2⟩
theorem nI_lI {n : Nat} (h : n < 2 ^ 31) : (nI n).toInt64.toInt = (n : Int) := by rw [Int32.toInt_toInt64, nI_toInt h]
theorem prod_I {n : Nat} {x : Int32} (hn : n ≤ 16) (hx : rg x (-99) 99) : ((nI n).toInt64 * x.toInt64).toInt = (n : Int) * x.toInt := by
  obtain ⟨h1, h2⟩ := rg_I hx
  obtain ⟨h3, h4⟩ := mul_b (n := n) h1 h2
  rw [i64_mulI, nI_lI (by omega), Int32.toInt_toInt64]
  · rw [nI_lI (by omega), Int32.toInt_toInt64]; omega
  · rw [nI_lI (by omega), Int32.toInt_toInt64]; omega
section FBs
variable {f : Nat → Int32} {n : Nat}
theorem FB.sumlo (h : FB f n) (h0 : 0 < n) : (nI n).toInt64 * (f 0).toInt64 ≤ (sm f n).toInt64 := by
  obtain ⟨hs, hn, hb⟩ := h
  rw [Int64.le_iff_toInt_le, prod_I hn (hb 0 h0), Int32.toInt_toInt64]
  exact sm_lo n hn hb (fun j hj => i32_le.mp (hs 0 j (by omega) hj))
theorem FB.sumhi (h : FB f n) (h0 : 0 < n) : (sm f n).toInt64 ≤ (nI n).toInt64 * (f (n - 1)).toInt64 := by
  obtain ⟨hs, hn, hb⟩ := h
  rw [Int64.le_iff_toInt_le, prod_I hn (hb _ (by omega)), Int32.toInt_toInt64]
  exact sm_hi n hn hb (fun j hj => i32_le.mp (hs j (n - 1) (by omega) (by omega)))
theorem bl_k (h : so f n) {k : Nat} (hk : k < n) : bl f n (f k) ≤ k := by
  have key : ∀ m, m ≤ n → ct (fun j => decide (f j < f k)) m ≤ min m k := by
    intro m
    induction m with
    | zero => intro _; exact Nat.zero_le _
    | succ m ih =>
      intro hm
      have := ih (by omega)
      rw [ct_s]
      by_cases e : m < k
      · split <;> omega
      · have q := h k m (by omega) (by omega)
        rw [if_neg (by simpa using q)]
        omega
  have := key n (Nat.le_refl _)
  unfold bl
  omega
theorem FB.r0 (h : FB f n) (h0 : 0 < n) : bl f n (f 0) = 0 := Nat.le_zero.mp (bl_k h.1 h0)
theorem FB.rm (h : FB f n) (h0 : 0 < n) : bl f n (f ((n - 1) / 2)) ≤ (n - 1) / 2 := bl_k h.1 (by omega)
theorem FB.rh (h : FB f n) (h0 : 0 < n) : bl f n (f (n - 1)) < n := by
  have := bl_k h.1 (k := n - 1) (by omega)
  omega
theorem FB.r99 (h : FB f n) : bl f n (-99) = 0 := by
  obtain ⟨hs, hn, hb⟩ := h
  rcases Nat.eq_zero_or_pos (bl f n (-99)) with e | e
  · exact e
  · obtain ⟨k, hk, z⟩ := ct_ex e
    have z := of_decide_eq_true z
    exact absurd (hb k hk).1 (Int32.not_le.mpr z)
theorem kn_1 (f : Nat → Int32) : ∀ n, 0 < n → 1 ≤ kn f n
  | 0, h => absurd h (by omega)
  | 1, _ => by unfold kn; simp
  | n + 2, _ => by
    have := kn_1 f (n + 1) (by omega)
    unfold kn
    omega
theorem kn_all {f : Nat → Int32} : ∀ n, kn f n = 1 → ∀ j, j < n → f j = f 0
  | 0, _, j, hj => absurd hj (by omega)
  | 1, _, j, hj => by
    have : j = 0 := by omega
    rw [this]
  | n + 2, h, j, hj => by
    have h1 := kn_1 f (n + 1) (by omega)
    unfold kn at h
    have hz : ¬ (n + 1 = 0 ∨ f (n + 1) ≠ f (n + 1 - 1)) := fun z => by rw [if_pos z] at h; omega
    rw [if_neg hz] at h
    have ih := kn_all (n + 1) (by omega)
    by_cases e : j < n + 1
    · exact ih j e
    · have : j = n + 1 := by omega
      rw [this]
      have : f (n + 1) = f n := Classical.not_not.mp (fun z => hz (Or.inr z))
      rw [this]
      exact ih n (by omega)
theorem kn_of {f : Nat → Int32} : ∀ n, 0 < n → (∀ j, j < n → f j = f 0) → kn f n = 1
  | 0, h, _ => absurd h (by omega)
  | 1, _, _ => by unfold kn; simp [kn]
  | n + 2, _, h => by
    unfold kn
    rw [kn_of (n + 1) (by omega) (fun j hj => h j (by omega)), if_neg]
    rintro (z | z)
    · omega
    · exact z (by rw [h (n + 1) (by omega), h (n + 1 - 1) (by omega)])
theorem FB.u1 (h : FB f n) (h0 : 0 < n) : f 0 = f (n - 1) ↔ kn f n = 1 := by
  constructor
  · intro e
    refine kn_of n h0 (fun j hj => ?_)
    have a := i32_le.mp (h.1 0 j (by omega) hj)
    have b := i32_le.mp (h.1 j (n - 1) (by omega) (by omega))
    rw [← e] at b
    rw [i32_eq]
    omega
  · intro e
    exact (kn_all n e (n - 1) (by omega)).symm
theorem FB.um (_ : FB f n) (h0 : 0 < n) (e : kn f n = 1) : f ((n - 1) / 2) = f 0 := kn_all n e _ (by omega)
end FBs
/-! groups in which they are unlike -/
theorem like_vcn {row : Nat → Int32} {fr fr2 g : Nat} {lo : Int32} (h : ∀ a, vcn row fr g lo a = vcn row fr2 g lo a) : like (vF row fr g lo) (vN row fr g lo) (vF row fr2 g lo) (vN row fr2 g lo) := by
  obtain ⟨h1, h2⟩ := vF_u (SL_cong (vF_s row fr g lo) (fun _ _ => rfl) (fun a => (h a).symm))
  exact like_of h1 h2
theorem lk_cases (row : Nat → Int32) (v g : Nat) : (like (VF row v g) (VN row v g) (TF row v g) (TN row v g) ∧ lkI (VF row v g) (VN row v g) (TF row v g) (TN row v g) 0 (1 <<< (nI g &&& 31)) = 0) ∨ (lkI (VF row v g) (VN row v g) (TF row v g) (TN row v g) 0 (1 <<< (nI g &&& 31)) = 1 <<< (nI g &&& 31)) := by
  by_cases e : like (VF row v g) (VN row v g) (TF row v g) (TN row v g)
  · exact Or.inl ⟨e, lkI_y e⟩
  · exact Or.inr (lkI_n e)
theorem um_4 (row : Nat → Int32) (v : Nat) : umN row v 4 = ((((0 : Int32) ||| lkI (VF row v 0) (VN row v 0) (TF row v 0) (TN row v 0) 0 (1 <<< (nI 0 &&& 31))) ||| lkI (VF row v 1) (VN row v 1) (TF row v 1) (TN row v 1) 0 (1 <<< (nI 1 &&& 31))) ||| lkI (VF row v 2) (VN row v 2) (TF row v 2) (TN row v 2) 0 (1 <<< (nI 2 &&& 31))) ||| lkI (VF row v 3) (VN row v 3) (TF row v 3) (TN row v 3) 0 (1 <<< (nI 3 &&& 31)) := rfl
theorem um_0 {row : Nat → Int32} {v : Nat} (h : ∀ g, g < 4 → like (VF row v g) (VN row v g) (TF row v g) (TN row v g)) : umN row v 4 = 0 := by
  rw [um_4, lkI_y (h 0 (by omega)), lkI_y (h 1 (by omega)), lkI_y (h 2 (by omega)), lkI_y (h 3 (by omega))]
  decide
theorem um_bit {row : Nat → Int32} {v g : Nat} (hg : g < 4) (h : ((umN row v 4).toInt64 >>> ((nI g).toInt64 &&& 63)) &&& 1 = 0) : like (VF row v g) (VN row v g) (TF row v g) (TN row v g) := by
  rw [um_4] at h
  rcases (show g = 0 ∨ g = 1 ∨ g = 2 ∨ g = 3 by omega) with e | e | e | e <;> subst e
  · rcases lk_cases row v 0 with ⟨q, -⟩ | q0
    · exact q
    · exfalso
      rw [q0] at h
      rcases lk_cases row v 1 with ⟨-, q1⟩ | q1 <;> rcases lk_cases row v 2 with ⟨-, q2⟩ | q2 <;> rcases lk_cases row v 3 with ⟨-, q3⟩ | q3 <;> rw [q1, q2, q3] at h <;> exact absurd h (by decide)
  · rcases lk_cases row v 1 with ⟨q, -⟩ | q0
    · exact q
    · exfalso
      rw [q0] at h
      rcases lk_cases row v 0 with ⟨-, q1⟩ | q1 <;> rcases lk_cases row v 2 with ⟨-, q2⟩ | q2 <;> rcases lk_cases row v 3 with ⟨-, q3⟩ | q3 <;> rw [q1, q2, q3] at h <;> exact absurd h (by decide)
  · rcases lk_cases row v 2 with ⟨q, -⟩ | q0
    · exact q
    · exfalso
      rw [q0] at h
      rcases lk_cases row v 0 with ⟨-, q1⟩ | q1 <;> rcases lk_cases row v 1 with ⟨-, q2⟩ | q2 <;> rcases lk_cases row v 3 with ⟨-, q3⟩ | q3 <;> rw [q1, q2, q3] at h <;> exact absurd h (by decide)
  · rcases lk_cases row v 3 with ⟨q, -⟩ | q0
    · exact q
    · exfalso
      rw [q0] at h
      rcases lk_cases row v 0 with ⟨-, q1⟩ | q1 <;> rcases lk_cases row v 1 with ⟨-, q2⟩ | q2 <;> rcases lk_cases row v 2 with ⟨-, q3⟩ | q3 <;> rw [q1, q2, q3] at h <;> exact absurd h (by decide)
/-! what waits -/
theorem tcn_low {gr am gr' am' : Nat → Int32} {p g g' : Nat} {x lo : Int32} (hp : p < 16) (ho : ∀ q, q < 16 → q ≠ p → gr' q = gr q ∧ am' q = am q) (hg' : g' < 4) (hx : x < lo)
    (hst : (gr p = -1 ∧ gr' p = nI g ∧ am' p = x) ∨ (gr p = nI g ∧ am p = x ∧ gr' p = -1)) (a : Int32) : tcn gr' am' (nI g') lo a 16 = tcn gr am (nI g') lo a 16 := by
  have := tcn_step hp ho (nI g') lo a
  rcases hst with ⟨q1, q2, q3⟩ | ⟨q1, q2, q3⟩
  · rw [if_neg (by rw [q1]; exact fun z => nI_m hg' z.1), if_neg (by rw [q3]; exact fun z => absurd z.2.1 (Int32.not_le.mpr hx))] at this
    exact this
  · rw [if_neg (by rw [q2]; exact fun z => absurd z.2.1 (Int32.not_le.mpr hx)), if_neg (by rw [q3]; exact fun z => nI_m hg' z.1)] at this
    exact this
theorem Rp_low {D : DT} {B : Nat} {row : Nat → Int32} {G A : Nat → Nat → Int32} {wr v : Nat} {nx : Nat → Nat} (h : Rp D B row G A wr nx) (hv : v < 3) (hw : wgt row v = 0) {g : Nat} (hg : g < 4) : like (VF row v g) (VN row v g) (TF row v g) (TN row v g) := by
  obtain ⟨h1, h2, h3, h4, h5, h6⟩ := h
  obtain ⟨q1, q2, q3, q4, q5, q6, q7, q8, q9, q10, q11⟩ := h5 v hv
  refine like_vcn fun a => ?_
  rw [← tcn_vcn (row := row) (fr := 32 + 38 * v) (gr := G (nx v)) (am := A (nx v)) hg q11]
  rw [← tcn_vcn (row := row) (fr := 0) (gr := G wr) (am := A wr) hg (fun p hp => by
    rw [Nat.zero_add, Nat.zero_add, (h4 p hp).1, i32_pm]
    exact ⟨rfl, fun z => ((h4 p hp).2.1 z).symm⟩)]
  have hlow : ∀ d, nx v ≤ d → d < wr → row (146 + d % 32) < row (32 + 38 * v + 34) := fun d a1 a2 => by
    rcases Int32.lt_or_le (row (146 + d % 32)) (row (32 + 38 * v + 34)) with z | z
    · exact z
    · exfalso
      have : 0 < wgt row v := by
        unfold wgt
        rw [q2, h2, ix_n (by omega), ix_n (by omega)]
        exact ct_pos (k := d - nx v) (by omega) (decide_eq_true (by rw [show nx v + (d - nx v) = d by omega]; exact z))
      omega
  have key : ∀ m, nx v + m ≤ wr → tcn (G (nx v + m)) (A (nx v + m)) (nI g) (row (32 + 38 * v + 34)) a 16 = tcn (G (nx v)) (A (nx v)) (nI g) (row (32 + 38 * v + 34)) a 16 := by
    intro m
    induction m with
    | zero => intro _; rfl
    | succ m ih =>
      intro hm
      rw [← ih (by omega)]
      obtain ⟨⟨p, hp, ho, g0, hg0, e1, e2⟩, e3⟩ := q9 (nx v + m) (by omega) (by omega)
      have hx := hlow (nx v + m) (by omega) (by omega)
      refine tcn_low (p := p) (g := g0) hp ho hg hx ?_ a
      rw [← e3]
      rcases e2 with ⟨_, z1, z2, z3⟩ | ⟨_, z1, z2, z3⟩
      · exact Or.inl ⟨z1, z2, z3⟩
      · exact Or.inr ⟨z1, z2, z3⟩
  have := key (wr - nx v) (by omega)
  rw [show nx v + (wr - nx v) = wr by omega] at this
  exact this.symm
theorem um_low {D : DT} {B W v : Nat} {row : Nat → Int32} (h : SB D B row W) (hv : v < 3) (hw : wgt row v = 0) : umN row v 4 = 0 := by
  obtain ⟨G, A, wr, nx, -, hR, -⟩ := h
  exact um_0 (fun g hg => Rp_low hR hv hw hg)
/-- what waits, as numbers -/
theorem SB_wt {D : DT} {B W v : Nat} {row : Nat → Int32} (h : SB D B row W) (hv : v < 3) : ∃ wr nx, row 178 = nI wr ∧ wr < 2 ^ 29 ∧ nx ≤ wr ∧ wr ≤ nx + 30 ∧ wt row v = nI (wr - nx) ∧ wgt row v ≤ wr - nx ∧ (row (32 + 38 * v + 32) = 0 → nx = wr) := by
  obtain ⟨G, A, wr, nx, -, hR, -, hI, -⟩ := h
  have hn := TI_nx hR hI v hv
  obtain ⟨h1, h2, h3, h4, h5, h6⟩ := hR
  obtain ⟨q1, q2, q3, q4, -⟩ := h5 v hv
  refine ⟨wr, nx v, h2, h3, q3, hn, by unfold wt; rw [h2, q2, pk_sub q3], ?_, fun z => ?_⟩
  · unfold wgt
    rw [q2, h2, ix_n (by omega), ix_n (by omega)]
    exact ct_le _ _
  · have := (hI v hv).2.2 z
    rw [q2, h2] at this
    exact nI_inj (by omega) (by omega) this
/-- a group's rows in the table -/
def tr (row : Nat → Int32) (v g : Nat) (n : Nat) : Nat := ct (fun p => decide (¬ row p = 0 ∧ row p - 1 = nI g ∧ row (32 + 38 * v + 34) ≤ row (16 + p))) n
theorem tr_16 (row : Nat → Int32) (v g : Nat) (hg : g < 4) : TN row v g = tr row v g 16 := by
  unfold tr
  refine ct_cong fun p hp => decide_eq_decide.mpr ?_
  rw [Nat.zero_add, Nat.zero_add]
  constructor
  · rintro ⟨h1, h2⟩
    refine ⟨by rw [h1]; exact nI_ne0 (by omega) (by omega), ?_, h2⟩
    rw [h1, ← nI_1, i32_mp]
  · rintro ⟨h1, h2, h3⟩
    refine ⟨?_, h3⟩
    rw [← nI_1, ← h2, i32_pm]
def al (row : Nat → Int32) (v : Nat) : Nat → Int64
  | 0 => 0
  | g + 1 => al row v g + (nI (VN row v g)).toInt64
theorem vN_4 (row : Nat → Int32) (fr : Nat) (lo : Int32) : vN row fr 0 lo + vN row fr 1 lo + vN row fr 2 lo + vN row fr 3 lo ≤ 16 := by
  have key : ∀ n, ct (fun p => decide (row (fr + p) = nI (0 + 1) ∧ lo ≤ row (fr + 16 + p))) n + ct (fun p => decide (row (fr + p) = nI (1 + 1) ∧ lo ≤ row (fr + 16 + p))) n + ct (fun p => decide (row (fr + p) = nI (2 + 1) ∧ lo ≤ row (fr + 16 + p))) n + ct (fun p => decide (row (fr + p) = nI (3 + 1) ∧ lo ≤ row (fr + 16 + p))) n ≤ n := by
    intro n
    induction n with
    | zero => exact Nat.le_refl _
    | succ n ih =>
      rw [ct_s, ct_s, ct_s, ct_s]
      simp only [decide_eq_true_eq]
      have d : ∀ a b : Nat, a ≤ 4 → b ≤ 4 → a ≠ b → row (fr + n) = nI a → ¬ row (fr + n) = nI b := fun a b ha hb hab e z => hab (nI_inj (by omega) (by omega) (e.symm.trans z))
      by_cases e0 : row (fr + n) = nI (0 + 1)
      · rw [if_neg (c := row (fr + n) = nI (1 + 1) ∧ _) (fun z => d 1 2 (by omega) (by omega) (by omega) e0 z.1), if_neg (c := row (fr + n) = nI (2 + 1) ∧ _) (fun z => d 1 3 (by omega) (by omega) (by omega) e0 z.1), if_neg (c := row (fr + n) = nI (3 + 1) ∧ _) (fun z => d 1 4 (by omega) (by omega) (by omega) e0 z.1)]
        split <;> omega
      · rw [if_neg (c := row (fr + n) = nI (0 + 1) ∧ _) (fun z => e0 z.1)]
        by_cases e1 : row (fr + n) = nI (1 + 1)
        · rw [if_neg (c := row (fr + n) = nI (2 + 1) ∧ _) (fun z => d 2 3 (by omega) (by omega) (by omega) e1 z.1), if_neg (c := row (fr + n) = nI (3 + 1) ∧ _) (fun z => d 2 4 (by omega) (by omega) (by omega) e1 z.1)]
          split <;> omega
        · rw [if_neg (c := row (fr + n) = nI (1 + 1) ∧ _) (fun z => e1 z.1)]
          by_cases e2 : row (fr + n) = nI (2 + 1)
          · rw [if_neg (c := row (fr + n) = nI (3 + 1) ∧ _) (fun z => d 3 4 (by omega) (by omega) (by omega) e2 z.1)]
            split <;> omega
          · rw [if_neg (c := row (fr + n) = nI (2 + 1) ∧ _) (fun z => e2 z.1)]
            split <;> omega
  exact key 16
theorem al_4 (row : Nat → Int32) (v : Nat) : al row v 4 ≤ 16 := by
  have h : VN row v 0 + VN row v 1 + VN row v 2 + VN row v 3 ≤ 16 := vN_4 row (32 + 38 * v) (row (32 + 38 * v + 34))
  have e : ∀ n, n ≤ 16 → (nI n).toInt64 = lN n := fun n hn => by
    rw [← Int64.toInt_inj, nI_lI (by omega), lN_toInt (by omega)]
  show ((((0 : Int64) + (nI (VN row v 0)).toInt64) + (nI (VN row v 1)).toInt64) + (nI (VN row v 2)).toInt64) + (nI (VN row v 3)).toInt64 ≤ 16
  rw [e _ (VN_le _ _ _), e _ (VN_le _ _ _), e _ (VN_le _ _ _), e _ (VN_le _ _ _), Int64.zero_add, lN_add, lN_add, lN_add]
  exact (lN_le (by omega) (by decide : 16 < 2 ^ 31)).mpr h
theorem lgd_s {row : Nat → Int32} {v : Nat} : lgd row (v + 1) = if lgd row v < wt row v then wt row v else lgd row v := rfl
