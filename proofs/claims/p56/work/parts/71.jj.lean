/-! what else a row keeps to: amounts, naps, filters, counters -/
def JA (row : Nat → Int32) : Prop := ∀ k, (k < 32 ∨ (32 ≤ k ∧ k < 146 ∧ (k - 32) % 38 < 32)) → rg (row k) (-99) 99
def JV (row : Nat → Int32) : Prop := ∀ v, v < 3 → (row (32 + 38 * v + 32) = 0 ∨ row (32 + 38 * v + 32) = 1) ∧ (∃ k, k ≤ 29 ∧ row (32 + 38 * v + 33) = nI k) ∧ (∃ b, 1 ≤ b ∧ b ≤ 30 ∧ row (32 + 38 * v + 36) = nI b) ∧ (row (32 + 38 * v + 32) = 0 → row (32 + 38 * v + 33) = 0) ∧ rg (row (32 + 38 * v + 34)) (-99) 99
def JC (row : Nat → Int32) (V : Nat) : Prop := ∃ a b, row 180 = nI a ∧ row 181 = nI b ∧ b ≤ a ∧ a ≤ V
def JJ (row : Nat → Int32) (V : Nat) : Prop := JA row ∧ JV row ∧ JC row V
theorem JA_same {row r2 : Nat → Int32} (h : JA row) (hr : ∀ k, k < 146 → r2 k = row k) : JA r2 := fun k hk => by
  rw [hr k (by omega)]; exact h k hk
theorem JV_same {row r2 : Nat → Int32} (h : JV row) (hr : ∀ v, v < 3 → r2 (32 + 38 * v + 32) = row (32 + 38 * v + 32) ∧ r2 (32 + 38 * v + 33) = row (32 + 38 * v + 33) ∧ r2 (32 + 38 * v + 34) = row (32 + 38 * v + 34) ∧ r2 (32 + 38 * v + 36) = row (32 + 38 * v + 36)) : JV r2 := fun v hv => by
  obtain ⟨e1, e2, e3, e4⟩ := hr v hv
  rw [e1, e2, e3, e4]
  exact h v hv
theorem JC_same {row r2 : Nat → Int32} {V : Nat} (h : JC row V) (h1 : r2 180 = row 180) (h2 : r2 181 = row 181) : JC r2 V := by
  unfold JC
  rw [h1, h2]
  exact h
theorem JC_V {row : Nat → Int32} {V V2 : Nat} (h : JC row V) (hV : V ≤ V2) : JC row V2 := by
  obtain ⟨a, b, h1, h2, h3, h4⟩ := h
  exact ⟨a, b, h1, h2, h3, by omega⟩
theorem JJ_V {row : Nat → Int32} {V V2 : Nat} (h : JJ row V) (hV : V ≤ V2) : JJ row V2 := ⟨h.1, h.2.1, JC_V h.2.2 hV⟩
theorem JJ_cong {row r2 : Nat → Int32} {V : Nat} (h : JJ row V) (hr : ∀ k, k < 184 → r2 k = row k) : JJ r2 V :=
  ⟨JA_same h.1 (fun k hk => hr k (by omega)), JV_same h.2.1 (fun v hv => ⟨hr _ (by omega), hr _ (by omega), hr _ (by omega), hr _ (by omega)⟩), JC_same h.2.2 (hr _ (by omega)) (hr _ (by omega))⟩
theorem JA_rowT {row : Nat → Int32} {md : Nat → Nat} (h : JA row) : JA (rowT row md) := fun k hk => by
  unfold rowT
  by_cases e : 32 ≤ k ∧ k < 146 ∧ md ((k - 32) / 38) ≠ 0
  · rw [if_pos e, if_pos (by omega)]
    exact h _ (Or.inl (by omega))
  · rw [if_neg e]; exact h k hk
theorem JV_rowT {row : Nat → Int32} {md : Nat → Nat} (h : JV row) : JV (rowT row md) := fun v hv => by
  obtain ⟨h1, h2, h3, h4, h5⟩ := h v hv
  by_cases e : md v = 2
  · have e32 : rowT row md (32 + 38 * v + 32) = 0 := rowT_w hv (by omega) (by omega) e
    have e33 : rowT row md (32 + 38 * v + 33) = 0 := rowT_w hv (by omega) (by omega) e
    rw [e32, e33, rowT_f (by omega) (by omega), rowT_f (by omega) (by omega)]
    exact ⟨Or.inl rfl, ⟨0, by omega, rfl⟩, h3, fun _ => rfl, h5⟩
  · rw [rowT_1 (by omega) (by omega) e, rowT_1 (by omega) (by omega) e, rowT_f (by omega) (by omega), rowT_f (by omega) (by omega)]
    exact ⟨h1, h2, h3, h4, h5⟩
theorem JC_rowT {row : Nat → Int32} {md : Nat → Nat} {V : Nat} (h : JC row V) : JC (rowT row md) V := JC_same h (rowT_out (by omega)) (rowT_out (by omega))
theorem JJ_rowT {row : Nat → Int32} {md : Nat → Nat} {V : Nat} (h : JJ row V) : JJ (rowT row md) V := ⟨JA_rowT h.1, JV_rowT h.2.1, JC_rowT h.2.2⟩
/-- a cell of the table -/
theorem JJ_tab {row : Nat → Int32} {k V : Nat} {x : Int32} (h : JJ row V) (hk : k < 32) (hx : rg x (-99) 99) : JJ (va_up row k x) V := by
  refine ⟨fun j hj => ?_, JV_same h.2.1 (fun v hv => ⟨va_up_ne _ _ (by omega), va_up_ne _ _ (by omega), va_up_ne _ _ (by omega), va_up_ne _ _ (by omega)⟩), JC_same h.2.2 (va_up_ne _ _ (by omega)) (va_up_ne _ _ (by omega))⟩
  by_cases e : j = k
  · subst e; rw [va_up_self]; exact hx
  · rw [va_up_ne _ _ e]; exact h.1 j hj
/-- a cell that none of it speaks of -/
theorem JJ_hi {row : Nat → Int32} {k V : Nat} {x : Int32} (h : JJ row V) (hk : 146 ≤ k) (h0 : k ≠ 180) (h1 : k ≠ 181) : JJ (va_up row k x) V :=
  ⟨JA_same h.1 (fun j hj => va_up_ne _ _ (by omega)), JV_same h.2.1 (fun v hv => ⟨va_up_ne _ _ (by omega), va_up_ne _ _ (by omega), va_up_ne _ _ (by omega), va_up_ne _ _ (by omega)⟩), JC_same h.2.2 (va_up_ne _ _ (by omega)) (va_up_ne _ _ (by omega))⟩
theorem JJ_nt {row : Nat → Int32} {V : Nat} {a : Int32} (h : JJ row V) : JJ (m_nt row a) V := by
  unfold m_nt
  exact JJ_hi (JJ_hi h (by omega) (by omega) (by omega)) (by omega) (by omega) (by omega)
theorem JJ_w1 {row : Nat → Int32} {V : Nat} (h : JJ row V) : JJ (plus row 180 1) (V + 1) := by
  obtain ⟨hA, hV, a, b, h1, h2, h3, h4⟩ := h
  exact ⟨JA_same hA (fun j hj => plus_ne (by omega)), JV_same hV (fun v hv => ⟨plus_ne (by omega), plus_ne (by omega), plus_ne (by omega), plus_ne (by omega)⟩), a + 1, b, by rw [plus_at, h1, nI_1], by rw [plus_ne (by omega), h2], by omega, by omega⟩
theorem JJ_wake {row : Nat → Int32} {v V : Nat} (h : JJ row V) : JJ (m_wake row v) (V + 1) := JJ_w1 (JJ_rowT h)
theorem JJ_ref {row : Nat → Int32} {v V : Nat} (h : JJ row V) : JJ (m_ref row v) V := JJ_hi (JJ_rowT h) (by omega) (by omega) (by omega)
theorem JJ_nap {row : Nat → Int32} {v V : Nat} (h : JJ row V) (hv : v < 3) : JJ (m_nap row v) V := by
  obtain ⟨hA, hV, hC⟩ := h
  unfold m_nap
  refine ⟨fun j hj => by rw [va_up_ne _ _ (by omega), va_up_ne _ _ (by omega)]; exact hA j hj, fun u hu => ?_, JC_same hC (by rw [va_up_ne _ _ (by omega), va_up_ne _ _ (by omega)]) (by rw [va_up_ne _ _ (by omega), va_up_ne _ _ (by omega)])⟩
  obtain ⟨h1, h2, h3, h4, h5⟩ := hV u hu
  by_cases e : u = v
  · subst e
    rw [va_up_ne _ _ (show 32 + 38 * u + 32 ≠ 32 + 38 * u + 33 by omega), va_up_self, va_up_self, va_up_ne _ _ (show 32 + 38 * u + 34 ≠ 32 + 38 * u + 33 by omega), va_up_ne _ _ (show 32 + 38 * u + 34 ≠ 32 + 38 * u + 32 by omega), va_up_ne _ _ (show 32 + 38 * u + 36 ≠ 32 + 38 * u + 33 by omega), va_up_ne _ _ (show 32 + 38 * u + 36 ≠ 32 + 38 * u + 32 by omega)]
    exact ⟨Or.inr rfl, ⟨0, by omega, rfl⟩, h3, fun _ => rfl, h5⟩
  · rw [va_up_ne _ _ (show 32 + 38 * u + 32 ≠ 32 + 38 * v + 33 by omega), va_up_ne _ _ (show 32 + 38 * u + 32 ≠ 32 + 38 * v + 32 by omega), va_up_ne _ _ (show 32 + 38 * u + 33 ≠ 32 + 38 * v + 33 by omega), va_up_ne _ _ (show 32 + 38 * u + 33 ≠ 32 + 38 * v + 32 by omega), va_up_ne _ _ (show 32 + 38 * u + 34 ≠ 32 + 38 * v + 33 by omega), va_up_ne _ _ (show 32 + 38 * u + 34 ≠ 32 + 38 * v + 32 by omega), va_up_ne _ _ (show 32 + 38 * u + 36 ≠ 32 + 38 * v + 33 by omega), va_up_ne _ _ (show 32 + 38 * u + 36 ≠ 32 + 38 * v + 32 by omega)]
    exact ⟨h1, h2, h3, h4, h5⟩
theorem JJ_set {row : Nat → Int32} {v k V : Nat} {x : Int32} (h : JJ row V) (hv : v < 3) (hx : (k = 34 ∧ rg x (-99) 99) ∨ k = 35 ∨ (k = 36 ∧ ∃ b, 1 ≤ b ∧ b ≤ 30 ∧ x = nI b)) : JJ (setV row v k x) V := by
  obtain ⟨hA, hV, hC⟩ := h
  unfold setV
  refine ⟨fun j hj => by rw [va_up_ne _ _ (by omega)]; exact hA j hj, fun u hu => ?_, JC_same hC (va_up_ne _ _ (by omega)) (va_up_ne _ _ (by omega))⟩
  obtain ⟨h1, h2, h3, h4, h5⟩ := hV u hu
  rw [va_up_ne _ _ (show 32 + 38 * u + 32 ≠ 32 + 38 * v + k by omega), va_up_ne _ _ (show 32 + 38 * u + 33 ≠ 32 + 38 * v + k by omega)]
  refine ⟨h1, h2, ?_, h4, ?_⟩
  · by_cases e : u = v ∧ k = 36
    · obtain ⟨rfl, rfl⟩ := e
      rw [va_up_self]
      rcases hx with ⟨z, _⟩ | z | ⟨_, z⟩
      · exact absurd z (by decide)
      · exact absurd z (by decide)
      · exact z
    · rw [va_up_ne _ _ (by omega)]; exact h3
  · by_cases e : u = v ∧ k = 34
    · obtain ⟨rfl, rfl⟩ := e
      rw [va_up_self]
      rcases hx with ⟨_, z⟩ | z | ⟨z, _⟩
      · exact z
      · exact absurd z (by decide)
      · exact absurd z (by decide)
    · rw [va_up_ne _ _ (by omega)]; exact h5
theorem JJ_far {row : Nat → Int32} {V : Nat} (h : JJ row V) : JJ (m_far row) (V + 3) := by
  obtain ⟨hA, hV, a, b, h1, h2, h3, h4⟩ := JJ_rowT (md := upto 3 (farm row) z0) h
  rw [rowT_out (by omega)] at h1 h2
  have hc := ct_le (fun u => decide (farm row u = 2)) 3
  unfold m_far m_farv
  refine ⟨JA_same hA (fun j hj => if_neg (by omega)), JV_same hV (fun v hv => ⟨if_neg (by omega), if_neg (by omega), if_neg (by omega), if_neg (by omega)⟩), a + ct (fun u => decide (farm row u = 2)) 3, b + ct (fun u => decide (farm row u = 2)) 3, ?_, ?_, by omega, by omega⟩
  · show (if 180 = 180 ∨ 180 = 181 then _ else _) = _
    rw [if_pos (Or.inl rfl), h1, nI_add]
  · show (if 181 = 180 ∨ 181 = 181 then _ else _) = _
    rw [if_pos (Or.inr rfl), h2, nI_add]
theorem JJ_settle {row : Nat → Int32} {V : Nat} (h : JJ row V) : JJ (m_settle row) (V + 3) := JJ_far (JJ_rowT h)
theorem JJ_ins {row : Nat → Int32} {p V : Nat} {g a : Int32} (h : JJ row V) (hp : p < 16) (hg : rg g 0 3) (ha : rg a (-99) 99) : JJ (m_ins row p g a) (V + 3) := by
  obtain ⟨k, hk, rfl⟩ := rg4 hg
  refine JJ_settle (JJ_nt (JJ_tab (JJ_tab h (by omega) ?_) (by omega) ha))
  rw [nI_1]
  exact ⟨Int32.le_trans (by decide) (nI_pos' (n := k + 1) (by omega)), (nI_leI (b := 99) (by omega) (by decide)).mpr (by omega)⟩
theorem JJ_rep {row : Nat → Int32} {p V : Nat} {g a : Int32} (h : JJ row V) (hp : p < 16) (hg : rg g (-99) 99) (ha : rg a (-99) 99) : JJ (m_rep row p g a) (V + 3) :=
  JJ_settle (JJ_nt (JJ_tab (JJ_tab (JJ_nt h) (by omega) hg) (by omega) ha))
theorem JJ_del {row : Nat → Int32} {p V : Nat} (h : JJ row V) (hp : p < 16) : JJ (m_del row p) (V + 3) :=
  JJ_settle (JJ_nt (JJ_tab (JJ_tab h (by omega) (by decide)) (by omega) (by decide)))
theorem rg_g1 {g : Int32} (hg : rg g 0 3) : rg (g + 1) (-99) 99 := by
  obtain ⟨k, hk, rfl⟩ := rg4 hg
  rw [nI_1]
  exact ⟨Int32.le_trans (by decide) (nI_pos' (n := k + 1) (by omega)), (nI_leI (b := 99) (by omega) (by decide)).mpr (by omega)⟩
/-- a view in a tick -/
theorem JJ_pt {row : Nat → Int32} {v V : Nat} (h : JJ row V) (hv : v < 3) : JJ (m_pt row v) (V + 1) := by
  obtain ⟨hA, hV, hC⟩ := id h
  obtain ⟨h1, ⟨k, hk, h2⟩, ⟨b, hb1, hb2, h3⟩, h4, h5⟩ := hV v hv
  unfold m_pt
  by_cases e : row (32 + 38 * v + 32) = 0
  · rw [if_pos e]; exact JJ_V h (by omega)
  · rw [if_neg e]
    by_cases e2 : row (32 + 38 * v + 33) + 1 < row (32 + 38 * v + 36)
    · rw [if_pos e2]
      rw [h2, h3, nI_1, nI_ltI (by omega) (by omega)] at e2
      refine ⟨fun j hj => by rw [plus_ne (by omega)]; exact hA j hj, fun u hu => ?_, JC_V (JC_same hC (plus_ne (by omega)) (plus_ne (by omega))) (by omega)⟩
      obtain ⟨w1, w2, w3, w4, w5⟩ := hV u hu
      rw [plus_ne (show 32 + 38 * u + 32 ≠ 32 + 38 * v + 33 by omega), plus_ne (show 32 + 38 * u + 34 ≠ 32 + 38 * v + 33 by omega), plus_ne (show 32 + 38 * u + 36 ≠ 32 + 38 * v + 33 by omega)]
      by_cases e3 : u = v
      · subst e3
        rw [plus_at, h2, nI_1]
        exact ⟨w1, ⟨k + 1, by omega, rfl⟩, w3, fun z => absurd z e, w5⟩
      · rw [plus_ne (show 32 + 38 * u + 33 ≠ 32 + 38 * v + 33 by omega)]
        exact ⟨w1, w2, w3, w4, w5⟩
    · rw [if_neg e2]
      have eo : ∀ j, j ≠ 32 + 38 * v + 33 → plus row (32 + 38 * v + 33) 1 j = row j := fun j hj => plus_ne hj
      have hA2 : JA (plus row (32 + 38 * v + 33) 1) := fun j hj => by rw [eo j (by omega)]; exact hA j hj
      obtain ⟨a, c, c1, c2, c3, c4⟩ := hC
      refine ⟨JA_same (JA_rowT (md := one v 2) hA2) (fun j hj => ?_), fun u hu => ?_, a + 1, c + 1, ?_, ?_, by omega, by omega⟩
      · rw [plus_ne (by omega)]; unfold m_wake; rw [plus_ne (by omega)]
      · have mo : ∀ o, o < 38 → plus (m_wake (plus row (32 + 38 * v + 33) 1) v) 181 1 (32 + 38 * u + o) = rowT (plus row (32 + 38 * v + 33) 1) (one v 2) (32 + 38 * u + o) := fun o ho => by
          rw [plus_ne (by omega)]; unfold m_wake; rw [plus_ne (by omega)]
        rw [mo _ (by omega), mo _ (by omega), mo _ (by omega), mo _ (by omega)]
        obtain ⟨w1, w2, w3, w4, w5⟩ := hV u hu
        rw [rowT_f (o := 34) (by omega) (by omega), rowT_f (o := 36) (by omega) (by omega), eo _ (by omega), eo _ (by omega)]
        by_cases e3 : u = v
        · subst e3
          rw [rowT_w (o := 32) hu (by omega) (by omega) (one_at _ _), rowT_w (o := 33) hu (by omega) (by omega) (one_at _ _)]
          exact ⟨Or.inl rfl, ⟨0, by omega, rfl⟩, w3, fun _ => rfl, w5⟩
        · rw [rowT_0 (o := 32) (by omega) (one_ne _ e3), rowT_0 (o := 33) (by omega) (one_ne _ e3), eo _ (by omega), eo _ (by omega)]
          exact ⟨w1, w2, w3, w4, w5⟩
      · rw [plus_ne (by omega)]
        unfold m_wake
        rw [plus_at, rowT_out (by omega), eo _ (by omega), c1, nI_1]
      · rw [plus_at]
        unfold m_wake
        rw [plus_ne (by omega), rowT_out (by omega), eo _ (by omega), c2, nI_1]
theorem JJ_ptv {row : Nat → Int32} {V : Nat} (h : JJ row V) : ∀ v, v ≤ 3 → JJ (m_ptv row v) (V + v)
  | 0, _ => h
  | v + 1, hv => JJ_pt (JJ_ptv h v (by omega)) (by omega)
theorem JJ_tick {row : Nat → Int32} {V : Nat} (h : JJ row V) : JJ (m_tick row) (V + 3) := JJ_hi (JJ_ptv h 3 (by omega)) (by omega) (by omega) (by omega)
theorem JJ_ticks {row : Nat → Int32} {V : Nat} (h : JJ row V) : ∀ n, JJ (m_ticks row n) (V + 3 * n)
  | 0 => h
  | n + 1 => JJ_V (JJ_tick (JJ_ticks h n)) (by omega)
theorem JJ_go {row : Nat → Int32} {V : Nat} {p : PartT} (h : JJ row V) (hp : pOK p) : JJ (goP row p) (V + 90) := by
  unfold goP
  rcases hp with ⟨hk, hp, hg, hx⟩ | ⟨hk, hp⟩ | ⟨hk, hp⟩
  · have ha : rg (row (16 + p.2.1)) (-99) 99 := h.1 _ (Or.inl (by omega))
    have hr : rg (row p.2.1) (-99) 99 := h.1 _ (Or.inl (by omega))
    rcases hk with hk | hk | hk | hk
    · rw [if_pos hk]
      exact JJ_V (JJ_ins h hp (hg (Or.inl hk)) (hx (Or.inl hk))) (by omega)
    · rw [if_neg (by rw [hk]; decide), if_pos hk]
      exact JJ_V (JJ_rep h hp (rg_g1 (hg (Or.inr hk))) ha) (by omega)
    · rw [if_neg (by rw [hk]; decide), if_neg (by rw [hk]; decide), if_pos hk]
      exact JJ_V (JJ_rep h hp hr (hx (Or.inr hk))) (by omega)
    · rw [if_neg (by rw [hk]; decide), if_neg (by rw [hk]; decide), if_neg (by rw [hk]; decide), if_pos hk]
      exact JJ_V (JJ_del h hp) (by omega)
  · rw [if_neg (by rw [hk]; decide), if_neg (by rw [hk]; decide), if_neg (by rw [hk]; decide), if_neg (by rw [hk]; decide), if_pos hk]
    exact JJ_V (JJ_ticks h _) (by omega)
  · rw [if_neg (by rcases hk with hk | hk | hk <;> rw [hk] <;> decide), if_neg (by rcases hk with hk | hk | hk <;> rw [hk] <;> decide), if_neg (by rcases hk with hk | hk | hk <;> rw [hk] <;> decide), if_neg (by rcases hk with hk | hk | hk <;> rw [hk] <;> decide), if_neg (by rcases hk with hk | hk | hk <;> rw [hk] <;> decide)]
    rcases hk with hk | hk | hk
    · rw [if_pos hk]; exact JJ_V (JJ_nap h hp) (by omega)
    · rw [if_neg (by rw [hk]; decide), if_pos hk]; exact JJ_V (JJ_wake h) (by omega)
    · rw [if_neg (by rw [hk]; decide), if_neg (by rw [hk]; decide)]; exact JJ_V (JJ_ref h) (by omega)
theorem JJ_rR {row : Nat → Int32} {V : Nat} {ft : Int32} {n a : Nat} {q : ResT} (h : JJ row V) (hq : rOK n a q) : JJ (rR 1 ft row q.1) (V + 90) := by
  unfold rR
  split
  · cases e : q.1 with
    | none => exact JJ_V h (by omega)
    | some p =>
      show JJ (if canP row p = true then goP row p else row) (V + 90)
      split
      · exact JJ_go h (hq.2.2 p e).2
      · exact JJ_V h (by omega)
  · exact JJ_V h (by omega)
theorem JJ_rnA {f : Nat → Int32} {n : Nat} : ∀ (k a : Nat) (q : ResT) (row : Nat → Int32) (ft dn : Int32) (V : Nat), JJ row V → rOK n a q → JJ (rnA f n k q row ft dn).1 (V + 90 * (k + 1))
  | 0, a, q, row, ft, dn, V, h, hq => JJ_rR h hq
  | k + 1, a, q, row, ft, dn, V, h, hq => by
    rw [rnA_s]
    split
    · rename_i z
      exact JJ_V (JJ_rnA k (q.2 + 1) _ _ _ _ (V + 90) (JJ_rR h hq) (pPart_ok (by omega))) (by omega)
    · exact JJ_V (JJ_rR h hq) (by omega)
/-- the whole object -/
def JM (M : DT) (V : Nat) : Prop := JJ (M 7) V ∧ (∃ s, s ≤ 5 ∧ M 6 3 = nI s ∧ ∀ j, j < s → JJ (fun k => M 8 (184 * j + k)) V) ∧ (M 6 5 = 1 → JJ (M 9) V)
theorem JM_V {M : DT} {V V2 : Nat} (h : JM M V) (hV : V ≤ V2) : JM M V2 := by
  obtain ⟨a, ⟨s, b1, b2, b3⟩, c⟩ := h
  exact ⟨JJ_V a hV, ⟨s, b1, b2, fun j hj => JJ_V (b3 j hj) hV⟩, fun z => JJ_V (c z) hV⟩
theorem clr_ne {M : DT} {i k : Nat} (h : ¬ (i = 6 ∧ k = 0)) : clr M i k = M i k := by
  unfold clr
  by_cases e : i = 6
  · subst e; rw [up2_nk _ _ _ (fun z => h ⟨rfl, z⟩)]
  · rw [up2_ne _ _ _ e]
theorem clr_r {M : DT} {i : Nat} (h : i ≠ 6) : clr M i = M i := up2_ne _ _ _ h
theorem JM_clr {M : DT} {V : Nat} (h : JM M V) : JM (clr M) V := by
  obtain ⟨a, ⟨s, b1, b2, b3⟩, c⟩ := h
  refine ⟨by rw [clr_r (by decide)]; exact a, ⟨s, b1, by rw [clr_ne (by decide)]; exact b2, fun j hj => by rw [clr_r (by decide)]; exact b3 j hj⟩, fun z => ?_⟩
  rw [clr_ne (by decide)] at z
  rw [clr_r (by decide)]
  exact c z
theorem JM_save {M : DT} {V : Nat} (h : JM M V) : JM (m_save M) V := by
  obtain ⟨a, ⟨s, b1, b2, b3⟩, c⟩ := h
  have e8 : m_save M 8 = m_book (M 8) (M 7) s := by
    unfold m_save; rw [up2_ne _ _ _ (by decide), va_up_self, b2, ix_n (by omega)]
  refine ⟨by unfold m_save; rw [up2_ne _ _ _ (by decide), va_up_ne _ _ (by decide)]; exact a, ⟨min s 4 + 1, by omega, by unfold m_save; rw [up2_self, b2, ix_n (by omega)], fun j hj => ?_⟩, fun z => ?_⟩
  · rw [e8]
    unfold m_book
    by_cases e : j = min s 4
    · subst e
      exact JJ_cong a (fun k hk => by
        rw [if_pos (by omega), Nat.add_sub_cancel_left])
    · by_cases e5 : s = 5
      · exact JJ_cong (b3 (j + 1) (by omega)) (fun k hk => by
          rw [if_neg (by omega), if_pos (by omega), show 184 + (184 * j + k) = 184 * (j + 1) + k by omega])
      · exact JJ_cong (b3 j (by omega)) (fun k hk => by
          rw [if_neg (by omega), if_neg (by omega)])
  · unfold m_save at z ⊢
    rw [up2_nk _ _ _ (by decide), va_up_ne _ _ (by decide)] at z
    rw [up2_ne _ _ _ (by decide), va_up_ne _ _ (by decide)]
    exact c z
theorem JM_7 {M : DT} {V V2 : Nat} {r : Nat → Int32} (h : JM M V) (hV : V ≤ V2) (hr : JJ r V2) : JM (va_up M 7 r) V2 := by
  obtain ⟨a, ⟨s, b1, b2, b3⟩, c⟩ := JM_V h hV
  refine ⟨by rw [va_up_self]; exact hr, ⟨s, b1, by rw [va_up_ne _ _ (by decide)]; exact b2, fun j hj => by rw [va_up_ne _ _ (by decide)]; exact b3 j hj⟩, fun z => ?_⟩
  rw [va_up_ne _ _ (by decide)] at z ⊢
  exact c z
theorem JM_op {M : DT} {V V2 : Nat} {r : Nat → Int32} (h : JM M V) (hV : V ≤ V2) (hr : JJ r V2) : JM (va_up (m_save (clr M)) 7 r) V2 := JM_7 (JM_save (JM_clr h)) hV hr
/-- a cell of the object's own fields -/
theorem JM_f {M : DT} {V k : Nat} {x : Int32} (h : JM M V) (h3 : k ≠ 3) (h5 : k ≠ 5) : JM (up2 M 6 k x) V := by
  obtain ⟨a, ⟨s, b1, b2, b3⟩, c⟩ := h
  refine ⟨by rw [up2_ne _ _ _ (by decide)]; exact a, ⟨s, b1, by rw [up2_nk _ _ _ (by omega)]; exact b2, fun j hj => by rw [up2_ne _ _ _ (by decide)]; exact b3 j hj⟩, fun z => ?_⟩
  rw [up2_nk _ _ _ (by omega)] at z
  rw [up2_ne _ _ _ (by decide)]
  exact c z
theorem JM_12 {M : DT} {V k : Nat} {x : Int32} (h : JM M V) : JM (up2 M 12 k x) V := by
  obtain ⟨a, ⟨s, b1, b2, b3⟩, c⟩ := h
  refine ⟨by rw [up2_ne _ _ _ (by decide)]; exact a, ⟨s, b1, by rw [up2_ne _ _ _ (by decide)]; exact b2, fun j hj => by rw [up2_ne _ _ _ (by decide)]; exact b3 j hj⟩, fun z => ?_⟩
  rw [up2_ne _ _ _ (by decide)] at z ⊢
  exact c z
theorem JM_und {M : DT} {V s : Nat} (h : JM M V) (hs : M 6 3 = nI s) (hs5 : s ≤ 5) (hs0 : 0 < s) : JM (m_und (clr M) s) V := by
  obtain ⟨a, ⟨s2, b1, b2, b3⟩, c⟩ := JM_clr h
  have e3 : clr M 6 3 = nI s := by rw [clr_ne (by decide)]; exact hs
  have es : s2 = s := nI_inj (by omega) (by omega) (b2.symm.trans e3)
  subst es
  unfold m_und
  refine ⟨?_, ⟨s2 - 1, by omega, by rw [va_up_ne _ _ (by decide), up2_self], fun j hj => by rw [va_up_ne _ _ (by decide), up2_ne _ _ _ (by decide)]; exact b3 j (by omega)⟩, fun z => ?_⟩
  · rw [va_up_self]
    exact JJ_cong (b3 (s2 - 1) (by omega)) (fun k hk => by rw [if_pos hk])
  · rw [va_up_ne _ _ (by decide), up2_nk _ _ _ (by decide)] at z
    rw [va_up_ne _ _ (by decide), up2_ne _ _ _ (by decide)]
    exact c z
theorem JM_keep {M : DT} {V : Nat} (h : JM M V) : JM (m_keep M) V := by
  obtain ⟨a, ⟨s, b1, b2, b3⟩, c⟩ := h
  unfold m_keep
  refine ⟨by rw [up2_ne _ _ _ (by decide), va_up_ne _ _ (by decide)]; exact a, ⟨s, b1, by rw [up2_nk _ _ _ (by decide), va_up_ne _ _ (by decide)]; exact b2, fun j hj => by rw [up2_ne _ _ _ (by decide), va_up_ne _ _ (by decide)]; exact b3 j hj⟩, fun _ => ?_⟩
  rw [up2_ne _ _ _ (by decide), va_up_self]
  exact JJ_cong a (fun k hk => by rw [if_pos hk])
theorem JM_rest {M : DT} {V : Nat} (h : JM M V) (h5 : M 6 5 = 1) : JM (m_rest M) V := by
  obtain ⟨a, b, c⟩ := id h
  unfold m_rest
  exact JM_7 h (Nat.le_refl _) (JJ_cong (c h5) (fun k hk => by rw [if_pos hk]))
theorem JM_rpl {M : DT} {V n : Nat} (h : JM M V) : JM (m_rpl M n) (V + 6000) := by
  unfold m_rpl
  refine JM_f (JM_7 (V := V) (JM_save (JM_clr h)) (by omega) (JJ_hi (JJ_V (V := V + 90 * 62) ?_ (by omega)) (by omega) (by omega) (by omega))) (by decide) (by decide)
  exact JJ_rnA 61 0 _ _ _ _ V h.1 (pPart_ok (by omega))
theorem JJ_0 : JJ row0 0 := by
  refine ⟨fun k hk => ?_, fun v hv => ?_, 0, 0, rfl, rfl, by omega, by omega⟩
  · have e : row0 k = 0 := by
      unfold row0
      rw [if_neg (by omega)]
      by_cases q : 32 ≤ k ∧ k < 146
      · rw [if_pos q, if_neg (by omega), if_neg (by omega), if_neg (by omega)]
      · rw [if_neg q]
    rw [e]; decide
  · have e := (by decide +kernel : ∀ v, v < 3 → row0 (32 + 38 * v + 32) = 0 ∧ row0 (32 + 38 * v + 33) = 0 ∧ row0 (32 + 38 * v + 34) = -99 ∧ row0 (32 + 38 * v + 36) = 8) v hv
    rw [e.1, e.2.1, e.2.2.1, e.2.2.2]
    exact ⟨Or.inl rfl, ⟨0, by omega, rfl⟩, ⟨8, by omega, by omega, rfl⟩, fun _ => rfl, by decide⟩
theorem JM_0 : JM D0 0 := by
  have e7 : D0 7 = row0 := D0_of (i := 7) (k := 4) (by decide)
  have e6 : D0 6 = fun _ => 0 := D0_of (i := 6) (k := 0) (by decide)
  refine ⟨by rw [e7]; exact JJ_0, ⟨0, by omega, by rw [e6]; rfl, fun j hj => absurd hj (by omega)⟩, fun z => ?_⟩
  rw [e6] at z
  exact absurd z (by decide)
