/-! the class's state over the reference's row -/
def TI (row : Nat → Int32) : Prop := ∀ v, v < 3 → (∃ be, 1 ≤ be ∧ be ≤ 30 ∧ row (32 + 38 * v + 35) = nI be) ∧ ¬ row (32 + 38 * v + 35) < wt row v ∧ (row (32 + 38 * v + 32) = 0 → row (32 + 38 * v + 37) = row 178)
def B35 (row : Nat → Int32) : Prop := ∀ v, v < 3 → ∃ be, 1 ≤ be ∧ be ≤ 30 ∧ row (32 + 38 * v + 35) = nI be
theorem TI.b {row : Nat → Int32} (h : TI row) : B35 row := fun v hv => (h v hv).1
theorem TI_nx {D : DT} {B : Nat} {row : Nat → Int32} {G A : Nat → Nat → Int32} {wr : Nat} {nx : Nat → Nat} (h : Rp D B row G A wr nx) (ht : TI row) : ∀ v, v < 3 → wr ≤ nx v + 30 := by
  intro v hv
  obtain ⟨⟨be, b1, b2, e⟩, h2, -⟩ := ht v hv
  obtain ⟨h178, hwr⟩ := h.2
  obtain ⟨q1, q2, q3, q4, -⟩ := h.2.2.2.2.1 v hv
  unfold wt at h2
  have hw := h.2.2.1
  rw [e, h.2.1, q2, pk_sub q3] at h2
  rcases Nat.lt_or_ge be (wr - nx v) with z | z
  · exact absurd (nI_lt z (by omega)) h2
  · omega
theorem nI_inj {a b : Nat} (ha : a < 2 ^ 31) (hb : b < 2 ^ 31) (h : nI a = nI b) : a = b := (nI_eq ha hb).mp h
theorem wt_z {row : Nat → Int32} {v : Nat} (h : row (32 + 38 * v + 37) = row 178) : wt row v = 0 := by
  unfold wt
  rw [h, Int32.sub_self]
theorem be_pos {x : Int32} (h : ∃ be, 1 ≤ be ∧ be ≤ 30 ∧ x = nI be) : ¬ x < 0 := by
  obtain ⟨be, h1, h2, rfl⟩ := h
  exact nI_pos (by omega)
theorem TI_settle {row : Nat → Int32} (hf : fl row) (hb : B35 row) : TI (m_settle row) := by
  intro v hv
  rw [← sB_3 hf]
  have e : upto 3 (mdB row) z0 v = mdB row v := by unfold upto; rw [if_pos hv]
  have e178 : sB row 3 178 = row 178 := sB_178
  have e35 : sB row 3 (32 + 38 * v + 35) = row (32 + 38 * v + 35) := by
    unfold sB; rw [if_neg (by omega), rowT_f (by omega) (by omega)]
  have e37 : mdB row v ≠ 0 → sB row 3 (32 + 38 * v + 37) = row 178 := fun hm => by
    unfold sB; rw [if_neg (by omega), rowT_37 hv (by rw [e]; exact hm)]
  refine ⟨by rw [e35]; exact hb v hv, ?_, ?_⟩
  · by_cases hm : mdB row v = 0
    · have e0 : sB row 3 (32 + 38 * v + 37) = row (32 + 38 * v + 37) := by
        unfold sB; rw [if_neg (by omega), rowT_0 (by omega) (by rw [e]; exact hm)]
      unfold wt
      rw [e35, e178, e0]
      intro z
      unfold mdB at hm
      split at hm
      · exact absurd hm (by decide)
      · rw [if_pos (by unfold wt; exact z)] at hm
        exact absurd hm (by decide)
    · rw [e35, wt_z (by rw [e37 hm, e178])]
      exact be_pos (hb v hv)
  · intro h0
    by_cases hm : mdB row v = 0
    · exfalso
      have e0 : sB row 3 (32 + 38 * v + 32) = row (32 + 38 * v + 32) := by
        unfold sB; rw [if_neg (by omega), rowT_0 (by omega) (by rw [e]; exact hm)]
      rw [e0] at h0
      unfold mdB at hm
      rw [if_pos (by rw [h0]; decide)] at hm
      exact absurd hm (by decide)
    · rw [e37 hm, e178]
/-- the same but for what TI does not look at -/
theorem TI_same {row r2 : Nat → Int32} (h : TI row) (h35 : ∀ v, v < 3 → r2 (32 + 38 * v + 35) = row (32 + 38 * v + 35)) (h37 : ∀ v, v < 3 → r2 (32 + 38 * v + 37) = row (32 + 38 * v + 37) ∨ r2 (32 + 38 * v + 37) = row 178) (h8 : r2 178 = row 178) (h32 : ∀ v, v < 3 → r2 (32 + 38 * v + 32) = 0 → row (32 + 38 * v + 32) = 0 ∨ r2 (32 + 38 * v + 37) = row 178) : TI r2 := by
  intro v hv
  obtain ⟨a, b, c⟩ := h v hv
  refine ⟨by rw [h35 v hv]; exact a, ?_, fun z => ?_⟩
  · rcases h37 v hv with q | q
    · unfold wt
      rw [h35 v hv, q, h8]
      exact b
    · rw [h35 v hv, wt_z (by rw [q, h8])]
      exact be_pos a
  · rcases h32 v hv z with q | q
    · rcases h37 v hv with q2 | q2
      · rw [q2, h8]; exact c q
      · rw [q2, h8]
    · rw [q, h8]
theorem wake_at {row : Nat → Int32} {v u o : Nat} (hu : u < 3) (ho : o < 38) (hne : u ≠ v) : m_wake row v (32 + 38 * u + o) = row (32 + 38 * u + o) := by
  unfold m_wake
  rw [plus_ne (by omega), rowT_0 ho (one_ne _ hne)]
theorem TI_wake {row : Nat → Int32} {v : Nat} (h : TI row) (hv : v < 3) : TI (m_wake row v) := by
  have hw : m_wake row v (32 + 38 * v + 37) = row 178 := by
    unfold m_wake; rw [plus_ne (by omega), rowT_37 hv (by rw [one_at]; decide)]
  refine TI_same h (fun u hu => by unfold m_wake; rw [plus_ne (by omega), rowT_f (by omega) (by omega)]) (fun u hu => ?_) (wake_178 _ _) (fun u hu z => ?_)
  · by_cases e : u = v
    · subst e; exact Or.inr hw
    · exact Or.inl (wake_at hu (by omega) e)
  · by_cases e : u = v
    · subst e; exact Or.inr hw
    · left; rw [wake_at hu (by omega) e] at z; exact z
theorem TI_ref {row : Nat → Int32} {v : Nat} (h : TI row) (hv : v < 3) : TI (m_ref row v) := by
  have hw : m_ref row v (32 + 38 * v + 37) = row 178 := by
    unfold m_ref; rw [plus_ne (by omega), rowT_37 hv (by rw [one_at]; decide)]
  have ha : ∀ u o, u < 3 → o < 38 → u ≠ v → m_ref row v (32 + 38 * u + o) = row (32 + 38 * u + o) := fun u o hu ho e => by
    unfold m_ref; rw [plus_ne (by omega), rowT_0 ho (one_ne _ e)]
  refine TI_same h (fun u hu => by unfold m_ref; rw [plus_ne (by omega), rowT_f (by omega) (by omega)]) (fun u hu => ?_) (by unfold m_ref; rw [plus_ne (by decide), rowT_out (by omega)]) (fun u hu z => ?_)
  · by_cases e : u = v
    · subst e; exact Or.inr hw
    · exact Or.inl (ha u 37 hu (by omega) e)
  · left
    unfold m_ref at z
    rw [plus_ne (by omega), rowT_1 (by omega) (by omega) (by unfold one; split <;> decide)] at z
    exact z
theorem TI_up {row : Nat → Int32} {k : Nat} {x : Int32} (h : TI row) (hk : ∀ u, u < 3 → k ≠ 32 + 38 * u + 32 ∧ k ≠ 32 + 38 * u + 35 ∧ k ≠ 32 + 38 * u + 37) (h8 : k ≠ 178) : TI (va_up row k x) :=
  TI_same h (fun u hu => va_up_ne _ _ (fun z => (hk u hu).2.1 z.symm)) (fun u hu => Or.inl (va_up_ne _ _ (fun z => (hk u hu).2.2 z.symm))) (va_up_ne _ _ (fun z => h8 z.symm)) (fun u hu z => Or.inl (by rw [va_up_ne _ _ (fun z => (hk u hu).1 z.symm)] at z; exact z))
theorem TI_pt {row : Nat → Int32} {v : Nat} (h : TI row) (hv : v < 3) : TI (m_pt row v) := by
  have hp : TI (plus row (32 + 38 * v + 33) 1) := TI_up h (fun u hu => by omega) (by omega)
  unfold m_pt
  split
  · exact h
  · split
    · exact hp
    · exact TI_up (TI_wake hp hv) (fun u hu => by omega) (by omega)
theorem TI_tick {row : Nat → Int32} (h : TI row) : TI (m_tick row) :=
  TI_up (TI_pt (TI_pt (TI_pt h (by decide : 0 < 3)) (by decide : 1 < 3)) (by decide : 2 < 3)) (fun u hu => by omega) (by omega)
theorem TI_ticks {row : Nat → Int32} (h : TI row) : ∀ n, TI (m_ticks row n)
  | 0 => h
  | n + 1 => TI_tick (TI_ticks h n)
theorem TI_nap {row : Nat → Int32} {v : Nat} (h : TI row) (hv : v < 3) : TI (m_nap row v) := by
  unfold m_nap
  refine TI_up (TI_same h (fun u hu => va_up_ne _ _ (by omega)) (fun u hu => Or.inl (va_up_ne _ _ (by omega))) (va_up_ne _ _ (by omega)) (fun u hu z => ?_)) (fun u hu => by omega) (by omega)
  by_cases e : u = v
  · subst e; rw [va_up_self] at z; exact absurd z (by decide)
  · left; rw [va_up_ne _ _ (by omega)] at z; exact z
theorem B35_up {row : Nat → Int32} {k : Nat} {x : Int32} (h : B35 row) (hk : ∀ u, u < 3 → k ≠ 32 + 38 * u + 35) : B35 (va_up row k x) := fun v hv => by
  rw [va_up_ne _ _ (fun z => hk v hv z.symm)]
  exact h v hv
theorem B35_nt {row : Nat → Int32} {a : Int32} (h : B35 row) (hd : dl row 0) : B35 (m_nt row a) := fun v hv => by
  rw [nt_lo hd (by omega)]
  exact h v hv
theorem TI_go {row : Nat → Int32} {p : PartT} (h : TI row) (hw : RW row 2) (hp : pOK p) : TI (goP row p) := by
  have hb := h.b
  have h1 : RW row 1 := RW_le hw (by omega)
  unfold goP
  rcases hp with ⟨hk, hp, _, _⟩ | ⟨hk, hp⟩ | ⟨hk, hp⟩
  · have u2 : ∀ (r : Nat → Int32) (x y : Int32), B35 r → B35 (va_up (va_up r p.2.1 x) (16 + p.2.1) y) := fun r x y hr => B35_up (B35_up hr (fun u hu => by omega)) (fun u hu => by omega)
    have w2 : ∀ (r : Nat → Int32) (x y : Int32) (m : Nat), RW r m → RW (va_up (va_up r p.2.1 x) (16 + p.2.1) y) m := fun r x y m hr => RW_up (RW_up hr (by omega)) (by omega)
    rcases hk with hk | hk | hk | hk
    · rw [if_pos hk]
      exact TI_settle (RW_nt (w2 _ _ _ _ h1)).1 (B35_nt (u2 _ _ _ hb) (dl_le (w2 _ _ _ _ h1).2 (by omega)))
    · rw [if_neg (by rw [hk]; decide), if_pos hk]
      have a1 := RW_nt (m := 1) (a := row (16 + p.2.1)) hw
      exact TI_settle (RW_nt (w2 _ _ _ _ a1)).1 (B35_nt (u2 _ _ _ (B35_nt hb (dl_le hw.2 (by omega)))) (dl_le (w2 _ _ _ _ a1).2 (by omega)))
    · rw [if_neg (by rw [hk]; decide), if_neg (by rw [hk]; decide), if_pos hk]
      have a1 := RW_nt (m := 1) (a := row (16 + p.2.1)) hw
      exact TI_settle (RW_nt (w2 _ _ _ _ a1)).1 (B35_nt (u2 _ _ _ (B35_nt hb (dl_le hw.2 (by omega)))) (dl_le (w2 _ _ _ _ a1).2 (by omega)))
    · rw [if_neg (by rw [hk]; decide), if_neg (by rw [hk]; decide), if_neg (by rw [hk]; decide), if_pos hk]
      exact TI_settle (RW_nt (w2 _ _ _ _ h1)).1 (B35_nt (u2 _ _ _ hb) (dl_le (w2 _ _ _ _ h1).2 (by omega)))
  · rw [if_neg (by rw [hk]; decide), if_neg (by rw [hk]; decide), if_neg (by rw [hk]; decide), if_neg (by rw [hk]; decide), if_pos hk]
    exact TI_ticks h _
  · rw [if_neg (by rcases hk with hk | hk | hk <;> rw [hk] <;> decide), if_neg (by rcases hk with hk | hk | hk <;> rw [hk] <;> decide), if_neg (by rcases hk with hk | hk | hk <;> rw [hk] <;> decide), if_neg (by rcases hk with hk | hk | hk <;> rw [hk] <;> decide), if_neg (by rcases hk with hk | hk | hk <;> rw [hk] <;> decide)]
    rcases hk with hk | hk | hk
    · rw [if_pos hk]; exact TI_nap h hp
    · rw [if_neg (by rw [hk]; decide), if_pos hk]; exact TI_wake h hp
    · rw [if_neg (by rw [hk]; decide), if_neg (by rw [hk]; decide)]; exact TI_ref h hp
theorem lo_ticks (row : Nat → Int32) {k : Nat} (hk : k < 32 ∨ (146 ≤ k ∧ k < 179)) : ∀ n, m_ticks row n k = row k
  | 0 => rfl
  | n + 1 => by
    rw [← lo_ticks row hk n]
    have h1 : ∀ (r : Nat → Int32) (v : Nat), m_wake r v k = r k := fun r v => by unfold m_wake; rw [plus_ne (by omega), rowT_out (by omega)]
    have h2 : ∀ (r : Nat → Int32) (v : Nat), v < 3 → m_pt r v k = r k := fun r v hv => by
      unfold m_pt
      split
      · rfl
      · split
        · rw [plus_ne (by omega)]
        · rw [plus_ne (by omega), h1, plus_ne (by omega)]
    show plus (m_pt (m_pt (m_pt (m_ticks row n) 0) 1) 2) 179 1 k = _
    rw [plus_ne (by omega), h2 _ _ (by decide), h2 _ _ (by decide), h2 _ _ (by decide)]
/-- amounts of rows, and of the latest deltas, are -99 or more -/
def AM (row : Nat → Int32) : Prop := ∀ k, (16 ≤ k ∧ k < 32) ∨ (146 ≤ k ∧ k < 178) → -99 ≤ row k
theorem AM_same {row r2 : Nat → Int32} (h : AM row) (hr : ∀ k, (16 ≤ k ∧ k < 32) ∨ (146 ≤ k ∧ k < 178) → r2 k = row k) : AM r2 := fun k hk => by rw [hr k hk]; exact h k hk
theorem AM_up {row : Nat → Int32} {k : Nat} {x : Int32} (h : AM row) (hx : -99 ≤ x) : AM (va_up row k x) := fun j hj => by
  by_cases e : j = k
  · subst e; rw [va_up_self]; exact hx
  · rw [va_up_ne _ _ e]; exact h j hj
theorem AM_upo {row : Nat → Int32} {k : Nat} {x : Int32} (h : AM row) (hk : ¬ ((16 ≤ k ∧ k < 32) ∨ (146 ≤ k ∧ k < 178))) : AM (va_up row k x) := fun j hj => by
  rw [va_up_ne _ _ (show j ≠ k by omega)]; exact h j hj
theorem AM_nt {row : Nat → Int32} {a : Int32} (h : AM row) (ha : -99 ≤ a) : AM (m_nt row a) := by
  unfold m_nt
  exact AM_upo (AM_up h ha) (by omega)
theorem AM_settle {row : Nat → Int32} (hf : fl row) (h : AM row) : AM (m_settle row) := AM_same h (fun k hk => by
  rw [← sB_3 hf]
  unfold sB
  rw [if_neg (by omega), rowT_out (by omega)])
theorem AM_wake {row : Nat → Int32} (h : AM row) (v : Nat) : AM (m_wake row v) := AM_same h (fun k hk => by unfold m_wake; rw [plus_ne (by omega), rowT_out (by omega)])
theorem AM_ref {row : Nat → Int32} (h : AM row) (v : Nat) : AM (m_ref row v) := AM_same h (fun k hk => by unfold m_ref; rw [plus_ne (by omega), rowT_out (by omega)])
theorem AM_nap {row : Nat → Int32} {v : Nat} (h : AM row) (hv : v < 3) : AM (m_nap row v) := AM_same h (fun k hk => by unfold m_nap; rw [va_up_ne _ _ (by omega), va_up_ne _ _ (by omega)])
theorem AM_ticks {row : Nat → Int32} (h : AM row) (n : Nat) : AM (m_ticks row n) := AM_same h (fun k hk => lo_ticks row (by omega) n)
theorem AM_go {row : Nat → Int32} {p : PartT} (h : AM row) (hw : RW row 2) (hp : pOK p) : AM (goP row p) := by
  have h1 : RW row 1 := RW_le hw (by omega)
  unfold goP
  rcases hp with ⟨hk, hp, _, hx⟩ | ⟨hk, hp⟩ | ⟨hk, hp⟩
  · have u2 : ∀ (r : Nat → Int32) (x y : Int32), AM r → -99 ≤ y → AM (va_up (va_up r p.2.1 x) (16 + p.2.1) y) := fun r x y hr hy => AM_up (AM_upo hr (by omega)) hy
    have w2 : ∀ (r : Nat → Int32) (x y : Int32) (m : Nat), RW r m → RW (va_up (va_up r p.2.1 x) (16 + p.2.1) y) m := fun r x y m hr => RW_up (RW_up hr (by omega)) (by omega)
    have ha : -99 ≤ row (16 + p.2.1) := h _ (by omega)
    rcases hk with hk | hk | hk | hk
    · rw [if_pos hk]
      have hx := (hx (Or.inl hk)).1
      exact AM_settle (RW_nt (w2 _ _ _ _ h1)).1 (AM_nt (u2 _ _ _ h hx) hx)
    · rw [if_neg (by rw [hk]; decide), if_pos hk]
      exact AM_settle (RW_nt (w2 _ _ _ _ (RW_nt (m := 1) (a := row (16 + p.2.1)) hw))).1 (AM_nt (u2 _ _ _ (AM_nt h ha) ha) ha)
    · rw [if_neg (by rw [hk]; decide), if_neg (by rw [hk]; decide), if_pos hk]
      have hx := (hx (Or.inr hk)).1
      exact AM_settle (RW_nt (w2 _ _ _ _ (RW_nt (m := 1) (a := row (16 + p.2.1)) hw))).1 (AM_nt (u2 _ _ _ (AM_nt h ha) hx) hx)
    · rw [if_neg (by rw [hk]; decide), if_neg (by rw [hk]; decide), if_neg (by rw [hk]; decide), if_pos hk]
      exact AM_settle (RW_nt (w2 _ _ _ _ h1)).1 (AM_nt (u2 _ _ _ h (by decide)) ha)
  · rw [if_neg (by rw [hk]; decide), if_neg (by rw [hk]; decide), if_neg (by rw [hk]; decide), if_neg (by rw [hk]; decide), if_pos hk]
    exact AM_ticks h _
  · rw [if_neg (by rcases hk with hk | hk | hk <;> rw [hk] <;> decide), if_neg (by rcases hk with hk | hk | hk <;> rw [hk] <;> decide), if_neg (by rcases hk with hk | hk | hk <;> rw [hk] <;> decide), if_neg (by rcases hk with hk | hk | hk <;> rw [hk] <;> decide), if_neg (by rcases hk with hk | hk | hk <;> rw [hk] <;> decide)]
    rcases hk with hk | hk | hk
    · rw [if_pos hk]; exact AM_nap h hp
    · rw [if_neg (by rw [hk]; decide), if_pos hk]; exact AM_wake h _
    · rw [if_neg (by rw [hk]; decide), if_neg (by rw [hk]; decide)]; exact AM_ref h _
/-- a state's block holds the row -/
def SB (D : DT) (B : Nat) (row : Nat → Int32) (W : Nat) : Prop := ∃ G A wr nx, wr ≤ W ∧ Rp D B row G A wr nx ∧ TR D B row ∧ TI row ∧ AM row
theorem SB.fl {D : DT} {B W : Nat} {row : Nat → Int32} (h : SB D B row W) : fl row := by
  obtain ⟨G, A, wr, nx, hw, hR, hT, hI⟩ := h
  exact fun v hv => (hR.2.2.2.2.1 v hv).2.2.2.2.2.2.2.1
theorem SB.dl {D : DT} {B W m : Nat} {row : Nat → Int32} (h : SB D B row W) (hm : W + m < 2 ^ 29) : dl row m := by
  obtain ⟨G, A, wr, nx, hw, hR, hT, hI⟩ := h
  exact ⟨wr, hR.2.1, by omega⟩
theorem SB.W {D : DT} {B W W2 : Nat} {row : Nat → Int32} (h : SB D B row W) (hW : W ≤ W2) : SB D B row W2 := by
  obtain ⟨G, A, wr, nx, hw, hR, hT, hI⟩ := h
  exact ⟨G, A, wr, nx, by omega, hR, hT, hI⟩
theorem SB_cong {D D2 : DT} {B W : Nat} {row r2 : Nat → Int32} (h : SB D B row W) (hD : ∀ i, B ≤ i → i < B + 39 → D2 i = D i) (hr : ∀ k, k < 184 → r2 k = row k) : SB D2 B r2 W := by
  obtain ⟨G, A, wr, nx, hw, hR, hT, hI⟩ := h
  refine ⟨G, A, wr, nx, hw, Rp_cong hR hr (fun j _ _ => by rw [hD _ (by omega) (by omega)]) (by rw [hD _ (by omega) (by omega)]) (fun k _ => by rw [hD _ (by omega) (by omega), hD _ (by omega) (by omega), hD _ (by omega) (by omega)]; exact ⟨rfl, rfl, rfl⟩) (fun v hv => ⟨fun k _ _ => by rw [hD _ (by omega) (by omega)], fun g _ => ⟨by rw [hD _ (by omega) (by omega)], fun k _ => by rw [hD _ (by omega) (by omega)]⟩⟩), fun p hp => by rw [hD _ (by omega) (by omega), hD _ (by omega) (by omega), hr _ (by omega), hr _ (by omega)]; exact hT p hp, TI_same hI.1 (fun v hv => hr _ (by omega)) (fun v hv => Or.inl (hr _ (by omega))) (hr _ (by omega)) (fun v hv z => Or.inl (by rw [hr _ (by omega)] at z; exact z)), AM_same hI.2 (fun k hk => hr k (by omega))⟩
theorem TR_lo {D D2 : DT} {B : Nat} {row r2 : Nat → Int32} (h : TR D B row) (h1 : D2 (B + 1 + 1) = D (B + 1 + 1)) (h2 : D2 (B + 1 + 2) = D (B + 1 + 2)) (hr : ∀ k, k < 32 → r2 k = row k) : TR D2 B r2 := fun p hp => by
  rw [h1, h2, hr p (by omega), hr (16 + p) (by omega)]
  exact h p hp
theorem Rp_nap {D D2 : DT} {B v : Nat} {row : Nat → Int32} {G A : Nat → Nat → Int32} {wr : Nat} {nx : Nat → Nat} (h : Rp D B row G A wr nx) (hv : v < 3) (hD : D2 = up2 (up2 D (B + 8 + 1 + 10 * v) 4 1) (B + 8 + 1 + 10 * v) 5 0) : Rp D2 B (m_nap row v) G A wr nx := by
  obtain ⟨h1, h2, h3, h4, h5, h6⟩ := h
  have eO : ∀ i, i ≠ B + 8 + 1 + 10 * v → D2 i = D i := fun i hi => by rw [hD, up2_ne _ _ _ hi, up2_ne _ _ _ hi]
  have eV : ∀ k, k ≠ 4 → k ≠ 5 → D2 (B + 8 + 1 + 10 * v) k = D (B + 8 + 1 + 10 * v) k := fun k a b => by rw [hD, up2_nk _ _ _ b, up2_nk _ _ _ a]
  have eR : ∀ k, k ≠ 32 + 38 * v + 32 → k ≠ 32 + 38 * v + 33 → m_nap row v k = row k := fun k a b => by unfold m_nap; rw [va_up_ne _ _ b, va_up_ne _ _ a]
  refine ⟨by rw [eO _ (by omega)]; exact h1, by rw [eR _ (by omega) (by omega)]; exact h2, h3, fun p hp => by rw [eR _ (by omega) (by omega), eR _ (by omega) (by omega)]; exact h4 p hp, fun u hu => ?_, fun j a b => by rw [eO _ (by omega), eR _ (by omega) (by omega)]; exact h6 j a b⟩
  obtain ⟨q1, q2, q3, q4, q5, q6, q7, q8, q9, q10, q11⟩ := h5 u hu
  have q9' : ∀ d, nx u ≤ d → d < wr → LSt D2 (B + 4) G A d ∧ D2 (B + 4 + 2) (d % 64) = m_nap row v (146 + d % 32) := fun d a b => by
    obtain ⟨z1, z2⟩ := q9 d a b
    exact ⟨LSt_cong z1 (by rw [eO _ (by omega)]) (by rw [eO _ (by omega)]) (by rw [eO _ (by omega)]) rfl rfl rfl rfl, by rw [eO _ (by omega), eR _ (by omega) (by omega)]; exact z2⟩
  have q11' : ∀ p, p < 16 → m_nap row v (32 + 38 * u + p) = G (nx u) p + 1 ∧ (m_nap row v (32 + 38 * u + p) ≠ 0 → m_nap row v (32 + 38 * u + (16 + p)) = A (nx u) p) := fun p hp => by rw [eR _ (by omega) (by omega), eR _ (by omega) (by omega)]; exact q11 p hp
  by_cases e : u = v
  · subst e
    have n32 : m_nap row u (32 + 38 * u + 32) = 1 := by unfold m_nap; rw [va_up_ne _ _ (by omega), va_up_self]
    have n33 : m_nap row u (32 + 38 * u + 33) = 0 := by unfold m_nap; rw [va_up_self]
    refine ⟨by rw [eV 6 (by omega) (by omega)]; exact q1, by rw [eR _ (by omega) (by omega)]; exact q2, q3, q4, fun k a b => by rw [eV k (by omega) (by omega), eR _ (by omega) (by omega)]; exact q5 k a b, by rw [n32, hD, up2_nk _ _ _ (by decide), up2_self], by rw [n33, hD, up2_self], Or.inr n32, q9', SV_cong q10 (fun i a b k _ => by rw [eO i (by omega)]) (eV 1 (by omega) (by omega)) (fun _ _ => rfl) (fun _ _ _ => rfl), q11'⟩
  · refine ⟨by rw [eO _ (by omega)]; exact q1, by rw [eR _ (by omega) (by omega)]; exact q2, q3, q4, fun k a b => by rw [eO _ (by omega), eR _ (by omega) (by omega)]; exact q5 k a b, by rw [eO _ (by omega), eR _ (by omega) (by omega)]; exact q6, by rw [eO _ (by omega), eR _ (by omega) (by omega)]; exact q7, by rw [eR _ (by omega) (by omega)]; exact q8, q9', SV_cong q10 (fun i a b k _ => by rw [eO i (by omega)]) (by rw [eO _ (by omega)]) (fun _ _ => rfl) (fun _ _ _ => rfl), q11'⟩
