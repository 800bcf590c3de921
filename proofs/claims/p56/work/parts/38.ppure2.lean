theorem pN_le {f : Nat → Int32} {n a lo hi v b : Nat} (h : pN f n a lo hi = some (v, b)) (hlo : lo ≤ 1) (hhi : hi ≤ 99) : a < b ∧ b ≤ n ∧ v ≤ hi := by
  unfold pN at h
  split at h
  · rename_i q
    obtain ⟨d, hd, ed⟩ := rg_N 9 (x := dg f n a) ⟨Int32.le_trans (nI_pos' (by omega)) q.1.1, q.1.2⟩ rfl
    have l1 := dg_lt ed (by omega)
    have l2 : d ≤ hi := (nI_leI (a := d) (b := hi) (by omega) (by omega)).mp (by rw [← ed]; exact q.2)
    split at h
    · rename_i z
      obtain ⟨e, he, ee⟩ := rg_N 9 z.2.1 rfl
      have l3 := dg_lt ee (by omega)
      injection h with h
      injection h with h1 h2
      exact ⟨by omega, by omega, by omega⟩
    · injection h with h
      injection h with h1 h2
      rw [ed, ix_n (by omega)] at h1
      exact ⟨by omega, by omega, by omega⟩
  · cases h
theorem am_nn {v : Nat} (hv : v ≤ 99) : rg (-(nI v)) (-99) 99 := by
  have e : (-(nI v)).toInt = -(v : Int) := by
    rw [Int32.toInt_neg, nI_toInt (by omega), Int.bmod_eq_of_le (by omega) (by omega)]
  have e1 : (-99 : Int32).toInt = -99 := rfl
  have e2 : (99 : Int32).toInt = 99 := rfl
  constructor
  · rw [i32_le]; omega
  · rw [i32_le]; omega
theorem am_p {v : Nat} (hv : v ≤ 99) : rg (nI v) (-99) 99 := ⟨Int32.le_trans (by decide) (nI_pos' (by omega)), nI_le (a := v) (b := 99) hv (by decide)⟩
theorem pA_le {f : Nat → Int32} {n a : Nat} (ha : a ≤ n) : (pA f n a).2 ≤ n ∧ a ≤ (pA f n a).2 ∧ ∀ x, (pA f n a).1 = some x → rg x (-99) 99 := by
  unfold pA
  split
  · rename_i q
    have l := hr_lt (f := f) (n := n) (a := a) (by rw [q]; decide)
    split
    · rename_i z hz
      obtain ⟨h1, h2, h3⟩ := pN_le (v := z.1) (b := z.2) hz (by decide) (by decide)
      exact ⟨h2, by omega, fun x hx => by injection hx with hx; rw [← hx]; exact am_nn h3⟩
    · exact ⟨l, by omega, fun x hx => by cases hx⟩
  · split
    · rename_i z hz
      obtain ⟨h1, h2, h3⟩ := pN_le (v := z.1) (b := z.2) hz (by decide) (by decide)
      exact ⟨h2, by omega, fun x hx => by injection hx with hx; rw [← hx]; exact am_p h3⟩
    · exact ⟨ha, Nat.le_refl _, fun x hx => by cases hx⟩
theorem pG_le {f : Nat → Int32} {n a : Nat} (ha : a ≤ n) : (pG f n a).2 ≤ n ∧ a ≤ (pG f n a).2 ∧ ∀ g, (pG f n a).1 = some g → rg g 0 3 := by
  unfold pG
  split
  · rename_i q
    exact ⟨hr_lt (f := f) (fun z => absurd q.1 (by rw [z]; decide)), by omega, fun g hg => by injection hg with hg; rw [← hg]; exact q⟩
  · exact ⟨ha, Nat.le_refl _, fun g hg => by cases hg⟩
/-- what a part that was read may be -/
def pOK (p : PartT) : Prop := ((p.1 = 105 ∨ p.1 = 103 ∨ p.1 = 117 ∨ p.1 = 120) ∧ p.2.1 < 16 ∧ (p.1 = 105 ∨ p.1 = 103 → rg p.2.2.1 0 3) ∧ (p.1 = 105 ∨ p.1 = 117 → rg p.2.2.2 (-99) 99)) ∨ (p.1 = 116 ∧ p.2.1 ≤ 30) ∨ ((p.1 = 122 ∨ p.1 = 119 ∨ p.1 = 114) ∧ p.2.1 < 3)
def rOK (n a : Nat) (q : ResT) : Prop := q.2 ≤ n ∧ a ≤ q.2 ∧ ∀ p, q.1 = some p → a < q.2 ∧ pOK p
theorem pRow_ok {f : Nat → Int32} {n a : Nat} {c : Int32} (hc : c = 105 ∨ c = 103 ∨ c = 117 ∨ c = 120) (ha : a ≤ n) : rOK n a (pRow f n c a) := by
  unfold pRow
  split
  · exact ⟨ha, Nat.le_refl _, fun p hp => by cases hp⟩
  · rename_i z hz
    obtain ⟨h1, h2, h3⟩ := pN_le (v := z.1) (b := z.2) hz (by decide) (by decide)
    split
    · obtain ⟨g1, g2, g3⟩ := pG_le (f := f) h2
      split
      · rename_i b hb
        rw [hb] at g1 g2
        exact ⟨g1, by dsimp only at g2 ⊢; omega, fun p hp => by cases hp⟩
      · rename_i g b hb
        rw [hb] at g1 g2 g3
        dsimp only at g1 g2 g3
        obtain ⟨a1, a2, a3⟩ := pA_le (f := f) g1
        split
        · rename_i e he
          rw [he] at a1 a2
          exact ⟨a1, by dsimp only at a2 ⊢; omega, fun p hp => by cases hp⟩
        · rename_i x e he
          rw [he] at a1 a2 a3
          dsimp only at a1 a2 a3
          refine ⟨a1, by dsimp only; omega, fun p hp => ⟨by dsimp only; omega, ?_⟩⟩
          injection hp with hp
          subst hp
          exact Or.inl ⟨Or.inl rfl, by dsimp only; omega, fun _ => g3 g rfl, fun _ => a3 x rfl⟩
    · split
      · obtain ⟨g1, g2, g3⟩ := pG_le (f := f) h2
        split
        · rename_i b hb
          rw [hb] at g1 g2
          exact ⟨g1, by dsimp only at g2 ⊢; omega, fun p hp => by cases hp⟩
        · rename_i g b hb
          rw [hb] at g1 g2 g3
          dsimp only at g1 g2 g3
          refine ⟨g1, by dsimp only; omega, fun p hp => ⟨by dsimp only; omega, ?_⟩⟩
          injection hp with hp
          subst hp
          exact Or.inl ⟨Or.inr (Or.inl rfl), by dsimp only; omega, fun _ => g3 g rfl, fun z => by dsimp only at z; rcases z with z | z <;> exact absurd z (by decide)⟩
      · split
        · split
          · rename_i q
            obtain ⟨a1, a2, a3⟩ := pA_le (f := f) (hr_lt (f := f) (by rw [q]; decide) : z.2 + 1 ≤ n)
            split
            · rename_i e he
              rw [he] at a1 a2
              exact ⟨a1, by dsimp only at a2 ⊢; omega, fun p hp => by cases hp⟩
            · rename_i x e he
              rw [he] at a1 a2 a3
              dsimp only at a1 a2 a3
              refine ⟨a1, by dsimp only; omega, fun p hp => ⟨by dsimp only; omega, ?_⟩⟩
              injection hp with hp
              subst hp
              exact Or.inl ⟨Or.inr (Or.inr (Or.inl rfl)), by dsimp only; omega, fun z => by dsimp only at z; rcases z with z | z <;> exact absurd z (by decide), fun _ => a3 x rfl⟩
          · exact ⟨h2, by dsimp only; omega, fun p hp => by cases hp⟩
        · refine ⟨h2, by dsimp only; omega, fun p hp => ⟨by dsimp only; omega, ?_⟩⟩
          injection hp with hp
          subst hp
          exact Or.inl ⟨Or.inr (Or.inr (Or.inr rfl)), by dsimp only; omega, fun z => by dsimp only at z; rcases z with z | z <;> exact absurd z (by decide), fun z => by dsimp only at z; rcases z with z | z <;> exact absurd z (by decide)⟩
theorem rOK_s {n a : Nat} {q : ResT} (h : rOK n (a + 1) q) : rOK n a q := ⟨h.1, by have := h.2.1; omega, fun p hp => ⟨by have := (h.2.2 p hp).1; omega, (h.2.2 p hp).2⟩⟩
theorem pPart_ok {f : Nat → Int32} {n a : Nat} (ha : a ≤ n) : rOK n a (pPart f n a) := by
  unfold pPart
  split
  · rename_i q
    refine rOK_s (pRow_ok (by rcases q with q | q | q | q <;> simp [q]) (hr_lt (f := f) (n := n) (a := a) ?_))
    rcases q with q | q | q | q <;> rw [q] <;> decide
  · split
    · rename_i q
      have l := hr_lt (f := f) (n := n) (a := a) (by rw [q]; decide)
      split
      · exact ⟨l, by dsimp only; omega, fun p hp => by cases hp⟩
      · rename_i z hz
        obtain ⟨h1, h2, h3⟩ := pN_le (v := z.1) (b := z.2) hz (by decide) (by decide)
        refine ⟨h2, by dsimp only; omega, fun p hp => ⟨by dsimp only; omega, ?_⟩⟩
        injection hp with hp
        subst hp
        exact Or.inr (Or.inl ⟨rfl, h3⟩)
    · split
      · rename_i q
        have l := hr_lt (f := f) (n := n) (a := a) (by rcases q with q | q | q <;> rw [q] <;> decide)
        split
        · exact ⟨l, by dsimp only; omega, fun p hp => by cases hp⟩
        · rename_i z hz
          obtain ⟨h1, h2, h3⟩ := pN_le (v := z.1) (b := z.2) hz (by decide) (by decide)
          refine ⟨h2, by dsimp only; omega, fun p hp => ⟨by dsimp only; omega, ?_⟩⟩
          injection hp with hp
          subst hp
          exact Or.inr (Or.inr ⟨q, by dsimp only; omega⟩)
      · exact ⟨ha, Nat.le_refl _, fun p hp => by cases hp⟩
theorem pres_pd (D : DT) (a : Nat) (g : Int32) (q : ResT) : pres (pd D a g) q = pres D q := by
  unfold pres pe
  rw [pd_k _ _ _ (by decide) (by decide), pd_k _ _ _ (by decide) (by decide), pd_o _ _ _ (by decide), pd_pd]
theorem fl_settle {row : Nat → Int32} (h : fl row) : fl (m_settle row) := by
  intro v hv
  rw [← sB_3 h]
  unfold sB
  rw [if_neg (by omega)]
  have e : upto 3 (mdB row) z0 v = mdB row v := by unfold upto; rw [if_pos hv]
  by_cases q : mdB row v = 2
  · left
    exact rowT_w hv (by omega) (by omega) (by rw [e]; exact q)
  · rw [rowT_1 (by omega) (by omega) (by rw [e]; exact q)]
    exact h v hv
theorem dl_settle {row : Nat → Int32} {m : Nat} (h : fl row) (hd : dl row m) : dl (m_settle row) m := by
  obtain ⟨wr, h1, h2⟩ := hd
  exact ⟨wr, by rw [← sB_3 h, sB_178]; exact h1, h2⟩
/-- flags that are 0 or 1, and room for some more deltas -/
def RW (row : Nat → Int32) (m : Nat) : Prop := fl row ∧ dl row m
theorem RW_le {row : Nat → Int32} {m m2 : Nat} (h : RW row m) (hm : m2 ≤ m) : RW row m2 := ⟨h.1, dl_le h.2 hm⟩
theorem RW_up {row : Nat → Int32} {m k : Nat} {x : Int32} (h : RW row m) (hk : k < 32 ∨ (146 ≤ k ∧ k ≠ 178)) : RW (va_up row k x) m := ⟨fl_up h.1 (by omega), dl_up h.2 (by omega)⟩
theorem RW_nt {row : Nat → Int32} {m : Nat} {a : Int32} (h : RW row (m + 1)) : RW (m_nt row a) m := ⟨fl_nt h.1 h.2, dl_nt h.2⟩
theorem RW_settle {row : Nat → Int32} {m : Nat} (h : RW row m) : RW (m_settle row) m := ⟨fl_settle h.1, dl_settle h.1 h.2⟩
theorem RW_178 {r2 row : Nat → Int32} {m : Nat} (h : RW row m) (hf : fl r2) (h8 : r2 178 = row 178) : RW r2 m := by
  obtain ⟨_, wr, h1, h2⟩ := h
  exact ⟨hf, wr, by rw [h8]; exact h1, h2⟩
theorem wake_178 (row : Nat → Int32) (v : Nat) : m_wake row v 178 = row 178 := by
  unfold m_wake
  rw [plus_ne (by decide), rowT_out (by omega)]
theorem pt_178 (row : Nat → Int32) (v : Nat) (hv : v < 3) : m_pt row v 178 = row 178 := by
  unfold m_pt
  split
  · rfl
  · split
    · rw [plus_ne (by omega)]
    · rw [plus_ne (by omega), wake_178, plus_ne (by omega)]
theorem tick_178 (row : Nat → Int32) : m_tick row 178 = row 178 := by
  unfold m_tick
  rw [plus_ne (by decide)]
  show m_pt (m_pt (m_pt row 0) 1) 2 178 = row 178
  rw [pt_178 _ _ (by decide), pt_178 _ _ (by decide), pt_178 _ _ (by decide)]
theorem ticks_178 (row : Nat → Int32) : ∀ n, m_ticks row n 178 = row 178
  | 0 => rfl
  | n + 1 => (tick_178 _).trans (ticks_178 row n)
theorem fl_ref {row : Nat → Int32} {v : Nat} (h : fl row) : fl (m_ref row v) := fun u hu => by
  unfold m_ref
  rw [plus_ne (by omega), rowT_1 (by omega) (by omega) (by unfold one; split <;> decide)]
  exact h u hu
theorem fl_nap {row : Nat → Int32} {v : Nat} (h : fl row) (hv : v < 3) : fl (m_nap row v) := fun u hu => by
  unfold m_nap
  rw [va_up_ne _ _ (by omega)]
  by_cases e : u = v
  · subst e; right; exact va_up_self _ _ _
  · rw [va_up_ne _ _ (by omega)]; exact h u hu
theorem RW_go {row : Nat → Int32} {m : Nat} {p : PartT} (h : RW row (m + 2)) (hp : pOK p) : RW (goP row p) m := by
  have h1 : RW row (m + 1) := RW_le h (by omega)
  have h0 : RW row m := RW_le h (by omega)
  unfold goP
  rcases hp with ⟨hk, hp, _, _⟩ | ⟨hk, hp⟩ | ⟨hk, hp⟩
  · rcases hk with hk | hk | hk | hk
    · rw [if_pos hk]
      exact RW_settle (RW_nt (RW_up (RW_up h1 (by omega)) (by omega)))
    · rw [if_neg (by rw [hk]; decide), if_pos hk]
      exact RW_settle (RW_nt (RW_up (RW_up (RW_nt (m := m + 1) h) (by omega)) (by omega)))
    · rw [if_neg (by rw [hk]; decide), if_neg (by rw [hk]; decide), if_pos hk]
      exact RW_settle (RW_nt (RW_up (RW_up (RW_nt (m := m + 1) h) (by omega)) (by omega)))
    · rw [if_neg (by rw [hk]; decide), if_neg (by rw [hk]; decide), if_neg (by rw [hk]; decide), if_pos hk]
      exact RW_settle (RW_nt (RW_up (RW_up h1 (by omega)) (by omega)))
  · rw [if_neg (by rw [hk]; decide), if_neg (by rw [hk]; decide), if_neg (by rw [hk]; decide), if_neg (by rw [hk]; decide), if_pos hk]
    exact RW_178 h0 (fl_ticks h.1 _) (ticks_178 _ _)
  · rw [if_neg (by rcases hk with hk | hk | hk <;> rw [hk] <;> decide), if_neg (by rcases hk with hk | hk | hk <;> rw [hk] <;> decide), if_neg (by rcases hk with hk | hk | hk <;> rw [hk] <;> decide), if_neg (by rcases hk with hk | hk | hk <;> rw [hk] <;> decide), if_neg (by rcases hk with hk | hk | hk <;> rw [hk] <;> decide)]
    rcases hk with hk | hk | hk
    · rw [if_pos hk]
      exact RW_178 h0 (fl_nap h.1 hp) (by unfold m_nap; rw [va_up_ne _ _ (by omega), va_up_ne _ _ (by omega)])
    · rw [if_neg (by rw [hk]; decide), if_pos hk]
      exact RW_178 h0 (fl_wake h.1 hp) (wake_178 _ _)
    · rw [if_neg (by rw [hk]; decide), if_neg (by rw [hk]; decide)]
      exact RW_178 h0 (fl_ref h.1) (by unfold m_ref; rw [plus_ne (by decide), rowT_out (by omega)])
theorem pres_o (D : DT) (q : ResT) {i : Nat} (h : i ≠ 6) (h7 : i ≠ 7) : pres D q i = D i := by
  unfold pres pe
  rw [up2_ne _ _ _ h, va_up_ne _ _ h7, pd_o _ _ _ h]
theorem pres_k (D : DT) (q : ResT) {k : Nat} (h : k ≠ 10) (h1 : k ≠ 11) (h3 : k ≠ 13) : pres D q 6 k = D 6 k := by
  unfold pres pe
  rw [up2_nk _ _ _ h3, va_up_ne _ _ (by decide), pd_k _ _ _ h h1]
theorem pres_7 (D : DT) (q : ResT) : pres D q 7 = rR (D 6 12) (D 6 13) (D 7) q.1 := by
  unfold pres pe
  rw [up2_ne _ _ _ (by decide), va_up_self]
theorem pres_a (D : DT) (q : ResT) : pres D q 6 10 = nI q.2 := by
  unfold pres pe
  rw [up2_nk _ _ _ (by decide), va_up_ne _ _ (by decide), pd_a]
theorem pres_g (D : DT) (q : ResT) : pres D q 6 11 = okI q.1 := by
  unfold pres pe
  rw [up2_nk _ _ _ (by decide), va_up_ne _ _ (by decide), pd_g]
theorem pres_f (D : DT) (q : ResT) : pres D q 6 13 = fR (D 6 12) (D 6 13) (D 7) q.1 := by
  unfold pres pe
  rw [up2_self]
theorem okI_01 (o : Option PartT) : okI o = 0 ∨ okI o = 1 := by
  cases o
  · exact Or.inl rfl
  · exact Or.inr rfl
theorem dnU_o (D : DT) {i : Nat} (h : i ≠ 6) : dnU D i = D i := by unfold dnU; rw [up2_ne _ _ _ h]
theorem dnU_k (D : DT) {k : Nat} (h : k ≠ 14) : dnU D 6 k = D 6 k := by unfold dnU; rw [up2_nk _ _ _ h]
def RH (D : DT) (m : Nat) : Prop := D 6 12 = 1 → D 6 13 = 0 → RW (D 7) m
theorem RH_pres {D : DT} {q : ResT} {m : Nat} (h : RH D (m + 2)) (hq : ∀ p, q.1 = some p → pOK p) : RH (pres D q) m := by
  intro h1 h2
  rw [pres_k _ _ (by decide) (by decide) (by decide)] at h1
  rw [pres_f] at h2
  rw [pres_7]
  unfold rR
  unfold fR at h2
  by_cases e : D 6 12 = 1 ∧ D 6 13 = 0
  · rw [if_pos e] at h2 ⊢
    have hw := h e.1 e.2
    rcases ho : q.1 with _ | p
    · exact RW_le hw (by omega)
    · rw [ho] at h2
      dsimp only at h2 ⊢
      split at h2
      · rename_i z
        rw [if_pos z]
        exact RW_go hw (hq p ho)
      · exact absurd h2 (by decide)
  · rw [if_neg e] at h2
    exact absurd ⟨h1, h2⟩ e
theorem RH_dn {D : DT} {m : Nat} (h : RH D m) : RH (dnU D) m := fun h1 h2 => by
  rw [dnU_k _ (by decide)] at h1 h2
  rw [dnU_o _ (by decide)]
  exact h h1 h2
theorem RH_pd {D : DT} {m a : Nat} {g : Int32} (h : RH D m) : RH (pd D a g) m := fun h1 h2 => by
  rw [pd_k _ _ _ (by decide) (by decide)] at h1 h2
  rw [pd_o _ _ _ (by decide)]
  exact h h1 h2
