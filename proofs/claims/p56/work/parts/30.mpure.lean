/-! the reference's calls, over its row -/
abbrev rg (x lo hi : Int32) : Prop := lo ≤ x ∧ x ≤ hi
abbrev ix (x : Int32) : Nat := x.toNatClampNeg
theorem rg_l {x lo hi : Int32} {a b : Int64} (ha : lo.toInt64 = a) (hb : hi.toInt64 = b) : rg x lo hi ↔ (a ≤ x.toInt64 ∧ x.toInt64 ≤ b) := by
  subst ha hb
  unfold rg
  rw [Int64.le_iff_toInt_le, Int64.le_iff_toInt_le, Int32.toInt_toInt64, Int32.toInt_toInt64, Int32.toInt_toInt64, i32_le, i32_le]
theorem rg_N {x hi : Int32} (n : Nat) (h : rg x 0 hi) (hh : hi.toInt = (n : Int)) : ∃ k, k < n + 1 ∧ x = nI k := by
  obtain ⟨j, hj, e⟩ := nI_of2 (x := x) (M := hi) (n := n) hh (Int32.not_lt.mpr h.1) h.2
  exact ⟨j, by omega, e⟩
theorem rg16 {x : Int32} (h : rg x 0 15) : ∃ k, k < 16 ∧ x = nI k := rg_N 15 h rfl
theorem rg4 {x : Int32} (h : rg x 0 3) : ∃ k, k < 4 ∧ x = nI k := rg_N 3 h rfl
theorem rg3 {x : Int32} (h : rg x 0 2) : ∃ k, k < 3 ∧ x = nI k := rg_N 2 h rfl
theorem rg30 {x : Int32} (h : rg x 1 30) : ∃ k, 1 ≤ k ∧ k ≤ 30 ∧ x = nI k := by
  obtain ⟨j, hj, e⟩ := rg_N 30 ⟨Int32.le_trans (by decide : (0 : Int32) ≤ 1) h.1, h.2⟩ rfl
  refine ⟨j, ?_, by omega, e⟩
  subst e
  exact (nI_leI (a := 1) (by decide) (by omega)).mp h.1
theorem rg_of {k n : Nat} {hi : Int32} (h : k ≤ n) (hh : hi = nI n) (hn : n < 2 ^ 31) : rg (nI k) 0 hi := by
  subst hh
  exact ⟨nI_pos' (by omega), nI_le h hn⟩
theorem ix_n {k : Nat} (h : k < 2 ^ 31) : ix (nI k) = k := nI_clamp h
def tk (row : Nat → Int32) : Nat := ct (fun p => decide (row p ≠ 0)) 16
def wt (row : Nat → Int32) (v : Nat) : Int32 := row 178 - row (32 + 38 * v + 37)
def fl (row : Nat → Int32) : Prop := ∀ v, v < 3 → row (32 + 38 * v + 32) = 0 ∨ row (32 + 38 * v + 32) = 1
def dl (row : Nat → Int32) (m : Nat) : Prop := ∃ wr, row 178 = nI wr ∧ wr + m < 2 ^ 29
theorem dl_le {row : Nat → Int32} {m m2 : Nat} (h : dl row m) (hm : m2 ≤ m) : dl row m2 := by
  obtain ⟨wr, h1, h2⟩ := h
  exact ⟨wr, h1, by omega⟩
theorem follow_eq {row g : Nat → Int32} {v : Nat} (hv : v < 3) (h : ∀ j, g j = if 32 + 38 * v ≤ j ∧ j < 32 + 38 * v + 32 then row (j - (32 + 38 * v)) else row j) : va_up g (32 + 38 * v + 37) (g 178) = rowT row (one v 1) := by
  funext k
  by_cases e : k = 32 + 38 * v + 37
  · subst e
    rw [va_up_self, h, if_neg (by omega), rowT_37 hv (by rw [one_at]; decide)]
  · rw [va_up_ne _ _ e, h]
    by_cases e2 : 32 + 38 * v ≤ k ∧ k < 32 + 38 * v + 32
    · obtain ⟨o, ho, rfl⟩ : ∃ o, o < 32 ∧ k = 32 + 38 * v + o := ⟨k - (32 + 38 * v), by omega, by omega⟩
      rw [if_pos e2, rowT_t hv ho (by rw [one_at]; decide), Nat.add_sub_cancel_left]
    · rw [if_neg e2]
      by_cases e3 : 32 ≤ k ∧ k < 146
      · obtain ⟨u, o, hu, ho, rfl⟩ : ∃ u o, u < 3 ∧ o < 38 ∧ k = 32 + 38 * u + o := ⟨(k - 32) / 38, (k - 32) % 38, by omega, by omega, by omega⟩
        by_cases e4 : u = v
        · subst e4
          rw [rowT_1 (by omega) (by omega) (by rw [one_at]; decide)]
        · rw [rowT_0 ho (one_ne _ e4)]
      · rw [rowT_out (by omega)]
theorem rouse_eq {row : Nat → Int32} {v : Nat} (hv : v < 3) : va_up (va_up (va_up (rowT row (one v 1)) (32 + 38 * v + 32) 0) (32 + 38 * v + 33) 0) 180 (row 180 + 1) = m_wake row v := by
  funext k
  unfold m_wake
  by_cases e : k = 180
  · subst e
    rw [va_up_self, plus_at, rowT_out (by omega)]
  · rw [va_up_ne _ _ e, plus_ne e]
    by_cases e1 : k = 32 + 38 * v + 33
    · subst e1
      rw [va_up_self, rowT_w hv (by omega) (by omega) (one_at _ _)]
    · rw [va_up_ne _ _ e1]
      by_cases e2 : k = 32 + 38 * v + 32
      · subst e2
        rw [va_up_self, rowT_w hv (by omega) (by omega) (one_at _ _)]
      · rw [va_up_ne _ _ e2]
        by_cases e3 : 32 ≤ k ∧ k < 146
        · obtain ⟨u, o, hu, ho, rfl⟩ : ∃ u o, u < 3 ∧ o < 38 ∧ k = 32 + 38 * u + o := ⟨(k - 32) / 38, (k - 32) % 38, by omega, by omega, by omega⟩
          by_cases e4 : u = v
          · subst e4
            by_cases o1 : o < 32
            · rw [rowT_t hv o1 (by rw [one_at]; decide), rowT_t hv o1 (by rw [one_at]; decide)]
            · by_cases o2 : o = 37
              · subst o2; rw [rowT_37 hv (by rw [one_at]; decide), rowT_37 hv (by rw [one_at]; decide)]
              · rw [rowT_f (by omega) (by omega), rowT_f (by omega) (by omega)]
          · rw [rowT_0 ho (one_ne _ e4), rowT_0 ho (one_ne _ e4)]
        · rw [rowT_out (by omega), rowT_out (by omega)]
/-- what a view does behind a delta: 1 it follows, 2 it wakes -/
def mdB (row : Nat → Int32) (v : Nat) : Nat := if row (32 + 38 * v + 32) ≠ 1 then 1 else if row (32 + 38 * v + 35) < wt row v then 2 else 0
def sB (row : Nat → Int32) (v : Nat) : Nat → Int32 := fun k => if k = 180 ∨ k = 181 then row k + nI (ct (fun u => decide (mdB row u = 2)) v) else rowT row (upto v (mdB row) z0) k
theorem sB_z (row : Nat → Int32) : sB row 0 = row := by
  funext k
  unfold sB
  split
  · show row k + nI 0 = row k
    rw [nI_0, Int32.add_zero]
  · rw [upto_0]; exact congrFun (rowT_id (fun _ _ => rfl)) k
theorem sB_0 {row : Nat → Int32} {v : Nat} (h : mdB row v = 0) : sB row (v + 1) = sB row v := by
  funext k
  unfold sB
  have hc : ct (fun u => decide (mdB row u = 2)) (v + 1) = ct (fun u => decide (mdB row u = 2)) v := by rw [ct_s]; simp [h]
  rw [rowT_up0 h, hc]
theorem sB_at {row : Nat → Int32} {v k : Nat} (hk : 32 ≤ k) (hk2 : k < 38) : sB row v (32 + 38 * v + k) = row (32 + 38 * v + k) ∨ 3 ≤ v := by
  by_cases hv : v < 3
  · left
    unfold sB
    rw [if_neg (by omega), rowT_0 hk2 (by unfold upto; rw [if_neg (by omega)]; rfl)]
  · right; omega
theorem sB_178 {row : Nat → Int32} {v : Nat} : sB row v 178 = row 178 := by
  unfold sB
  rw [if_neg (by omega), rowT_out (by omega)]
theorem sB_1 {row : Nat → Int32} {v : Nat} (h : mdB row v = 1) : rowT (sB row v) (one v 1) = sB row (v + 1) := by
  have hc : ct (fun u => decide (mdB row u = 2)) (v + 1) = ct (fun u => decide (mdB row u = 2)) v := by rw [ct_s]; simp [h]
  have hT : ∀ k, k < 179 → rowT (sB row v) (one v 1) k = rowT row (upto (v + 1) (mdB row) z0) k := fun k hk => by
    rw [← rowT_up (by rw [h]; decide), h]
    exact rowT_ext (fun j hj => by unfold sB; rw [if_neg (by omega)]) k hk
  funext k
  by_cases e : k = 180 ∨ k = 181
  · rw [rowT_out (by omega)]
    unfold sB
    rw [if_pos e, if_pos e, hc]
  · unfold sB
    rw [if_neg e]
    by_cases e3 : k < 179
    · exact hT k e3
    · rw [rowT_out (by omega), rowT_out (by omega), if_neg e, rowT_out (by omega)]
theorem sB_2 {row : Nat → Int32} {v : Nat} (h : mdB row v = 2) : plus (m_wake (sB row v) v) 181 1 = sB row (v + 1) := by
  have hs : nI (ct (fun u => decide (mdB row u = 2)) (v + 1)) = nI (ct (fun u => decide (mdB row u = 2)) v) + 1 := by rw [ct_s, if_pos (by simpa using h), nI_1]
  have hT : ∀ k, k < 179 → rowT (sB row v) (one v 2) k = rowT row (upto (v + 1) (mdB row) z0) k := fun k hk => by
    rw [← rowT_up (by rw [h]; decide), h]
    exact rowT_ext (fun j hj => by unfold sB; rw [if_neg (by omega)]) k hk
  unfold m_wake
  funext k
  by_cases e1 : k = 181
  · subst e1
    rw [plus_at, plus_ne (by omega), rowT_out (by omega)]
    unfold sB
    rw [if_pos (Or.inr rfl), if_pos (Or.inr rfl), hs, Int32.add_assoc]
  · rw [plus_ne e1]
    by_cases e2 : k = 180
    · subst e2
      rw [plus_at, rowT_out (by omega)]
      unfold sB
      rw [if_pos (Or.inl rfl), if_pos (Or.inl rfl), hs, Int32.add_assoc]
    · rw [plus_ne e2]
      unfold sB
      rw [if_neg (by omega)]
      by_cases e3 : k < 179
      · exact hT k e3
      · rw [rowT_out (by omega), rowT_out (by omega), if_neg (by omega), rowT_out (by omega)]
theorem sB_3 {row : Nat → Int32} (hf : fl row) : sB row 3 = m_settle row := by
  have h1 : ∀ v, v < 3 → farm (rowT row (awk row)) v = farm row v := fun v hv => by
    have e1 : rowT row (awk row) (32 + 38 * v + 32) = row (32 + 38 * v + 32) := rowT_1 (by omega) (by omega) (by unfold awk; split <;> decide)
    have e2 : rowT row (awk row) (32 + 38 * v + 35) = row (32 + 38 * v + 35) := rowT_f (by omega) (by omega)
    have e3 : rowT row (awk row) 178 = row 178 := rowT_out (by omega)
    unfold farm
    rw [e1, e2, e3]
    rcases hf v hv with q | q
    · rw [if_neg (fun z => absurd (q.symm.trans z.1) (by decide)), if_neg (fun z => absurd (q.symm.trans z.1) (by decide))]
    · rw [rowT_0 (by omega) (by unfold awk; rw [if_neg (by rw [q]; decide)])]
  have h2 : ∀ v, v < 3 → mdB row v = if farm row v = 0 then awk row v else farm row v := fun v hv => by
    rcases hf v hv with q | q
    · have ef : farm row v = 0 := by unfold farm; rw [if_neg (fun z => absurd (q.symm.trans z.1) (by decide))]
      rw [ef, if_pos rfl]
      unfold mdB awk
      rw [if_pos (by rw [q]; decide), if_pos q]
    · by_cases e : row (32 + 38 * v + 35) < row 178 - row (32 + 38 * v + 37)
      · have ef : farm row v = 2 := by unfold farm; rw [if_pos ⟨q, e⟩]
        rw [ef, if_neg (by decide)]
        unfold mdB wt
        rw [if_neg (fun z => z q), if_pos e]
      · have ef : farm row v = 0 := by unfold farm; rw [if_neg (fun z => e z.2)]
        rw [ef, if_pos rfl]
        unfold mdB wt awk
        rw [if_neg (fun z => z q), if_neg e, if_neg (by rw [q]; decide)]
  have h3 : ∀ v, v < 3 → (mdB row v = 2 ↔ farm (rowT row (awk row)) v = 2) := fun v hv => by
    rw [h2 v hv, h1 v hv]
    by_cases e : farm row v = 0
    · rw [if_pos e, e]
      unfold awk
      split <;> decide
    · rw [if_neg e]
  unfold m_settle m_far m_farv sB
  funext k
  by_cases e : k = 180 ∨ k = 181
  · rw [if_pos e, if_pos e, rowT_out (by omega), ct_cong (q := fun u => decide (farm (rowT row (awk row)) u = 2)) (fun v hv => by simp only [h3 v hv])]
  · rw [if_neg e, if_neg e, rowT_T (fun v hv => by
      unfold upto
      rw [if_pos hv, h1 v hv]
      by_cases q : farm row v = 0
      · exact Or.inr (Or.inl q)
      · left
        unfold farm at q
        unfold awk
        split at q
        · rename_i z
          rw [if_neg (by rw [z.1]; decide)]
        · exact absurd rfl q)]
    exact congrFun (rowT_cong (fun v hv => by
      unfold upto
      rw [if_pos hv, if_pos hv, h1 v hv]
      exact h2 v hv)) k
def m_nap (row : Nat → Int32) (v : Nat) : Nat → Int32 := va_up (va_up row (32 + 38 * v + 32) 1) (32 + 38 * v + 33) 0
def nps (row : Nat → Int32) : Nat := ct (fun u => decide (row (32 + 38 * u + 32) = 1)) 3
/-- the book of saved rows, one row later -/
def m_book (b row : Nat → Int32) (s : Nat) : Nat → Int32 := fun k => if 184 * min s 4 ≤ k ∧ k < 184 * min s 4 + 184 then row (k - 184 * min s 4) else if s = 5 ∧ k < 736 then b (184 + k) else b k
def m_save (D : DT) : DT := up2 (va_up D 8 (m_book (D 8) (D 7) (ix (D 6 3)))) 6 3 (nI (min (ix (D 6 3)) 4 + 1))
def sok (D : DT) : Prop := ∃ s, s ≤ 5 ∧ D 6 3 = nI s
theorem up2_up2 (D : DT) (i k k2 : Nat) (v v2 : Int32) : up2 (up2 D i k v) i k2 v2 = va_up D i (va_up (va_up (D i) k v) k2 v2) := by
  unfold up2
  rw [va_up_self, va_up_up]
theorem va_up2 (D : DT) (i k : Nat) (v : Int32) (f : Nat → Int32) : va_up (up2 D i k v) i f = va_up D i f := by
  unfold up2
  rw [va_up_up]
theorem sub_add1 (a b : Int32) : a - b + 1 = a + 1 - b := by
  rw [Int32.sub_eq_add_neg, Int32.sub_eq_add_neg, Int32.add_assoc, Int32.add_comm (-b), ← Int32.add_assoc]
theorem fl_upg {row : Nat → Int32} {k : Nat} {x : Int32} (h : fl row) (hk : ∀ u, u < 3 → k ≠ 32 + 38 * u + 32) : fl (va_up row k x) := fun v hv => by
  rw [va_up_ne _ _ (fun z => hk v hv z.symm)]
  exact h v hv
theorem fl_up {row : Nat → Int32} {k : Nat} {x : Int32} (h : fl row) (hk : k < 32 ∨ 146 ≤ k) : fl (va_up row k x) := fl_upg h (fun u hu => by omega)
theorem dl_up {row : Nat → Int32} {m k : Nat} {x : Int32} (h : dl row m) (hk : k ≠ 178) : dl (va_up row k x) m := by
  obtain ⟨wr, h1, h2⟩ := h
  exact ⟨wr, by rw [va_up_ne _ _ (fun z => hk z.symm)]; exact h1, h2⟩
theorem dl_nt {row : Nat → Int32} {m : Nat} {a : Int32} (h : dl row (m + 1)) : dl (m_nt row a) m := by
  obtain ⟨wr, h1, h2⟩ := h
  refine ⟨wr + 1, ?_, by omega⟩
  rw [m_nt_eq h1 (by omega), m_note_w]
theorem nt_lo {row : Nat → Int32} {k : Nat} {a : Int32} (h : dl row 0) (hk : k < 146) : m_nt row a k = row k := by
  obtain ⟨wr, h1, h2⟩ := h
  rw [m_nt_eq h1 (by omega), m_note_o (by omega) (by omega)]
theorem fl_nt {row : Nat → Int32} {m : Nat} {a : Int32} (h : fl row) (hd : dl row m) : fl (m_nt row a) := fun v hv => by
  rw [nt_lo (dl_le hd (Nat.zero_le _)) (by omega)]
  exact h v hv
theorem fl_wake {row : Nat → Int32} {v : Nat} (h : fl row) (hv : v < 3) : fl (m_wake row v) := fun u hu => by
  unfold m_wake
  rw [plus_ne (by omega)]
  by_cases e : u = v
  · subst e
    left
    exact rowT_w hu (by omega) (by omega) (one_at _ _)
  · rw [rowT_0 (by omega) (one_ne _ e)]
    exact h u hu
theorem fl_pt {row : Nat → Int32} {v : Nat} (h : fl row) (hv : v < 3) : fl (m_pt row v) := by
  have hp : fl (plus row (32 + 38 * v + 33) 1) := fl_upg h (fun u hu => by omega)
  unfold m_pt
  split
  · exact h
  · split
    · exact hp
    · exact fl_upg (fl_wake hp hv) (fun u hu => by omega)
theorem fl_ptv' {row : Nat → Int32} (h : fl row) : ∀ v, v ≤ 3 → fl (m_ptv row v)
  | 0, _ => h
  | v + 1, hv => fl_pt (fl_ptv' h v (by omega)) (by omega)
theorem fl_tick {row : Nat → Int32} (h : fl row) : fl (m_tick row) := fl_up (fl_ptv' h 3 (by omega)) (by omega)
theorem fl_ticks {row : Nat → Int32} (h : fl row) : ∀ n, fl (m_ticks row n)
  | 0 => h
  | n + 1 => fl_tick (fl_ticks h n)
/-! the answers of calls that may refuse -/
def clr (D : DT) : DT := up2 D 6 0 0
def mr {α : Type} (k : Int32) (v : α) (D E : DT) (r : α) (D' : DT) : Prop := (¬ k = 0 ∧ D' = up2 D 6 0 k) ∨ (k = 0 ∧ r = v ∧ D' = E)
theorem mr_no {α : Type} {k : Int32} {v r : α} {D E D' : DT} (c : Int32) (hk : k = c) (hc : ¬ c = 0) (hD : D' = up2 D 6 0 c) : mr k v D E r D' := by
  subst hk
  exact Or.inl ⟨hc, hD⟩
theorem mr_ok {α : Type} {k : Int32} {v r : α} {D E D' : DT} (hk : k = 0) (hr : r = v) (hD : D' = E) : mr k v D E r D' := Or.inr ⟨hk, hr, hD⟩
def kIns (row : Nat → Int32) (p g a : Int32) : Int32 := if rg p 0 15 ∧ rg g 0 3 then (if rg a (-99) 99 then (if row (ix p) = 0 then 0 else 3) else 2) else 1
def kChg (row : Nat → Int32) (p a : Int32) : Int32 := if rg p 0 15 then (if rg a (-99) 99 then (if row (ix p) = 0 then 3 else 0) else 2) else 1
def kReg (row : Nat → Int32) (p g : Int32) : Int32 := if rg p 0 15 ∧ rg g 0 3 then (if row (ix p) = 0 then 2 else 0) else 1
def kRow (row : Nat → Int32) (p : Int32) : Int32 := if rg p 0 15 then (if row (ix p) = 0 then 2 else 0) else 1
def kNap (row : Nat → Int32) (v : Int32) : Int32 := if rg v 0 2 then (if row (32 + 38 * ix v + 32) = 1 then 2 else 0) else 1
def kWak (row : Nat → Int32) (v : Int32) : Int32 := if rg v 0 2 then (if row (32 + 38 * ix v + 32) = 1 then 0 else 2) else 1
def kView (v : Int32) : Int32 := if rg v 0 2 then 0 else 1
def kSet (v a lo hi : Int32) : Int32 := if rg v 0 2 then (if rg a lo hi then 0 else 2) else 1
def kRg (a lo hi : Int32) : Int32 := if rg a lo hi then 0 else 1
def setV (row : Nat → Int32) (v k : Nat) (x : Int32) : Nat → Int32 := va_up row (32 + 38 * v + k) x
def m_undo (D : DT) : DT := va_up (up2 D 6 3 (nI (ix (D 6 3) - 1))) 7 (fun k => if k < 184 then D 8 (184 * (ix (D 6 3) - 1) + k) else D 7 k)
def m_keep (D : DT) : DT := up2 (va_up D 9 (fun k => if k < 184 then D 7 k else D 9 k)) 6 5 1
def m_rest (D : DT) : DT := va_up D 7 (fun k => if k < 184 then D 9 k else D 7 k)
