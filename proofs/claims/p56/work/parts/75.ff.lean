/-! what calls do, told for 'follows' -/
theorem RI_live {D : DT} {P : PT} {M M2 : DT} {W : Nat} (h : RI D P M W) (h7 : ∀ k, k < 184 → M2 7 k = M 7 k) (h3 : M2 6 3 = M 6 3) (h5 : M2 6 5 = M 6 5) (h9 : M2 6 9 = M 6 9) (h8 : ∀ s, s ≤ 5 → M 6 3 = nI s → ∀ j, j < s → ∀ k, k < 184 → M2 8 (184 * j + k) = M 8 (184 * j + k)) (h99 : M 6 5 = 1 → ∀ k, k < 184 → M2 9 k = M 9 k) (h12 : ∀ n, n ≤ 60 → M 6 9 = nI n → ∀ k, k < n → M2 12 k = M 12 k) : RI D P M2 W := by
  obtain ⟨a, ⟨s, b1, b2, b3, b4⟩, c, d, ⟨e1, e2, e3⟩, n, f1, f2, f3, f4⟩ := h
  refine ⟨SB_cong a (fun _ _ _ => rfl) h7, ⟨s, b1, h3.trans b2, b3, fun j hj => SB_cong (b4 j hj) (fun _ _ _ => rfl) (h8 s b1 b2 j hj)⟩, c, d, ⟨e1.trans h5.symm, by rw [h5]; exact e2, fun z => ?_⟩, n, f1, h9.trans f2, f3, fun k hk => (f4 k hk).trans (h12 n f1 f2 k hk).symm⟩
  rw [h5] at z
  exact SB_cong (e3 z) (fun _ _ _ => rfl) (h99 z)
theorem RI_7 {D : DT} {P : PT} {N : DT} {r : Nat → Int32} {W : Nat} (h : RI D P N W) (hr : ∀ k, k < 184 → r k = N 7 k) : RI D P (va_up N 7 r) W :=
  RI_live h (fun k hk => by rw [va_up_self]; exact hr k hk) (by rw [va_up_ne _ _ (by decide)]) (by rw [va_up_ne _ _ (by decide)]) (by rw [va_up_ne _ _ (by decide)]) (fun s _ _ j _ k _ => by rw [va_up_ne _ _ (by decide)]) (fun _ k _ => by rw [va_up_ne _ _ (by decide)]) (fun n _ _ k _ => by rw [va_up_ne _ _ (by decide)])
/-- the state, the snapshot and the text are these -/
def FI (R0 T0 : Nat → Int32) (t0 : Int32) (N : DT) : Prop := N 7 = R0 ∧ N 6 5 = 1 ∧ (∀ k, k < 184 → N 9 k = R0 k) ∧ N 6 9 = t0 ∧ N 12 = T0 ∧ ∃ s, s ≤ 5 ∧ N 6 3 = nI s
theorem sv_8 {N : DT} {s : Nat} (hs : N 6 3 = nI s) (hs5 : s ≤ 5) : (∀ k, k < 184 → m_save (clr N) 8 (184 * min s 4 + k) = N 7 k) ∧ m_save (clr N) 6 3 = nI (min s 4 + 1) ∧ m_save (clr N) 6 5 = N 6 5 ∧ m_save (clr N) 6 9 = N 6 9 ∧ m_save (clr N) 9 = N 9 ∧ m_save (clr N) 12 = N 12 := by
  have e3 : clr N 6 3 = nI s := by rw [clr_ne (by decide)]; exact hs
  unfold m_save
  refine ⟨fun k hk => ?_, ?_, ?_, ?_, ?_, ?_⟩
  · rw [up2_ne _ _ _ (by decide), va_up_self, e3, ix_n (by omega)]
    unfold m_book
    rw [if_pos (by omega), Nat.add_sub_cancel_left, clr_r (by decide)]
  · rw [up2_self, e3, ix_n (by omega)]
  · rw [up2_nk _ _ _ (by decide), va_up_ne _ _ (by decide), clr_ne (by decide)]
  · rw [up2_nk _ _ _ (by decide), va_up_ne _ _ (by decide), clr_ne (by decide)]
  · rw [up2_ne _ _ _ (by decide), va_up_ne _ _ (by decide), clr_r (by decide)]
  · rw [up2_ne _ _ _ (by decide), va_up_ne _ _ (by decide), clr_r (by decide)]
/-- what is undone is as it was -/
theorem und_FI {R0 T0 : Nat → Int32} {t0 : Int32} {N E : DT} {r : Nat → Int32} (hF : FI R0 T0 t0 N) (hE : E = va_up (m_save (clr N)) 7 r) : E 7 = r ∧ ∃ s, s ≤ 5 ∧ E 6 3 = nI s ∧ ¬ s = 0 ∧ ∀ (D : DT) (P : PT) (W : Nat), RI D P (m_und (clr E) s) W → ∃ N2, FI R0 T0 t0 N2 ∧ RI D P N2 W := by
  obtain ⟨f1, f2, f3, f4, f5, s, f6, f7⟩ := hF
  obtain ⟨g1, g2, g3, g4, g5, g6⟩ := sv_8 f7 f6
  refine ⟨by rw [hE, va_up_self], min s 4 + 1, by omega, by rw [hE, va_up_ne _ _ (by decide), g2], by omega, fun D P W h => ?_⟩
  have o : ∀ i, i ≠ 6 → i ≠ 7 → m_und (clr E) (min s 4 + 1) i = m_save (clr N) i := fun i a b => by
    unfold m_und
    rw [va_up_ne _ _ b, up2_ne _ _ _ a, clr_r a, hE, va_up_ne _ _ b]
  have o6 : ∀ k, k ≠ 3 → k ≠ 0 → m_und (clr E) (min s 4 + 1) 6 k = m_save (clr N) 6 k := fun k a b => by
    unfold m_und
    rw [va_up_ne _ _ (by decide), up2_nk _ _ _ a, clr_ne (by omega), hE, va_up_ne _ _ (by decide)]
  refine ⟨va_up (m_und (clr E) (min s 4 + 1)) 7 R0, ⟨va_up_self _ _ _, ?_, ?_, ?_, ?_, min s 4, by omega, ?_⟩, RI_7 h (fun k hk => ?_)⟩
  · rw [va_up_ne _ _ (by decide), o6 5 (by decide) (by decide), g3]; exact f2
  · intro k hk; rw [va_up_ne _ _ (by decide), o 9 (by decide) (by decide), g5]; exact f3 k hk
  · rw [va_up_ne _ _ (by decide), o6 9 (by decide) (by decide), g4]; exact f4
  · rw [va_up_ne _ _ (by decide), o 12 (by decide) (by decide), g6]; exact f5
  · rw [va_up_ne _ _ (by decide)]; unfold m_und; rw [va_up_ne _ _ (by decide), up2_self]; rfl
  · unfold m_und
    rw [va_up_self]
    show R0 k = (if k < 184 then clr E 8 (184 * (min s 4 + 1 - 1) + k) else clr E 7 k)
    rw [if_pos hk, clr_r (by decide), hE, va_up_ne _ _ (by decide), Nat.add_sub_cancel, g1 k hk, f1]
theorem keep_FI {D : DT} {P : PT} {M : DT} {W : Nat} (h : RI D P (m_keep (clr M)) W) : FI (M 7) (M 12) (M 6 9) (m_keep (clr M)) := by
  obtain ⟨-, ⟨s, b1, b2, -⟩, -⟩ := h
  refine ⟨?_, ?_, fun k hk => ?_, ?_, ?_, s, b1, b2⟩
  · unfold m_keep; rw [up2_ne _ _ _ (by decide), va_up_ne _ _ (by decide), clr_r (by decide)]
  · unfold m_keep; rw [up2_self]
  · unfold m_keep; rw [up2_ne _ _ _ (by decide), va_up_self]
    show (if k < 184 then clr M 7 k else clr M 9 k) = _
    rw [if_pos hk, clr_r (by decide)]
  · unfold m_keep; rw [up2_nk _ _ _ (by decide), va_up_ne _ _ (by decide), clr_ne (by decide)]
  · unfold m_keep; rw [up2_ne _ _ _ (by decide), va_up_ne _ _ (by decide), clr_r (by decide)]
/-- the snapshot comes back -/
theorem rest_FI {R0 T0 : Nat → Int32} {t0 : Int32} {N : DT} {D : DT} {P : PT} {W : Nat} (hF : FI R0 T0 t0 N) (h : RI D P (m_rest (m_save (clr N))) W) : ∃ N2, FI R0 T0 t0 N2 ∧ RI D P N2 W := by
  obtain ⟨f1, f2, f3, f4, f5, s, f6, f7⟩ := hF
  obtain ⟨g1, g2, g3, g4, g5, g6⟩ := sv_8 f7 f6
  refine ⟨va_up (m_rest (m_save (clr N))) 7 R0, ⟨va_up_self _ _ _, ?_, ?_, ?_, ?_, min s 4 + 1, by omega, ?_⟩, RI_7 h (fun k hk => ?_)⟩
  · rw [va_up_ne _ _ (by decide)]; unfold m_rest; rw [va_up_ne _ _ (by decide), g3]; exact f2
  · intro k hk; rw [va_up_ne _ _ (by decide)]; unfold m_rest; rw [va_up_ne _ _ (by decide), g5]; exact f3 k hk
  · rw [va_up_ne _ _ (by decide)]; unfold m_rest; rw [va_up_ne _ _ (by decide), g4]; exact f4
  · rw [va_up_ne _ _ (by decide)]; unfold m_rest; rw [va_up_ne _ _ (by decide), g6]; exact f5
  · rw [va_up_ne _ _ (by decide)]; unfold m_rest; rw [va_up_ne _ _ (by decide), g2]
  · unfold m_rest
    rw [va_up_self]
    show R0 k = (if k < 184 then m_save (clr N) 9 k else m_save (clr N) 7 k)
    rw [if_pos hk, g5, f3 k hk]
/-! refresh, wake, nap -/
theorem wgt_z {row : Nat → Int32} {v : Nat} (h : row (32 + 38 * v + 37) = row 178) : wgt row v = 0 := by
  unfold wgt
  rw [h, Nat.sub_self]
  rfl
theorem mref_o (R : Nat → Int32) {v : Nat} (hv : v < 3) : m_ref R v (32 + 38 * v + 33) = R (32 + 38 * v + 33) ∧ m_ref R v 178 = R 178 ∧ m_ref R v 182 = R 182 + 1 ∧ m_ref R v (32 + 38 * v + 37) = m_ref R v 178 := by
  unfold m_ref
  refine ⟨?_, ?_, ?_, ?_⟩
  · rw [plus_ne (by omega), rowT_1 (by omega) (by omega) (by rw [one_at]; decide)]
  · rw [plus_ne (by omega), rowT_out (by omega)]
  · rw [plus_at, rowT_out (by omega)]
  · rw [plus_ne (by omega), plus_ne (by omega), rowT_37 hv (by rw [one_at]; decide), rowT_out (by omega)]
theorem mwake_o (R : Nat → Int32) {v : Nat} (hv : v < 3) : m_wake R v (32 + 38 * v + 32) = 0 ∧ m_wake R v 180 = R 180 + 1 ∧ m_wake R v (32 + 38 * v + 37) = m_wake R v 178 := by
  unfold m_wake
  refine ⟨?_, ?_, ?_⟩
  · rw [plus_ne (by omega), rowT_w hv (by omega) (by omega) (one_at _ _)]
  · rw [plus_at, rowT_out (by omega)]
  · rw [plus_ne (by omega), plus_ne (by omega), rowT_37 hv (by rw [one_at]; decide), rowT_out (by omega)]
theorem mnap_o (R : Nat → Int32) {v : Nat} (hv : v < 3) : wt (m_nap R v) v = wt R v ∧ 0 < nps (m_nap R v) ∧ nps (m_nap R v) ≤ 3 := by
  refine ⟨?_, ?_, ct_le _ _⟩
  · unfold wt m_nap
    rw [va_up_ne _ _ (by omega), va_up_ne _ _ (by omega), va_up_ne _ _ (by omega), va_up_ne _ _ (by omega)]
  · refine ct_pos (k := v) hv (decide_eq_true ?_)
    unfold m_nap
    rw [va_up_ne _ _ (by omega), va_up_self]
/-! ticks -/
theorem pt_out {r : Nat → Int32} {u k : Nat} (hk : k < 32 + 38 * u ∨ 32 + 38 * u + 38 ≤ k) (h1 : k ≠ 180) (h2 : k ≠ 181) : m_pt r u k = r k := by
  unfold m_pt
  split
  · rfl
  · split
    · rw [plus_ne (by omega)]
    · rw [plus_ne h2]
      unfold m_wake
      rw [plus_ne h1]
      by_cases e : 32 ≤ k ∧ k < 146
      · obtain ⟨w, o, hw, ho, rfl⟩ : ∃ w o, w < 3 ∧ o < 38 ∧ k = 32 + 38 * w + o := ⟨(k - 32) / 38, (k - 32) % 38, by omega, by omega, by omega⟩
        have hne : w ≠ u := fun z => by subst z; omega
        rw [rowT_0 ho (one_ne _ hne), plus_ne (by omega)]
      · rw [rowT_out (by omega), plus_ne (by omega)]
theorem pt_181 (r : Nat → Int32) (u : Nat) (hu : u < 3) : ∃ c, c ≤ 1 ∧ m_pt r u 181 = r 181 + nI c ∧ (¬ r (32 + 38 * u + 32) = 0 → ¬ r (32 + 38 * u + 33) + 1 < r (32 + 38 * u + 36) → c = 1) := by
  unfold m_pt
  by_cases e : r (32 + 38 * u + 32) = 0
  · rw [if_pos e]; exact ⟨0, by omega, by rw [nI_0, Int32.add_zero], fun z => absurd e z⟩
  · rw [if_neg e]
    by_cases e2 : r (32 + 38 * u + 33) + 1 < r (32 + 38 * u + 36)
    · rw [if_pos e2]; exact ⟨0, by omega, by rw [plus_ne (by omega), nI_0, Int32.add_zero], fun _ z => absurd e2 z⟩
    · rw [if_neg e2]
      refine ⟨1, by omega, ?_, fun _ _ => rfl⟩
      rw [plus_at]
      unfold m_wake
      rw [plus_ne (by omega), rowT_out (by omega), plus_ne (by omega)]
      rfl
theorem pt_nap {r : Nat → Int32} {u : Nat} (h1 : ¬ r (32 + 38 * u + 32) = 0) (h2 : r (32 + 38 * u + 33) + 1 < r (32 + 38 * u + 36)) : m_pt r u = plus r (32 + 38 * u + 33) 1 := by
  unfold m_pt
  rw [if_neg h1, if_pos h2]
theorem pt_wake {r : Nat → Int32} {u : Nat} (hu : u < 3) (h1 : ¬ r (32 + 38 * u + 32) = 0) (h2 : ¬ r (32 + 38 * u + 33) + 1 < r (32 + 38 * u + 36)) : m_pt r u (32 + 38 * u + 32) = 0 ∧ m_pt r u (32 + 38 * u + 37) = r 178 := by
  unfold m_pt
  rw [if_neg h1, if_neg h2]
  unfold m_wake
  refine ⟨?_, ?_⟩
  · rw [plus_ne (by omega), plus_ne (by omega), rowT_w hu (by omega) (by omega) (one_at _ _)]
  · rw [plus_ne (by omega), plus_ne (by omega), rowT_37 hu (by rw [one_at]; decide), plus_ne (by omega)]
/-- a tick, seen from one view -/
theorem tick_v (r : Nat → Int32) {v : Nat} (hv : v < 3) : (∀ o, o < 38 → m_tick r (32 + 38 * v + o) = m_pt (m_ptv r v) v (32 + 38 * v + o)) ∧ (∀ o, o < 38 → m_ptv r v (32 + 38 * v + o) = r (32 + 38 * v + o)) ∧ m_ptv r v 178 = r 178 ∧ m_tick r 178 = r 178 := by
  have lo : ∀ n, n ≤ 3 → ∀ k, (∀ u, u < n → k < 32 + 38 * u ∨ 32 + 38 * u + 38 ≤ k) → k ≠ 180 → k ≠ 181 → m_ptv r n k = r k := by
    intro n
    induction n with
    | zero => intro _ k _ _ _; rfl
    | succ n ih =>
      intro hn k hk a b
      show m_pt (m_ptv r n) n k = r k
      rw [pt_out (hk n (by omega)) a b]
      exact ih (by omega) k (fun u hu => hk u (by omega)) a b
  have hi : ∀ n, n ≤ 3 → v + 1 ≤ n → ∀ o, o < 38 → m_ptv r n (32 + 38 * v + o) = m_pt (m_ptv r v) v (32 + 38 * v + o) := by
    intro n
    induction n with
    | zero => intro _ h; omega
    | succ n ih =>
      intro hn hvn o ho
      by_cases e : n = v
      · subst e; rfl
      · show m_pt (m_ptv r n) n (32 + 38 * v + o) = _
        rw [pt_out (by omega) (by omega) (by omega)]
        exact ih (by omega) (by omega) o ho
  refine ⟨fun o ho => ?_, fun o ho => lo v (by omega) _ (fun u hu => by omega) (by omega) (by omega), lo v (by omega) 178 (fun u hu => by omega) (by omega) (by omega), ?_⟩
  · show plus (m_ptv r 3) 179 1 (32 + 38 * v + o) = _
    rw [plus_ne (by omega)]
    exact hi 3 (by omega) (by omega) o ho
  · show plus (m_ptv r 3) 179 1 178 = _
    rw [plus_ne (by omega)]
    exact lo 3 (by omega) 178 (fun u hu => by omega) (by omega) (by omega)
theorem tick_181 (r : Nat → Int32) {v : Nat} (hv : v < 3) : ∃ c, c ≤ 3 ∧ m_tick r 181 = r 181 + nI c ∧ (¬ r (32 + 38 * v + 32) = 0 → ¬ r (32 + 38 * v + 33) + 1 < r (32 + 38 * v + 36) → 1 ≤ c) := by
  obtain ⟨-, t2, -, -⟩ := tick_v r hv
  have key : ∀ n, n ≤ 3 → ∃ c, c ≤ n ∧ m_ptv r n 181 = r 181 + nI c ∧ (v < n → ¬ r (32 + 38 * v + 32) = 0 → ¬ r (32 + 38 * v + 33) + 1 < r (32 + 38 * v + 36) → 1 ≤ c) := by
    intro n
    induction n with
    | zero => intro _; exact ⟨0, by omega, by rw [nI_0, Int32.add_zero]; rfl, fun h => absurd h (by omega)⟩
    | succ n ih =>
      intro hn
      obtain ⟨c, c1, c2, c3⟩ := ih (by omega)
      obtain ⟨d, d1, d2, d3⟩ := pt_181 (m_ptv r n) n (by omega)
      refine ⟨c + d, by omega, ?_, fun hvn a b => ?_⟩
      · show m_pt (m_ptv r n) n 181 = _
        rw [d2, c2, Int32.add_assoc, nI_add]
      · by_cases e : v < n
        · have := c3 e a b; omega
        · have e2 : v = n := by omega
          subst e2
          have := d3 (by rw [t2 32 (by omega)]; exact a) (by rw [t2 33 (by omega), t2 36 (by omega)]; exact b)
          omega
  obtain ⟨c, c1, c2, c3⟩ := key 3 (by omega)
  refine ⟨c, c1, ?_, c3 hv⟩
  show plus (m_ptv r 3) 179 1 181 = _
  rw [plus_ne (by omega)]
  exact c2
theorem ticks_181 (r : Nat → Int32) : ∀ n, ∃ c, c ≤ 3 * n ∧ m_ticks r n 181 = r 181 + nI c
  | 0 => ⟨0, by omega, by rw [nI_0, Int32.add_zero]; rfl⟩
  | n + 1 => by
    obtain ⟨c, c1, c2⟩ := ticks_181 r n
    obtain ⟨d, d1, d2, -⟩ := tick_181 (m_ticks r n) (v := 0) (by omega)
    refine ⟨c + d, by omega, ?_⟩
    show m_tick (m_ticks r n) 181 = _
    rw [d2, c2, Int32.add_assoc, nI_add]
/-- it naps on, as long as it may -/
theorem ticks_nap {r : Nat → Int32} {v a b : Nat} (hv : v < 3) (h1 : r (32 + 38 * v + 32) = 1) (h2 : r (32 + 38 * v + 33) = nI a) (h3 : r (32 + 38 * v + 36) = nI b) (hb : b ≤ 30) : ∀ n, n = 0 ∨ a + n < b → m_ticks r n (32 + 38 * v + 32) = 1 ∧ m_ticks r n (32 + 38 * v + 33) = nI (a + n) ∧ m_ticks r n (32 + 38 * v + 36) = nI b ∧ m_ticks r n 178 = r 178
  | 0, _ => ⟨h1, h2, h3, rfl⟩
  | n + 1, hn => by
    obtain ⟨i1, i2, i3, i4⟩ := ticks_nap hv h1 h2 h3 hb n (by omega)
    obtain ⟨t1, t2, t3, t4⟩ := tick_v (m_ticks r n) hv
    have n0 : ¬ m_ptv (m_ticks r n) v (32 + 38 * v + 32) = 0 := by rw [t2 32 (by omega), i1]; decide
    have lt : m_ptv (m_ticks r n) v (32 + 38 * v + 33) + 1 < m_ptv (m_ticks r n) v (32 + 38 * v + 36) := by
      rw [t2 33 (by omega), t2 36 (by omega), i2, i3, nI_1]
      exact (nI_ltI (by omega) (by omega)).mpr (by omega)
    show m_tick (m_ticks r n) _ = _ ∧ m_tick (m_ticks r n) _ = _ ∧ m_tick (m_ticks r n) _ = _ ∧ m_tick (m_ticks r n) _ = _
    rw [t1 32 (by omega), t1 33 (by omega), t1 36 (by omega), t4, pt_nap n0 lt]
    refine ⟨by rw [plus_ne (by omega), t2 32 (by omega), i1], by rw [plus_at, t2 33 (by omega), i2, nI_1, Nat.add_assoc], by rw [plus_ne (by omega), t2 36 (by omega), i3], i4⟩
/-- in so many ticks it wakes -/
def lf (a b : Nat) : Nat := if b - a < 1 then 1 else b - a
theorem wks_lf {r : Nat → Int32} {v a b : Nat} (h1 : r (32 + 38 * v + 32) = 1) (h2 : r (32 + 38 * v + 33) = nI a) (h3 : r (32 + 38 * v + 36) = nI b) (ha : a ≤ 29) (hb : b ≤ 30) : wks r v = nI (lf a b) := by
  unfold wks lf
  rw [if_pos h1, h2, h3]
  by_cases e : a ≤ b
  · rw [pk_sub e]
    have n1 : (1 : Int32) = nI 1 := rfl
    rw [n1]
    by_cases e2 : b - a < 1
    · rw [if_pos ((nI_ltI (b := 1) (by omega) (by omega)).mpr e2), if_pos e2]
    · rw [if_neg (fun z => e2 ((nI_ltI (b := 1) (by omega) (by omega)).mp z)), if_neg e2]
  · rw [if_pos, if_pos (by omega)]
    · rfl
    · rw [i32_lt, pk_sub_toInt (by omega) (by omega), show (1 : Int32).toInt = 1 from rfl]
      omega
theorem ticks_wake {r : Nat → Int32} {v a b : Nat} (hv : v < 3) (h1 : r (32 + 38 * v + 32) = 1) (h2 : r (32 + 38 * v + 33) = nI a) (h3 : r (32 + 38 * v + 36) = nI b) (ha : a ≤ 29) (hb1 : 1 ≤ b) (hb : b ≤ 30) : m_ticks r (lf a b) (32 + 38 * v + 32) = 0 ∧ m_ticks r (lf a b) (32 + 38 * v + 37) = m_ticks r (lf a b) 178 ∧ ∃ c, 1 ≤ c ∧ c ≤ 90 ∧ m_ticks r (lf a b) 181 = r 181 + nI c := by
  have hl1 : 1 ≤ lf a b := by unfold lf; split <;> omega
  have hl2 : lf a b ≤ 30 := by unfold lf; split <;> omega
  obtain ⟨n, hn⟩ : ∃ n, lf a b = n + 1 := ⟨lf a b - 1, by omega⟩
  have hn2 : n = 0 ∨ a + n < b := by unfold lf at hn; split at hn <;> omega
  have hn3 : b ≤ a + n + 1 := by unfold lf at hn; split at hn <;> omega
  obtain ⟨i1, i2, i3, i4⟩ := ticks_nap hv h1 h2 h3 hb n hn2
  obtain ⟨t1, t2, t3, t4⟩ := tick_v (m_ticks r n) hv
  have n0 : ¬ m_ticks r n (32 + 38 * v + 32) = 0 := by rw [i1]; decide
  have lt : ¬ m_ticks r n (32 + 38 * v + 33) + 1 < m_ticks r n (32 + 38 * v + 36) := by
    rw [i2, i3, nI_1]
    exact fun z => absurd ((nI_ltI (by omega) (by omega)).mp z) (by omega)
  obtain ⟨w1, w2⟩ := pt_wake (r := m_ptv (m_ticks r n) v) hv (by rw [t2 32 (by omega)]; exact n0) (by rw [t2 33 (by omega), t2 36 (by omega)]; exact lt)
  obtain ⟨c, c1, c2⟩ := ticks_181 r n
  obtain ⟨d, d1, d2, d3⟩ := tick_181 (m_ticks r n) hv
  have := d3 n0 lt
  rw [hn]
  show m_tick (m_ticks r n) _ = _ ∧ m_tick (m_ticks r n) _ = m_tick (m_ticks r n) _ ∧ ∃ c, 1 ≤ c ∧ c ≤ 90 ∧ m_tick (m_ticks r n) _ = _
  refine ⟨by rw [t1 32 (by omega)]; exact w1, by rw [t1 37 (by omega), t4, w2, t3], c + d, by omega, by omega, ?_⟩
  rw [d2, c2, Int32.add_assoc, nI_add]
theorem i32_as (a : Int32) (c : Nat) : a + nI c - a = nI c := by
  rw [Int32.add_comm, Int32.add_sub_cancel]
/-! rows come, change and go -/
theorem setl_lo {row : Nat → Int32} (hf : fl row) {k : Nat} (hk : k < 32 ∨ (146 ≤ k ∧ k < 180)) : m_settle row k = row k := by
  rw [← sB_3 hf]
  unfold sB
  rw [if_neg (by omega), rowT_out (by omega)]
theorem setl_34 {row : Nat → Int32} (hf : fl row) (v : Nat) (hv : v < 3) : m_settle row (32 + 38 * v + 34) = row (32 + 38 * v + 34) := by
  rw [← sB_3 hf]
  unfold sB
  rw [if_neg (by omega), rowT_f (by omega) (by omega)]
theorem nt_o {row : Nat → Int32} {k : Nat} {a : Int32} (hk : k < 146) : m_nt row a k = row k := by
  unfold m_nt
  rw [va_up_ne _ _ (by omega), va_up_ne _ _ (by omega)]
theorem nt_178 (row : Nat → Int32) (a : Int32) : m_nt row a 178 = row 178 + 1 := by unfold m_nt; rw [va_up_self]
theorem ins_o {R : Nat → Int32} {p : Nat} {g a : Int32} (hf : fl R) (hd : dl R 9) (hp : p < 16) : (∀ k, k < 32 → k ≠ p → k ≠ 16 + p → m_ins R p g a k = R k) ∧ m_ins R p g a p = g + 1 ∧ m_ins R p g a (16 + p) = a ∧ m_ins R p g a 178 = R 178 + 1 ∧ ∀ v, v < 3 → m_ins R p g a (32 + 38 * v + 34) = R (32 + 38 * v + 34) := by
  have f2 : fl (m_nt (va_up (va_up R p (g + 1)) (16 + p) a) a) := fl_nt (m := 9) (fl_up (fl_up hf (by omega)) (by omega)) (dl_up (dl_up hd (by omega)) (by omega))
  unfold m_ins
  refine ⟨fun k hk a1 a2 => ?_, ?_, ?_, ?_, fun v hv => ?_⟩
  · rw [setl_lo f2 (by omega), nt_o (by omega), va_up_ne _ _ a2, va_up_ne _ _ a1]
  · rw [setl_lo f2 (by omega), nt_o (by omega), va_up_ne _ _ (by omega), va_up_self]
  · rw [setl_lo f2 (by omega), nt_o (by omega), va_up_self]
  · rw [setl_lo f2 (by omega), nt_178, va_up_ne _ _ (by omega), va_up_ne _ _ (by omega)]
  · rw [setl_34 f2 v hv, nt_o (by omega), va_up_ne _ _ (by omega), va_up_ne _ _ (by omega)]
theorem rep_o {R : Nat → Int32} {p : Nat} {g a : Int32} (hf : fl R) (hd : dl R 9) (hp : p < 16) : m_rep R p g a p = g ∧ m_rep R p g a (16 + p) = a ∧ m_rep R p g a 178 = R 178 + 2 := by
  have hd8 := dl_nt (a := R (16 + p)) (m := 8) hd
  have f1 : fl (m_nt R (R (16 + p))) := fl_nt hf hd
  have f2 : fl (m_nt (va_up (va_up (m_nt R (R (16 + p))) p g) (16 + p) a) a) := fl_nt (m := 8) (fl_up (fl_up f1 (by omega)) (by omega)) (dl_up (dl_up hd8 (by omega)) (by omega))
  unfold m_rep
  refine ⟨?_, ?_, ?_⟩
  · rw [setl_lo f2 (by omega), nt_o (by omega), va_up_ne _ _ (by omega), va_up_self]
  · rw [setl_lo f2 (by omega), nt_o (by omega), va_up_self]
  · rw [setl_lo f2 (by omega), nt_178, va_up_ne _ _ (by omega), va_up_ne _ _ (by omega), nt_178, Int32.add_assoc]; rfl
theorem del_o {R : Nat → Int32} {p : Nat} (hf : fl R) (hd : dl R 9) (hp : p < 16) : m_del R p p = 0 ∧ m_del R p 178 = R 178 + 1 := by
  have f2 : fl (m_nt (va_up (va_up R p 0) (16 + p) 0) (R (16 + p))) := fl_nt (m := 9) (fl_up (fl_up hf (by omega)) (by omega)) (dl_up (dl_up hd (by omega)) (by omega))
  unfold m_del
  refine ⟨?_, ?_⟩
  · rw [setl_lo f2 (by omega), nt_o (by omega), va_up_ne _ _ (by omega), va_up_self]
  · rw [setl_lo f2 (by omega), nt_178, va_up_ne _ _ (by omega), va_up_ne _ _ (by omega)]
theorem tk_ins {R r : Nat → Int32} {p : Nat} (hp : p < 16) (h0 : R p = 0) (ho : ∀ k, k < 32 → k ≠ p → k ≠ 16 + p → r k = R k) (h1 : ¬ r p = 0) : tk r = tk R + 1 := by
  have := ct_flip (P := fun q => decide (R q ≠ 0)) (P' := fun q => decide (r q ≠ 0)) (p := p) (n := 16) hp (fun q a b => by rw [ho q (by omega) b (by omega)])
  simp only [h0, h1, ne_eq, not_true_eq_false, not_false_eq_true, decide_true, decide_false, if_true, Bool.false_eq_true, if_false] at this
  unfold tk
  omega
theorem TN_ins {R r : Nat → Int32} {p g : Nat} {a : Int32} (hp : p < 16) (hg : g < 4) (h0 : R p = 0) (ho : ∀ k, k < 32 → k ≠ p → k ≠ 16 + p → r k = R k) (h1 : r p = nI g + 1) (h2 : r (16 + p) = a) (h34 : r (32 + 38 * 0 + 34) = R (32 + 38 * 0 + 34)) : TN r 0 g = TN R 0 g + (if R (32 + 38 * 0 + 34) ≤ a then 1 else 0) := by
  have e1 : r p = nI (g + 1) := by rw [h1, nI_1]
  have := ct_flip (P := fun q => decide (R (0 + q) = nI (g + 1) ∧ R (32 + 38 * 0 + 34) ≤ R (0 + 16 + q))) (P' := fun q => decide (r (0 + q) = nI (g + 1) ∧ R (32 + 38 * 0 + 34) ≤ r (0 + 16 + q))) (p := p) (n := 16) hp (fun q x y => by rw [ho (0 + q) (by omega) (by omega) (by omega), ho (0 + 16 + q) (by omega) (by omega) (by omega)])
  have z0 : ¬ R (0 + p) = nI (g + 1) := by rw [Nat.zero_add, h0]; exact fun z => nI_ne0 (by omega) (by omega) z.symm
  rw [if_neg (fun z => z0 (of_decide_eq_true z).1)] at this
  have z1 : r (0 + p) = nI (g + 1) := by rw [Nat.zero_add]; exact e1
  have z2 : r (0 + 16 + p) = a := by rw [Nat.zero_add]; exact h2
  rw [z1, z2] at this
  simp only [true_and, decide_eq_true_eq] at this
  show vN r 0 g (r (32 + 38 * 0 + 34)) = vN R 0 g (R (32 + 38 * 0 + 34)) + _
  rw [h34]
  unfold vN
  omega
theorem l_rem {x k : Nat} (hx : x < 2 ^ 31) (h0 : 0 < k) (hk : k < 2 ^ 31) : (nI x).toInt64 - (nI x).toInt64 / lN k * lN k = (nI (x % k)).toInt64 := by
  rw [nI_l hx, pk_lRem (by omega) h0 (by omega), nI_l (by have := Nat.mod_lt x h0; omega)]
theorem rg_a199 {k : Nat} (h : k < 199) : rg (nI k - 99) (-99) 99 := by
  have e : (nI k - 99).toInt = (k : Int) - 99 := pk_sub_toInt (b := 99) (by omega) (by omega)
  exact ⟨by rw [i32_le, e]; show (-99 : Int) ≤ _; omega, by rw [i32_le, e]; show _ ≤ (99 : Int); omega⟩
theorem rg_nn {k : Nat} (h : k < 100) : rg (nI k) (-99) 99 := ⟨Int32.le_trans (by decide) (nI_pos' (n := k) (by omega)), (nI_leI (b := 99) (by omega) (by decide)).mpr (by omega)⟩
