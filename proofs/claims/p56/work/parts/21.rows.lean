/-! what calls do to a row -/
def awk (row : Nat → Int32) : Nat → Nat := fun u => if row (32 + 38 * u + 32) = 0 then 1 else 0
def nxa (row : Nat → Int32) (w : Nat) (nx : Nat → Nat) : Nat → Nat := fun u => if row (32 + 38 * u + 32) = 0 then w else nx u
def upto {α : Type} (v : Nat) (m n : Nat → α) : Nat → α := fun u => if u < v then m u else n u
def z0 : Nat → Nat := fun _ => 0
/-- which views wake by themselves, as too far behind -/
def farm (row : Nat → Int32) : Nat → Nat := fun u => if row (32 + 38 * u + 32) = 1 ∧ row (32 + 38 * u + 35) < row 178 - row (32 + 38 * u + 37) then 2 else 0
def m_farv (row : Nat → Int32) (v : Nat) : Nat → Int32 := fun k => if k = 180 ∨ k = 181 then row k + nI (ct (fun u => decide (farm row u = 2)) v) else rowT row (upto v (farm row) z0) k
def m_far (row : Nat → Int32) : Nat → Int32 := m_farv row 3
def m_wake (row : Nat → Int32) (v : Nat) : Nat → Int32 := plus (rowT row (one v 2)) 180 1
def m_ref (row : Nat → Int32) (v : Nat) : Nat → Int32 := plus (rowT row (one v 1)) 182 1
def m_pt (row : Nat → Int32) (v : Nat) : Nat → Int32 := if row (32 + 38 * v + 32) = 0 then row else if row (32 + 38 * v + 33) + 1 < row (32 + 38 * v + 36) then plus row (32 + 38 * v + 33) 1 else plus (m_wake (plus row (32 + 38 * v + 33) 1) v) 181 1
def m_ptv (row : Nat → Int32) : Nat → Nat → Int32
  | 0 => row
  | v + 1 => m_pt (m_ptv row v) v
def m_tick (row : Nat → Int32) : Nat → Int32 := plus (m_ptv row 3) 179 1
def m_ticks (row : Nat → Int32) : Nat → Nat → Int32
  | 0 => row
  | n + 1 => m_tick (m_ticks row n)
def m_nt (row : Nat → Int32) (a : Int32) : Nat → Int32 := va_up (va_up row (146 + (row 178).toNatClampNeg % 32) a) 178 (row 178 + 1)
def m_settle (row : Nat → Int32) : Nat → Int32 := m_far (rowT row (awk row))
def m_ins (row : Nat → Int32) (p : Nat) (g a : Int32) : Nat → Int32 := m_settle (m_nt (va_up (va_up row p (g + 1)) (16 + p) a) a)
def m_rep (row : Nat → Int32) (p : Nat) (g a : Int32) : Nat → Int32 := m_settle (m_nt (va_up (va_up (m_nt row (row (16 + p))) p g) (16 + p) a) a)
def m_del (row : Nat → Int32) (p : Nat) : Nat → Int32 := m_settle (m_nt (va_up (va_up row p 0) (16 + p) 0) (row (16 + p)))
theorem m_nt_eq {row : Nat → Int32} {wr : Nat} (h : row 178 = nI wr) (hw : wr < 2 ^ 31) (a : Int32) : m_nt row a = m_note row wr a := by
  unfold m_nt m_note
  rw [h, nI_clamp hw, nI_1]
theorem plus_ne {row : Nat → Int32} {k j : Nat} {x : Int32} (h : j ≠ k) : plus row k x j = row j := by unfold plus; rw [va_up_ne _ _ h]
theorem plus_at {row : Nat → Int32} {k : Nat} {x : Int32} : plus row k x k = row k + x := by unfold plus; rw [va_up_self]
theorem ctr_up {D D2 : DT} {B j0 : Nat} {row rowx : Nat → Int32} (h : ∀ j, 3 ≤ j → j ≤ 7 → D B j = row (176 + j)) (hr : ∀ j, 3 ≤ j → j ≤ 7 → rowx (176 + j) = row (176 + j)) (h1 : D2 B j0 = D B j0 + 1) (h2 : ∀ j, j ≠ j0 → D2 B j = D B j) (hj : 3 ≤ j0 ∧ j0 ≤ 7) : ∀ j, 3 ≤ j → j ≤ 7 → D2 B j = plus rowx (176 + j0) 1 (176 + j) := by
  intro j a b
  by_cases e : j = j0
  · subst e; rw [plus_at, h1, h j a b, hr j a b]
  · rw [plus_ne (by omega), h2 j e, h j a b, hr j a b]
/-- one of the counters grows -/
theorem Rp_cnt {D D2 : DT} {B j : Nat} {row : Nat → Int32} {G A : Nat → Nat → Int32} {wr : Nat} {nx : Nat → Nat} (h : Rp D B row G A wr nx) (hD : D2 = up2 D B j (D B j + 1)) (hj : 3 ≤ j ∧ j ≤ 7) : Rp D2 B (plus row (176 + j) 1) G A wr nx := by
  obtain ⟨h1, h2, h3, h4, h5, h6⟩ := h
  have eO : ∀ i, i ≠ B → D2 i = D i := fun i hi => by rw [hD, up2_ne _ _ _ hi]
  refine ⟨by rw [eO _ (by omega)]; exact h1, by rw [plus_ne (by omega)]; exact h2, h3, fun p hp => by rw [plus_ne (by omega), plus_ne (by omega)]; exact h4 p hp, fun v hv => ?_, ctr_up h6 (fun _ _ _ => rfl) (by rw [hD, up2_self]) (fun k hk => by rw [hD, up2_nk _ _ _ hk]) hj⟩
  obtain ⟨q1, q2, q3, q4, q5, q6, q7, q8, q9, q10, q11⟩ := h5 v hv
  refine ⟨by rw [eO _ (by omega)]; exact q1, by rw [plus_ne (by omega)]; exact q2, q3, q4, fun k a b => by rw [eO _ (by omega), plus_ne (by omega)]; exact q5 k a b, by rw [eO _ (by omega), plus_ne (by omega)]; exact q6, by rw [eO _ (by omega), plus_ne (by omega)]; exact q7, by rw [plus_ne (by omega)]; exact q8, fun d a b => ?_, SV_cong q10 (fun i a b k _ => by rw [eO i (by omega)]) (by rw [eO _ (by omega)]) (fun _ _ => rfl) (fun _ _ _ => rfl), fun p hp => by rw [plus_ne (by omega), plus_ne (by omega)]; exact q11 p hp⟩
  obtain ⟨z1, z2⟩ := q9 d a b
  exact ⟨LSt_cong z1 (by rw [eO _ (by omega)]) (by rw [eO _ (by omega)]) (by rw [eO _ (by omega)]) rfl rfl rfl rfl, by rw [eO _ (by omega), plus_ne (by omega)]; exact z2⟩
theorem rowT_z0 (row : Nat → Int32) : rowT row z0 = row := rowT_id (fun _ _ => rfl)
theorem rowT_ext {r1 r2 : Nat → Int32} {md : Nat → Nat} (h : ∀ k, k < 179 → r1 k = r2 k) : ∀ k, k < 179 → rowT r1 md k = rowT r2 md k := by
  intro k hk
  unfold rowT
  rw [h ((k - 32) % 38) (by omega), h 178 (by omega), h k hk]
theorem one_at (v m : Nat) : one v m v = m := by unfold one; rw [if_pos rfl]
theorem one_ne {v u : Nat} (m : Nat) (h : u ≠ v) : one v m u = 0 := by unfold one; rw [if_neg h]
theorem upto_0 {α : Type} (m n : Nat → α) : upto 0 m n = n := by funext u; unfold upto; rw [if_neg (by omega)]
theorem upto_s {α : Type} (v : Nat) (m n : Nat → α) : upto (v + 1) m n = fun u => if u = v then m u else upto v m n u := by
  funext u
  unfold upto
  by_cases e : u = v
  · subst e; rw [if_pos (by omega), if_pos rfl]
  · rw [if_neg e]
    by_cases e2 : u < v
    · rw [if_pos (by omega), if_pos e2]
    · rw [if_neg (by omega), if_neg e2]
theorem rowT_up {row : Nat → Int32} {m : Nat → Nat} {v : Nat} (hm : m v ≠ 0) : rowT (rowT row (upto v m z0)) (one v (m v)) = rowT row (upto (v + 1) m z0) := by
  rw [rowT_T (fun u hu => by
    by_cases e : u = v
    · left; unfold upto; rw [if_neg (by omega)]; rfl
    · right; left; exact one_ne _ e)]
  refine rowT_cong fun u hu => ?_
  rw [upto_s]
  by_cases e : u = v
  · subst e; rw [one_at, if_neg hm]; simp
  · rw [one_ne _ e, if_pos rfl]; simp [e]
theorem rowT_up0 {row : Nat → Int32} {m : Nat → Nat} {v : Nat} (hm : m v = 0) : rowT row (upto (v + 1) m z0) = rowT row (upto v m z0) := by
  refine rowT_cong fun u hu => ?_
  rw [upto_s]
  by_cases e : u = v
  · subst e; simp only [if_true]; rw [hm]; unfold upto; rw [if_neg (by omega)]; rfl
  · simp only [e, if_false]
theorem m_farv_0 (row : Nat → Int32) : m_farv row 0 = row := by
  funext k
  unfold m_farv
  split
  · show row k + nI 0 = row k
    rw [nI_0, Int32.add_zero]
  · rw [upto_0]; exact congrFun (rowT_id (fun _ _ => rfl)) k
theorem m_farv_n {row : Nat → Int32} {v : Nat} (h : farm row v ≠ 2) : m_farv row (v + 1) = m_farv row v := by
  have h0 : farm row v = 0 := by unfold farm at h ⊢; split <;> simp_all
  funext k
  unfold m_farv
  have hc : ct (fun u => decide (farm row u = 2)) (v + 1) = ct (fun u => decide (farm row u = 2)) v := by rw [ct_s]; simp [h]
  rw [rowT_up0 h0, hc]
theorem m_farv_y {row : Nat → Int32} {v : Nat} (h : farm row v = 2) : plus (plus (rowT (m_farv row v) (one v 2)) 180 1) 181 1 = m_farv row (v + 1) := by
  have hs : nI (ct (fun u => decide (farm row u = 2)) (v + 1)) = nI (ct (fun u => decide (farm row u = 2)) v) + 1 := by rw [ct_s, if_pos (by simpa using h), nI_1]
  have hT : ∀ k, k < 179 → rowT (m_farv row v) (one v 2) k = rowT row (upto (v + 1) (farm row) z0) k := fun k hk => by
    rw [← rowT_up (by rw [h]; decide), h]
    exact rowT_ext (fun j hj => by unfold m_farv; rw [if_neg (by omega)]) k hk
  funext k
  by_cases e1 : k = 181
  · subst e1
    rw [plus_at, plus_ne (by omega), rowT_out (by omega)]
    unfold m_farv
    rw [if_pos (Or.inr rfl), if_pos (Or.inr rfl), hs, Int32.add_assoc]
  · rw [plus_ne e1]
    by_cases e2 : k = 180
    · subst e2
      rw [plus_at, rowT_out (by omega)]
      unfold m_farv
      rw [if_pos (Or.inl rfl), if_pos (Or.inl rfl), hs, Int32.add_assoc]
    · rw [plus_ne e2]
      unfold m_farv
      rw [if_neg (by omega)]
      by_cases e3 : k < 179
      · exact hT k e3
      · rw [rowT_out (by omega), rowT_out (by omega), if_neg (by omega), rowT_out (by omega)]
theorem Rp_row {D : DT} {B : Nat} {row row2 : Nat → Int32} {G A : Nat → Nat → Int32} {wr : Nat} {nx : Nat → Nat} (h : Rp D B row G A wr nx) (hr : ∀ k, k < 184 → row2 k = row k) : Rp D B row2 G A wr nx :=
  Rp_cong h hr (fun _ _ _ => rfl) rfl (fun _ _ => ⟨rfl, rfl, rfl⟩) (fun _ _ => ⟨fun _ _ _ => rfl, fun _ _ => ⟨rfl, fun _ _ => rfl⟩⟩)
/-- a view's ticks grow -/
theorem Rp_tick {D D2 : DT} {B v : Nat} {row : Nat → Int32} {G A : Nat → Nat → Int32} {wr : Nat} {nx : Nat → Nat} (h : Rp D B row G A wr nx) (hv : v < 3) (hD : D2 = up2 D (B + 8 + 1 + 10 * v) 5 (D (B + 8 + 1 + 10 * v) 5 + 1)) : Rp D2 B (plus row (32 + 38 * v + 33) 1) G A wr nx := by
  obtain ⟨h1, h2, h3, h4, h5, h6⟩ := h
  have eO : ∀ i, i ≠ B + 8 + 1 + 10 * v → D2 i = D i := fun i hi => by rw [hD, up2_ne _ _ _ hi]
  have eV : ∀ k, k ≠ 5 → D2 (B + 8 + 1 + 10 * v) k = D (B + 8 + 1 + 10 * v) k := fun k hk => by rw [hD, up2_nk _ _ _ hk]
  refine ⟨by rw [eO _ (by omega)]; exact h1, by rw [plus_ne (by omega)]; exact h2, h3, fun p hp => by rw [plus_ne (by omega), plus_ne (by omega)]; exact h4 p hp, fun u hu => ?_, fun j a b => by rw [eO _ (by omega), plus_ne (by omega)]; exact h6 j a b⟩
  obtain ⟨q1, q2, q3, q4, q5, q6, q7, q8, q9, q10, q11⟩ := h5 u hu
  have q9' : ∀ d, nx u ≤ d → d < wr → LSt D2 (B + 4) G A d ∧ D2 (B + 4 + 2) (d % 64) = plus row (32 + 38 * v + 33) 1 (146 + d % 32) := fun d a b => by
    obtain ⟨z1, z2⟩ := q9 d a b
    exact ⟨LSt_cong z1 (by rw [eO _ (by omega)]) (by rw [eO _ (by omega)]) (by rw [eO _ (by omega)]) rfl rfl rfl rfl, by rw [eO _ (by omega), plus_ne (by omega)]; exact z2⟩
  have q11' : ∀ p, p < 16 → plus row (32 + 38 * v + 33) 1 (32 + 38 * u + p) = G (nx u) p + 1 ∧ (plus row (32 + 38 * v + 33) 1 (32 + 38 * u + p) ≠ 0 → plus row (32 + 38 * v + 33) 1 (32 + 38 * u + (16 + p)) = A (nx u) p) := fun p hp => by rw [plus_ne (by omega), plus_ne (by omega)]; exact q11 p hp
  by_cases e : u = v
  · subst e
    refine ⟨by rw [eV 6 (by omega)]; exact q1, by rw [plus_ne (by omega)]; exact q2, q3, q4, fun k a b => by rw [eV k (by omega), plus_ne (by omega)]; exact q5 k a b, by rw [eV 4 (by omega), plus_ne (by omega)]; exact q6, by rw [hD, up2_self, plus_at, q7], by rw [plus_ne (by omega)]; exact q8, q9', SV_cong q10 (fun i a b k _ => by rw [eO i (by omega)]) (eV 1 (by omega)) (fun _ _ => rfl) (fun _ _ _ => rfl), q11'⟩
  · refine ⟨by rw [eO _ (by omega)]; exact q1, by rw [plus_ne (by omega)]; exact q2, q3, q4, fun k a b => by rw [eO _ (by omega), plus_ne (by omega)]; exact q5 k a b, by rw [eO _ (by omega), plus_ne (by omega)]; exact q6, by rw [eO _ (by omega), plus_ne (by omega)]; exact q7, by rw [plus_ne (by omega)]; exact q8, q9', SV_cong q10 (fun i a b k _ => by rw [eO i (by omega)]) (by rw [eO _ (by omega)]) (fun _ _ => rfl) (fun _ _ _ => rfl), q11'⟩
theorem awk_cong {r1 r2 : Nat → Int32} (h : ∀ v, v < 3 → r1 (32 + 38 * v + 32) = r2 (32 + 38 * v + 32)) : ∀ v, v < 3 → awk r1 v = awk r2 v := fun v hv => by unfold awk; rw [h v hv]
theorem m_note_o {row : Nat → Int32} {w k : Nat} {a : Int32} (h1 : k ≠ 146 + w % 32) (h2 : k ≠ 178) : m_note row w a k = row k := by unfold m_note; rw [va_up_ne _ _ h2, va_up_ne _ _ h1]
theorem m_note_w (row : Nat → Int32) (w : Nat) (a : Int32) : m_note row w a 178 = nI (w + 1) := by unfold m_note; rw [va_up_self]
theorem m_far_lo {row : Nat → Int32} {k : Nat} (h : k < 32) : m_far row k = row k := by
  unfold m_far m_farv
  rw [if_neg (by omega), rowT_out (Or.inl h)]
theorem settle_eq {row rt : Nat → Int32} {wr : Nat} {a : Int32} (h1 : rt 178 = nI wr) (hw : wr < 2 ^ 31) (hr : ∀ k, 32 ≤ k → k < 178 → rt k = row k) : m_settle (m_nt rt a) = m_far (rowT (m_note rt wr a) (awk row)) := by
  unfold m_settle
  rw [m_nt_eq h1 hw]
  rw [rowT_cong (awk_cong (r2 := row) (fun v hv => by rw [m_note_o (by omega) (by omega)]; exact hr _ (by omega) (by omega)))]
theorem settle_lo {rt : Nat → Int32} {a : Int32} {k : Nat} (h : k < 32) : m_settle (m_nt rt a) k = rt k := by
  unfold m_settle
  rw [m_far_lo h, rowT_out (Or.inl h)]
  unfold m_nt
  rw [va_up_ne _ _ (by omega), va_up_ne _ _ (by omega)]
theorem rep_eq {row : Nat → Int32} {wr p : Nat} {gc a1 : Int32} (h : row 178 = nI wr) (hw : wr + 1 < 2 ^ 31) (hp : p < 16) :
    m_rep row p gc a1 = m_far (rowT (m_note (va_up (va_up (rowT (m_note (va_up row p 0) wr (row (16 + p))) (awk row)) p gc) (16 + p) a1) (wr + 1) a1) (awk (rowT (m_note (va_up row p 0) wr (row (16 + p))) (awk row)))) := by
  unfold m_rep m_settle
  congr 1
  rw [m_nt_eq (row := row) h (by omega), m_nt_eq (wr := wr + 1) (by rw [va_up_ne _ _ (by omega), va_up_ne _ _ (by omega), m_note_w]) (by omega)]
  have hk2 : ∀ v, awk row v ≠ 2 := fun v => by unfold awk; split <;> decide
  have r1o : ∀ v o, v < 3 → 32 ≤ o → o < 37 → rowT (m_note (va_up row p 0) wr (row (16 + p))) (awk row) (32 + 38 * v + o) = row (32 + 38 * v + o) := fun v o hv a b => by
    rw [rowT_1 a b (hk2 v), m_note_o (by omega) (by omega), va_up_ne _ _ (by omega)]
  have e1 : ∀ v, v < 3 → awk (rowT (m_note (va_up row p 0) wr (row (16 + p))) (awk row)) v = awk row v := awk_cong (fun v hv => r1o v 32 hv (by omega) (by omega))
  have e2 : ∀ v, v < 3 → awk (m_note (va_up (va_up (m_note row wr (row (16 + p))) p gc) (16 + p) a1) (wr + 1) a1) v = awk row v := awk_cong (fun v hv => by rw [m_note_o (by omega) (by omega), va_up_ne _ _ (by omega), va_up_ne _ _ (by omega), m_note_o (by omega) (by omega)])
  rw [rowT_cong e2, rowT_cong e1]
  funext k
  have lo : ∀ o, o < 32 → m_note (va_up (va_up (m_note row wr (row (16 + p))) p gc) (16 + p) a1) (wr + 1) a1 o = m_note (va_up (va_up (rowT (m_note (va_up row p 0) wr (row (16 + p))) (awk row)) p gc) (16 + p) a1) (wr + 1) a1 o := fun o ho => by
    rw [m_note_o (by omega) (by omega), m_note_o (by omega) (by omega)]
    by_cases b1 : o = 16 + p
    · subst b1; rw [va_up_self, va_up_self]
    · rw [va_up_ne _ _ b1, va_up_ne _ _ b1]
      by_cases b2 : o = p
      · subst b2; rw [va_up_self, va_up_self]
      · rw [va_up_ne _ _ b2, va_up_ne _ _ b2, rowT_out (Or.inl ho), m_note_o (by omega) (by omega), m_note_o (by omega) (by omega), va_up_ne _ _ b2]
  by_cases e : 32 ≤ k ∧ k < 146
  · obtain ⟨v, o, hv, ho, rfl⟩ : ∃ v o, v < 3 ∧ o < 38 ∧ k = 32 + 38 * v + o := ⟨(k - 32) / 38, (k - 32) % 38, by omega, by omega, by omega⟩
    by_cases ea : awk row v = 0
    · rw [rowT_0 ho ea, rowT_0 ho ea, m_note_o (by omega) (by omega), m_note_o (by omega) (by omega), va_up_ne _ _ (by omega), va_up_ne _ _ (by omega), va_up_ne _ _ (by omega), va_up_ne _ _ (by omega), rowT_0 ho ea, m_note_o (by omega) (by omega), m_note_o (by omega) (by omega), va_up_ne _ _ (by omega)]
    · by_cases o1 : o < 32
      · rw [rowT_t hv o1 ea, rowT_t hv o1 ea]; exact lo o o1
      · by_cases o2 : o = 37
        · subst o2; rw [rowT_37 hv ea, rowT_37 hv ea, m_note_w, m_note_w]
        · rw [rowT_1 (by omega) (by omega) (hk2 v), rowT_1 (by omega) (by omega) (hk2 v), m_note_o (by omega) (by omega), m_note_o (by omega) (by omega), va_up_ne _ _ (by omega), va_up_ne _ _ (by omega), va_up_ne _ _ (by omega), va_up_ne _ _ (by omega), r1o v o hv (by omega) (by omega), m_note_o (by omega) (by omega)]
  · rw [rowT_out (by omega), rowT_out (by omega)]
    by_cases l : k < 32
    · exact lo k l
    · by_cases b1 : k = 178
      · subst b1; rw [m_note_w, m_note_w]
      · by_cases b2 : k = 146 + (wr + 1) % 32
        · unfold m_note; rw [va_up_ne _ _ b1, va_up_ne _ _ b1, b2, va_up_self, va_up_self]
        · rw [m_note_o b2 b1, m_note_o b2 b1, va_up_ne _ _ (by omega), va_up_ne _ _ (by omega), va_up_ne _ _ (by omega), va_up_ne _ _ (by omega), rowT_out (by omega)]
          by_cases b3 : k = 146 + wr % 32
          · unfold m_note; rw [va_up_ne _ _ b1, va_up_ne _ _ b1, b3, va_up_self, va_up_self]
          · rw [m_note_o b3 b1, m_note_o b3 b1, va_up_ne _ _ (by omega)]
theorem i32_z {k : Nat} (hk : k ≤ 4) (h : ¬ nI k = 0) : 1 ≤ k := by
  rcases Nat.eq_zero_or_pos k with e | e
  · subst e; exact absurd nI_0 h
  · exact e
