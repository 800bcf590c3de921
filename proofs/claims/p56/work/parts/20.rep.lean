/-! a state of the class, told by a row of numbers as the reference keeps one -/
def one (v m : Nat) : Nat → Nat := fun u => if u = v then m else 0
/-- some views take the table over (mode 1), some wake by that (mode 2) -/
def rowT (row : Nat → Int32) (md : Nat → Nat) : Nat → Int32 := fun k => if 32 ≤ k ∧ k < 146 ∧ md ((k - 32) / 38) ≠ 0 then (if (k - 32) % 38 < 32 then row ((k - 32) % 38) else if (k - 32) % 38 = 37 then row 178 else if md ((k - 32) / 38) = 2 ∧ (k - 32) % 38 < 34 then 0 else row k) else row k
def plus (row : Nat → Int32) (k : Nat) (x : Int32) : Nat → Int32 := va_up row k (row k + x)
def m_note (row : Nat → Int32) (w : Nat) (a : Int32) : Nat → Int32 := va_up (va_up row (146 + w % 32) a) 178 (nI (w + 1))
theorem rowT_out {row : Nat → Int32} {md : Nat → Nat} {k : Nat} (h : k < 32 ∨ 146 ≤ k) : rowT row md k = row k := by
  unfold rowT
  rw [if_neg (by omega)]
theorem rowT_0 {row : Nat → Int32} {md : Nat → Nat} {v o : Nat} (ho : o < 38) (h : md v = 0) : rowT row md (32 + 38 * v + o) = row (32 + 38 * v + o) := by
  unfold rowT
  rw [show (32 + 38 * v + o - 32) / 38 = v by omega, if_neg (fun z => z.2.2 h)]
theorem rowT_t {row : Nat → Int32} {md : Nat → Nat} {v o : Nat} (hv : v < 3) (ho : o < 32) (h : md v ≠ 0) : rowT row md (32 + 38 * v + o) = row o := by
  unfold rowT
  rw [show (32 + 38 * v + o - 32) / 38 = v by omega, show (32 + 38 * v + o - 32) % 38 = o by omega, if_pos (by omega), if_pos ho]
theorem rowT_37 {row : Nat → Int32} {md : Nat → Nat} {v : Nat} (hv : v < 3) (h : md v ≠ 0) : rowT row md (32 + 38 * v + 37) = row 178 := by
  unfold rowT
  rw [show (32 + 38 * v + 37 - 32) / 38 = v by omega, show (32 + 38 * v + 37 - 32) % 38 = 37 by omega, if_pos (by omega), if_neg (by omega), if_pos rfl]
theorem rowT_w {row : Nat → Int32} {md : Nat → Nat} {v o : Nat} (hv : v < 3) (ho : 32 ≤ o) (ho2 : o < 34) (h : md v = 2) : rowT row md (32 + 38 * v + o) = 0 := by
  unfold rowT
  rw [show (32 + 38 * v + o - 32) / 38 = v by omega, show (32 + 38 * v + o - 32) % 38 = o by omega, if_pos (by omega), if_neg (by omega), if_neg (by omega), if_pos ⟨h, ho2⟩]
theorem rowT_f {row : Nat → Int32} {md : Nat → Nat} {v o : Nat} (ho : 34 ≤ o) (ho2 : o < 37) : rowT row md (32 + 38 * v + o) = row (32 + 38 * v + o) := by
  unfold rowT
  split
  · rw [show (32 + 38 * v + o - 32) % 38 = o by omega, if_neg (by omega), if_neg (by omega), if_neg (by omega)]
  · rfl
theorem rowT_1 {row : Nat → Int32} {md : Nat → Nat} {v o : Nat} (ho : 32 ≤ o) (ho2 : o < 37) (h : md v ≠ 2) : rowT row md (32 + 38 * v + o) = row (32 + 38 * v + o) := by
  unfold rowT
  split
  · rw [show (32 + 38 * v + o - 32) % 38 = o by omega, if_neg (by omega), if_neg (by omega), if_neg (by rw [show (32 + 38 * v + o - 32) / 38 = v by omega]; exact fun z => h z.1)]
  · rfl
theorem rowT_id {row : Nat → Int32} {md : Nat → Nat} (h : ∀ v, v < 3 → md v = 0) : rowT row md = row := by
  funext k
  unfold rowT
  by_cases e : 32 ≤ k ∧ k < 146
  · rw [if_neg (fun z => z.2.2 (h _ (by omega)))]
  · rw [if_neg (by omega)]
theorem rowT_cong {row : Nat → Int32} {md md' : Nat → Nat} (h : ∀ v, v < 3 → md v = md' v) : rowT row md = rowT row md' := by
  funext k
  unfold rowT
  by_cases e : 32 ≤ k ∧ k < 146
  · rw [h ((k - 32) / 38) (by omega)]
  · rw [if_neg (by omega), if_neg (by omega)]
/-- one after the other -/
theorem rowT_T {row : Nat → Int32} {m1 m2 : Nat → Nat} (h : ∀ v, v < 3 → m1 v = 0 ∨ m2 v = 0 ∨ m2 v = m1 v) : rowT (rowT row m1) m2 = rowT row (fun v => if m2 v = 0 then m1 v else m2 v) := by
  funext k
  by_cases e : 32 ≤ k ∧ k < 146
  · obtain ⟨v, o, hv, ho, rfl⟩ : ∃ v o, v < 3 ∧ o < 38 ∧ k = 32 + 38 * v + o := ⟨(k - 32) / 38, (k - 32) % 38, by omega, by omega, by omega⟩
    have hh := h v hv
    by_cases e2 : m2 v = 0
    · rw [rowT_0 ho e2]
      unfold rowT
      rw [show (32 + 38 * v + o - 32) / 38 = v by omega]
      simp only [e2, if_true]
    · by_cases o1 : o < 32
      · rw [rowT_t hv o1 e2, rowT_out (Or.inl o1), rowT_t hv o1 (by simp only [e2, if_false]; exact e2)]
      · by_cases o2 : o = 37
        · subst o2
          rw [rowT_37 hv e2, rowT_out (by omega), rowT_37 hv (by simp only [e2, if_false]; exact e2)]
        · by_cases o3 : o < 34
          · by_cases e3 : m2 v = 2
            · rw [rowT_w hv (by omega) o3 e3, rowT_w hv (by omega) o3 (by simp only [e2, if_false]; exact e3)]
            · rw [rowT_1 (by omega) (by omega) e3, rowT_1 (by omega) (by omega) (md := fun v => if m2 v = 0 then m1 v else m2 v) (by simp only [e2, if_false]; exact e3)]
              by_cases e4 : m1 v = 2
              · omega
              · rw [rowT_1 (by omega) (by omega) e4]
          · rw [rowT_f (by omega) (by omega), rowT_f (by omega) (by omega), rowT_f (by omega) (by omega)]
  · rw [rowT_out (by omega), rowT_out (by omega), rowT_out (by omega)]
/-- view v of the state B, and its part of the row -/
def RV (D : DT) (B : Nat) (row : Nat → Int32) (G A : Nat → Nat → Int32) (wr v nx : Nat) : Prop :=
  D (B + 8 + 1 + 10 * v) 6 = nI nx ∧ row (32 + 38 * v + 37) = nI nx ∧ nx ≤ wr ∧ wr ≤ nx + 32 ∧
  (∀ k, 1 ≤ k → k ≤ 3 → D (B + 8 + 1 + 10 * v) k = row (32 + 38 * v + (33 + k))) ∧ D (B + 8 + 1 + 10 * v) 4 = row (32 + 38 * v + 32) ∧ D (B + 8 + 1 + 10 * v) 5 = row (32 + 38 * v + 33) ∧ (row (32 + 38 * v + 32) = 0 ∨ row (32 + 38 * v + 32) = 1) ∧
  (∀ d, nx ≤ d → d < wr → LSt D (B + 4) G A d ∧ D (B + 4 + 2) (d % 64) = row (146 + d % 32)) ∧
  SV D (B + 8 + 1 + 10 * v) (G nx) (A nx) ∧ ∀ p, p < 16 → row (32 + 38 * v + p) = G nx p + 1 ∧ (row (32 + 38 * v + p) ≠ 0 → row (32 + 38 * v + (16 + p)) = A nx p)
/-- the state B is the row's: but for the table's cells -/
def Rp (D : DT) (B : Nat) (row : Nat → Int32) (G A : Nat → Nat → Int32) (wr : Nat) (nx : Nat → Nat) : Prop :=
  D (B + 4) 3 = nI wr ∧ row 178 = nI wr ∧ wr < 2 ^ 29 ∧ (∀ p, p < 16 → G wr p = row p - 1 ∧ (row p ≠ 0 → A wr p = row (16 + p)) ∧ ∃ k, k ≤ 4 ∧ row p = nI k) ∧
  (∀ v, v < 3 → RV D B row G A wr v (nx v)) ∧ ∀ j, 3 ≤ j → j ≤ 7 → D B j = row (176 + j)
/-- the table's cells -/
def TR (D : DT) (B : Nat) (row : Nat → Int32) : Prop := ∀ p, p < 16 → D (B + 1 + 1) p = row p - 1 ∧ (row p ≠ 0 → D (B + 1 + 2) p = row (16 + p))
theorem LSt_cong {D D' : DT} {L : Nat} {G A G' A' : Nat → Nat → Int32} {d : Nat} (h : LSt D L G A d) (h1 : D' (L + 1) (d % 64) = D (L + 1) (d % 64)) (h2 : D' (L + 2) (d % 64) = D (L + 2) (d % 64)) (h3 : D' (L + 3) (d % 64) = D (L + 3) (d % 64)) (g1 : G' d = G d) (g2 : G' (d + 1) = G (d + 1)) (g3 : A' d = A d) (g4 : A' (d + 1) = A (d + 1)) : LSt D' L G' A' d := by
  unfold LSt at h ⊢
  rw [h1, h2, h3, g1, g2, g3, g4]
  exact h
theorem i32_pm (x : Int32) : x - 1 + 1 = x := Int32.sub_add_cancel x 1
theorem i32_mp (x : Int32) : x + 1 - 1 = x := Int32.add_sub_cancel x 1
/-- view v sees all that waits -/
theorem Rp_see {D D2 : DT} {B : Nat} {row row2 : Nat → Int32} {G A : Nat → Nat → Int32} {wr v m : Nat} {nx : Nat → Nat} (h : Rp D B row G A wr nx) (hv : v < 3) (hm : m = 1 ∨ m = 2)
    (e1 : ∀ i, i ≠ B → (i < B + 8 + 1 + 10 * v ∨ B + 8 + 1 + 10 * v + 10 ≤ i) → D2 i = D i) (e2 : ∀ k, 1 ≤ k → k ≤ 3 → D2 (B + 8 + 1 + 10 * v) k = D (B + 8 + 1 + 10 * v) k) (e3 : D2 (B + 8 + 1 + 10 * v) 6 = nI wr) (e4 : SV D2 (B + 8 + 1 + 10 * v) (G wr) (A wr))
    (e5 : m = 1 → D2 (B + 8 + 1 + 10 * v) 4 = D (B + 8 + 1 + 10 * v) 4 ∧ D2 (B + 8 + 1 + 10 * v) 5 = D (B + 8 + 1 + 10 * v) 5) (e6 : m = 2 → D2 (B + 8 + 1 + 10 * v) 4 = 0 ∧ D2 (B + 8 + 1 + 10 * v) 5 = 0)
    (r1 : ∀ k, k < 179 → row2 k = rowT row (one v m) k) (r2 : ∀ j, 3 ≤ j → j ≤ 7 → D2 B j = row2 (176 + j)) : Rp D2 B row2 G A wr (fun u => if u = v then wr else nx u) := by
  obtain ⟨h1, h2, h3, h4, h5, h6⟩ := h
  have hmd : one v m v ≠ 0 := by unfold one; rw [if_pos rfl]; omega
  have r178 : row2 178 = row 178 := by rw [r1 178 (by omega), rowT_out (by omega)]
  refine ⟨by rw [e1 _ (by omega) (by omega)]; exact h1, r178.trans h2, h3, fun p hp => ?_, fun u hu => ?_, r2⟩
  · rw [r1 p (by omega), r1 (16 + p) (by omega), rowT_out (by omega), rowT_out (by omega)]
    exact h4 p hp
  · obtain ⟨q1, q2, q3, q4, q5, q6, q7, q8, q9, q10, q11⟩ := h5 u hu
    by_cases e : u = v
    · subst e
      simp only [if_true]
      refine ⟨e3, ?_, Nat.le_refl _, by omega, fun k a b => ?_, ?_, ?_, ?_, fun d a b => absurd b (by omega), e4, fun p hp => ?_⟩
      · rw [r1 _ (by omega), rowT_37 hu hmd, h2]
      · rw [e2 k a b, r1 _ (by omega), rowT_f (by omega) (by omega)]; exact q5 k a b
      · rcases hm with rfl | rfl
        · rw [(e5 rfl).1, r1 _ (by omega), rowT_1 (by omega) (by omega) (by unfold one; simp)]; exact q6
        · rw [(e6 rfl).1, r1 _ (by omega), rowT_w hu (by omega) (by omega) (by unfold one; simp)]
      · rcases hm with rfl | rfl
        · rw [(e5 rfl).2, r1 _ (by omega), rowT_1 (by omega) (by omega) (by unfold one; simp)]; exact q7
        · rw [(e6 rfl).2, r1 _ (by omega), rowT_w hu (by omega) (by omega) (by unfold one; simp)]
      · rcases hm with rfl | rfl
        · rw [r1 _ (by omega), rowT_1 (by omega) (by omega) (by unfold one; simp)]; exact q8
        · rw [r1 _ (by omega), rowT_w hu (by omega) (by omega) (by unfold one; simp)]; exact Or.inl rfl
      · rw [r1 _ (by omega), r1 _ (by omega), rowT_t hu (by omega) hmd, rowT_t hu (by omega) hmd]
        obtain ⟨z1, z2, -⟩ := h4 p hp
        exact ⟨by rw [z1, i32_pm], fun z => (z2 z).symm⟩
    · have md0 : one v m u = 0 := by unfold one; rw [if_neg e]
      simp only [e, if_false]
      have eL : ∀ i, B + 4 ≤ i → i < B + 8 → D2 i = D i := fun i a b => e1 i (by omega) (by omega)
      have eV : ∀ i, B + 8 + 1 + 10 * u ≤ i → i < B + 8 + 1 + 10 * u + 10 → D2 i = D i := fun i a b => e1 i (by omega) (by omega)
      refine ⟨by rw [eV _ (by omega) (by omega)]; exact q1, ?_, q3, q4, fun k a b => ?_, ?_, ?_, ?_, fun d a b => ?_, ?_, fun p hp => ?_⟩
      · rw [r1 _ (by omega), rowT_0 (by omega) md0]; exact q2
      · rw [eV _ (by omega) (by omega), r1 _ (by omega), rowT_0 (by omega) md0]; exact q5 k a b
      · rw [eV _ (by omega) (by omega), r1 _ (by omega), rowT_0 (by omega) md0]; exact q6
      · rw [eV _ (by omega) (by omega), r1 _ (by omega), rowT_0 (by omega) md0]; exact q7
      · rw [r1 _ (by omega), rowT_0 (by omega) md0]; exact q8
      · obtain ⟨z1, z2⟩ := q9 d a b
        refine ⟨LSt_cong z1 (by rw [eL _ (by omega) (by omega)]) (by rw [eL _ (by omega) (by omega)]) (by rw [eL _ (by omega) (by omega)]) rfl rfl rfl rfl, ?_⟩
        rw [eL _ (by omega) (by omega), r1 _ (by omega), rowT_out (by omega)]; exact z2
      · exact SV_cong q10 (fun i a b k _ => by rw [eV i (by omega) (by omega)]) (by rw [eV _ (by omega) (by omega)]) (fun _ _ => rfl) (fun _ _ _ => rfl)
      · rw [r1 _ (by omega), r1 _ (by omega), rowT_0 (by omega) md0, rowT_0 (by omega) md0]; exact q11 p hp
def hx {α : Type} (G : Nat → α) (wr : Nat) (g : α) : Nat → α := fun d => if d = wr + 1 then g else G d
/-- a delta is written: the table behind it is the row rt's -/
theorem Rp_note {D : DT} {B : Nat} {row rt : Nat → Int32} {G A : Nat → Nat → Int32} {gr am : Nat → Int32} {wr p g : Nat} {a s : Int32} {nx : Nat → Nat} (h : Rp D B row G A wr nx) (hn : ∀ v, v < 3 → wr < nx v + 32) (hw : wr + 1 < 2 ^ 29) (hp : p < 16) (hg : g < 4)
    (ho : ∀ q, q < 16 → q ≠ p → gr q = G wr q ∧ am q = A wr q) (hst : (s = 1 ∧ G wr p = -1 ∧ gr p = nI g ∧ am p = a) ∨ (s = -1 ∧ G wr p = nI g ∧ A wr p = a ∧ gr p = -1))
    (hr : ∀ k, 32 ≤ k → rt k = row k) (ht : ∀ p, p < 16 → gr p = rt p - 1 ∧ (rt p ≠ 0 → am p = rt (16 + p)) ∧ ∃ k, k ≤ 4 ∧ rt p = nI k) :
    Rp (up2 (up2 (up2 (up2 D (B + 4 + 1) (wr % 64) (nI g)) (B + 4 + 2) (wr % 64) a) (B + 4 + 3) (wr % 64) s) (B + 4) 3 (nI (wr + 1))) B (m_note rt wr a) (hx G wr gr) (hx A wr am) (wr + 1) nx := by
  obtain ⟨h1, h2, h3, h4, h5, h6⟩ := h
  generalize hD2 : up2 (up2 (up2 (up2 D (B + 4 + 1) (wr % 64) (nI g)) (B + 4 + 2) (wr % 64) a) (B + 4 + 3) (wr % 64) s) (B + 4) 3 (nI (wr + 1)) = D2
  have eO : ∀ i, (i < B + 4 ∨ B + 8 ≤ i) → D2 i = D i := fun i hi => by
    rw [← hD2, up2_ne _ _ _ (by omega), up2_ne _ _ _ (by omega), up2_ne _ _ _ (by omega), up2_ne _ _ _ (by omega)]
  have l3 : D2 (B + 4) 3 = nI (wr + 1) := by rw [← hD2, up2_self]
  have a1 : D2 (B + 4 + 1) = va_up (D (B + 4 + 1)) (wr % 64) (nI g) := by rw [← hD2, up2_ne _ _ _ (by omega), up2_ne _ _ _ (by omega), up2_ne _ _ _ (by omega), up2_row]
  have a2 : D2 (B + 4 + 2) = va_up (D (B + 4 + 2)) (wr % 64) a := by rw [← hD2, up2_ne _ _ _ (by omega), up2_ne _ _ _ (by omega), up2_row, up2_ne _ _ _ (by omega)]
  have a3 : D2 (B + 4 + 3) = va_up (D (B + 4 + 3)) (wr % 64) s := by rw [← hD2, up2_ne _ _ _ (by omega), up2_row, up2_ne _ _ _ (by omega), up2_ne _ _ _ (by omega)]
  have nr : ∀ k, k ≠ 146 + wr % 32 → k ≠ 178 → m_note rt wr a k = rt k := fun k z1 z2 => by unfold m_note; rw [va_up_ne _ _ z2, va_up_ne _ _ z1]
  have gl : ∀ d, d ≤ wr → hx G wr gr d = G d := fun d hd => by unfold hx; rw [if_neg (by omega)]
  have al : ∀ d, d ≤ wr → hx A wr am d = A d := fun d hd => by unfold hx; rw [if_neg (by omega)]
  have gn : hx G wr gr (wr + 1) = gr := by unfold hx; rw [if_pos rfl]
  have an : hx A wr am (wr + 1) = am := by unfold hx; rw [if_pos rfl]
  refine ⟨l3, by unfold m_note; rw [va_up_self], hw, fun q hq => ?_, fun v hv => ?_, fun j x y => ?_⟩
  · rw [gn, an, nr q (by omega) (by omega), nr (16 + q) (by omega) (by omega)]; exact ht q hq
  · obtain ⟨q1, q2, q3, q4, q5, q6, q7, q8, q9, q10, q11⟩ := h5 v hv
    have hb := hn v hv
    have rr : ∀ o, o < 38 → m_note rt wr a (32 + 38 * v + o) = row (32 + 38 * v + o) := fun o ho => by rw [nr _ (by omega) (by omega)]; exact hr _ (by omega)
    refine ⟨by rw [eO _ (by omega)]; exact q1, by rw [rr _ (by omega)]; exact q2, by omega, by omega, fun k x y => by rw [eO _ (by omega), rr _ (by omega)]; exact q5 k x y, by rw [eO _ (by omega), rr _ (by omega)]; exact q6, by rw [eO _ (by omega), rr _ (by omega)]; exact q7, by rw [rr _ (by omega)]; exact q8, fun d x y => ?_, ?_, fun z hz => by rw [gl _ (by omega), al _ (by omega), rr _ (by omega), rr _ (by omega)]; exact q11 z hz⟩
    · by_cases e : d = wr
      · subst e
        refine ⟨⟨p, hp, fun q hq hne => ?_, g, hg, by rw [a1, va_up_self], ?_⟩, ?_⟩
        · rw [gn, an, gl d (by omega), al d (by omega)]; exact ho q hq hne
        · rw [gn, an, gl d (by omega), al d (by omega), a2, a3, va_up_self, va_up_self]; exact hst
        · rw [a2, va_up_self]; unfold m_note; rw [va_up_ne _ _ (by omega), va_up_self]
      · obtain ⟨z1, z2⟩ := q9 d x (by omega)
        refine ⟨LSt_cong z1 (by rw [a1, va_up_ne _ _ (by omega)]) (by rw [a2, va_up_ne _ _ (by omega)]) (by rw [a3, va_up_ne _ _ (by omega)]) (gl _ (by omega)) (gl _ (by omega)) (al _ (by omega)) (al _ (by omega)), ?_⟩
        rw [a2, va_up_ne _ _ (by omega), nr _ (by omega) (by omega), hr _ (by omega)]; exact z2
    · rw [gl _ (by omega), al _ (by omega)]
      exact SV_cong q10 (fun i x y k _ => by rw [eO i (by omega)]) (by rw [eO _ (by omega)]) (fun _ _ => rfl) (fun _ _ _ => rfl)
  · rw [eO _ (by omega), nr _ (by omega) (by omega), hr _ (by omega)]; exact h6 j x y
/-- what the relation reads -/
theorem Rp_cong {D D2 : DT} {B B2 : Nat} {row row2 : Nat → Int32} {G A : Nat → Nat → Int32} {wr : Nat} {nx : Nat → Nat} (h : Rp D B row G A wr nx) (hr : ∀ k, k < 184 → row2 k = row k)
    (c1 : ∀ j, 3 ≤ j → j ≤ 7 → D2 B2 j = D B j) (c2 : D2 (B2 + 4) 3 = D (B + 4) 3) (c3 : ∀ k, k < 64 → D2 (B2 + 4 + 1) k = D (B + 4 + 1) k ∧ D2 (B2 + 4 + 2) k = D (B + 4 + 2) k ∧ D2 (B2 + 4 + 3) k = D (B + 4 + 3) k)
    (c4 : ∀ v, v < 3 → (∀ k, 1 ≤ k → k ≤ 6 → D2 (B2 + 8 + 1 + 10 * v) k = D (B + 8 + 1 + 10 * v) k) ∧ ∀ g, g < 4 → D2 (B2 + 8 + 1 + 10 * v + 1 + 1 + 2 * g) 1 = D (B + 8 + 1 + 10 * v + 1 + 1 + 2 * g) 1 ∧ ∀ k, k < 16 → D2 (B2 + 8 + 1 + 10 * v + 1 + 1 + 2 * g + 1) k = D (B + 8 + 1 + 10 * v + 1 + 1 + 2 * g + 1) k) : Rp D2 B2 row2 G A wr nx := by
  obtain ⟨h1, h2, h3, h4, h5, h6⟩ := h
  refine ⟨c2.trans h1, by rw [hr _ (by omega)]; exact h2, h3, fun p hp => by rw [hr _ (by omega), hr _ (by omega)]; exact h4 p hp, fun v hv => ?_, fun j x y => by rw [c1 j x y, hr _ (by omega)]; exact h6 j x y⟩
  obtain ⟨q1, q2, q3, q4, q5, q6, q7, q8, q9, q10, q11⟩ := h5 v hv
  obtain ⟨w1, w2⟩ := c4 v hv
  refine ⟨by rw [w1 6 (by omega) (by omega)]; exact q1, by rw [hr _ (by omega)]; exact q2, q3, q4, fun k x y => by rw [w1 k x (by omega), hr _ (by omega)]; exact q5 k x y, by rw [w1 4 (by omega) (by omega), hr _ (by omega)]; exact q6, by rw [w1 5 (by omega) (by omega), hr _ (by omega)]; exact q7, by rw [hr _ (by omega)]; exact q8, fun d x y => ?_, fun g hg => ?_, fun p hp => by rw [hr _ (by omega), hr _ (by omega)]; exact q11 p hp⟩
  · obtain ⟨z1, z2⟩ := q9 d x y
    obtain ⟨y1, y2, y3⟩ := c3 (d % 64) (by omega)
    refine ⟨?_, by rw [y2, hr _ (by omega)]; exact z2⟩
    unfold LSt at z1 ⊢
    rw [y1, y2, y3]
    exact z1
  · obtain ⟨n, n1, n2, n3⟩ := q10 g hg
    obtain ⟨y1, y2⟩ := w2 g hg
    exact ⟨n, n1, y1.trans n2, SL_cong n3 (fun j hj => y2 j (by omega)) (fun a => by rw [w1 1 (by omega) (by omega)])⟩
