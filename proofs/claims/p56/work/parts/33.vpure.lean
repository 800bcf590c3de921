/-! what views and the table tell, over the reference's row -/
def Sx (D D' : DT) : Prop := ∀ i k, ¬ (i = 10 ∨ i = 11 ∨ (i = 6 ∧ (k = 0 ∨ 10 ≤ k))) → D' i k = D i k
theorem Sx_rf (D : DT) : Sx D D := fun _ _ _ => rfl
theorem Sx.up {D E : DT} (h : Sx D E) {k : Nat} {x : Int32} (hk : k = 0 ∨ 10 ≤ k) : Sx D (up2 E 6 k x) := fun i j hn => by
  by_cases e : i = 6
  · subst e
    by_cases e2 : j = k
    · subst e2; exact absurd (Or.inr (Or.inr ⟨rfl, hk⟩)) hn
    · rw [up2_nk _ _ _ e2]; exact h 6 j hn
  · rw [up2_ne _ _ _ e]; exact h i j hn
theorem Sx.ar {D E : DT} (h : Sx D E) {t : Nat} {f : Nat → Int32} (ht : t = 10 ∨ t = 11) : Sx D (va_up E t f) := fun i j hn => by
  rw [va_up_ne _ _ (fun e => hn (by subst e; rcases ht with q | q; exact Or.inl q; exact Or.inr (Or.inl q)))]
  exact h i j hn
theorem Sx.row {D E : DT} (h : Sx D E) : E 7 = D 7 := funext fun k => h 7 k (by omega)
/-- a call that only looks -/
def rd {α : Type} (k : Int32) (v : α) (D : DT) (r : α) (D' : DT) : Prop := D' 6 0 = k ∧ (k = 0 → r = v) ∧ Sx D D'
def vcn (row : Nat → Int32) (fr g : Nat) (lo a : Int32) : Nat := tcn (fun p => row (fr + p)) (fun p => row (fr + 16 + p)) (nI (g + 1)) lo a 16
def vN (row : Nat → Int32) (fr g : Nat) (lo : Int32) : Nat := ct (fun p => decide (row (fr + p) = nI (g + 1) ∧ lo ≤ row (fr + 16 + p))) 16
theorem vN_le (row : Nat → Int32) (fr g : Nat) (lo : Int32) : vN row fr g lo ≤ 16 := ct_le _ _
noncomputable def vF (row : Nat → Int32) (fr g : Nat) (lo : Int32) : Nat → Int32 := Classical.choose (SL_ex (fun p => row (fr + p)) (fun p => row (fr + 16 + p)) (nI (g + 1)) lo 16)
theorem vF_s (row : Nat → Int32) (fr g : Nat) (lo : Int32) : SL (vF row fr g lo) (vN row fr g lo) (fun a => vcn row fr g lo a) := Classical.choose_spec (SL_ex (fun p => row (fr + p)) (fun p => row (fr + 16 + p)) (nI (g + 1)) lo 16)
theorem vF_u {row f : Nat → Int32} {fr g n : Nat} {lo : Int32} (h : SL f n (fun a => vcn row fr g lo a)) : n = vN row fr g lo ∧ ∀ j, j < n → f j = vF row fr g lo j := SL_uniq _ _ _ _ _ h (vF_s row fr g lo)
abbrev VN (row : Nat → Int32) (v g : Nat) : Nat := vN row (32 + 38 * v) g (row (32 + 38 * v + 34))
noncomputable abbrev VF (row : Nat → Int32) (v g : Nat) : Nat → Int32 := vF row (32 + 38 * v) g (row (32 + 38 * v + 34))
abbrev TN (row : Nat → Int32) (v g : Nat) : Nat := vN row 0 g (row (32 + 38 * v + 34))
noncomputable abbrev TF (row : Nat → Int32) (v g : Nat) : Nat → Int32 := vF row 0 g (row (32 + 38 * v + 34))
theorem VN_le (row : Nat → Int32) (v g : Nat) : VN row v g ≤ 16 := ct_le _ _
theorem TN_le (row : Nat → Int32) (v g : Nat) : TN row v g ≤ 16 := ct_le _ _
/-- how many of the first n are below a -/
def bl (f : Nat → Int32) (n : Nat) (a : Int32) : Nat := ct (fun j => decide (f j < a)) n
theorem bl_cong {f g : Nat → Int32} {n : Nat} {a : Int32} (h : ∀ k, k < n → f k = g k) : bl f n a = bl g n a := ct_cong (fun k hk => by rw [h k hk])
theorem ct_all {p : Nat → Bool} {k : Nat} : ∀ {n : Nat}, k ≤ n → (∀ j, j < k → p j = true) → (∀ j, k ≤ j → j < n → p j = false) → ct p n = k
  | 0, hk, _, _ => by show 0 = k; omega
  | n + 1, hk, h1, h2 => by
    rw [ct_s]
    by_cases e : k = n + 1
    · subst e
      rw [ct_all (n := n) (k := n) (Nat.le_refl _) (fun j hj => h1 j (by omega)) (fun j a b => absurd b (by omega)), h1 n (by omega)]
      rfl
    · rw [ct_all (n := n) (k := k) (by omega) h1 (fun j a b => h2 j a (by omega)), h2 n (by omega) (by omega)]
      rfl
theorem fb_bl {f : Nat → Int32} {n k : Nat} {a : Int32} (hs : so f n) (h : fb f n a k) : bl f n a = k := by
  obtain ⟨h1, h2, h3⟩ := h
  refine ct_all h1 (fun j hj => decide_eq_true (h2 j hj)) (fun j q1 q2 => decide_eq_false (fun z => ?_))
  have q3 := h3 (by omega)
  have q4 := hs k j q1 q2
  rw [i32_lt] at q3 z
  rw [i32_le] at q4
  omega
def kGr (v g : Int32) : Int32 := if rg v 0 2 ∧ rg g 0 3 then 0 else 1
def kAm (row : Nat → Int32) (v g : Int32) : Int32 := if rg v 0 2 ∧ rg g 0 3 then (if VN row (ix v) (ix g) = 0 then 2 else 0) else 1
def kAt (row : Nat → Int32) (v g : Int32) : Int32 := if rg v 0 2 ∧ rg g 0 3 then (if TN row (ix v) (ix g) = 0 then 2 else 0) else 1
def kRk (v g a : Int32) : Int32 := if rg v 0 2 ∧ rg g 0 3 then (if rg a (-99) 99 then 0 else 2) else 1
theorem rg_gr {v g : Int32} (h : kGr v g = 0) : ∃ i j, i < 3 ∧ j < 4 ∧ v = nI i ∧ g = nI j := by
  unfold kGr at h
  split at h
  · rename_i q
    obtain ⟨i, h1, h2⟩ := rg3 q.1
    obtain ⟨j, h3, h4⟩ := rg4 q.2
    exact ⟨i, j, h1, h3, h2, h4⟩
  · exact absurd h (by decide)
theorem rg_am {row : Nat → Int32} {v g : Int32} (h : kAm row v g = 0) : ∃ i j, i < 3 ∧ j < 4 ∧ v = nI i ∧ g = nI j ∧ ¬ VN row i j = 0 := by
  unfold kAm at h
  split at h
  · rename_i q
    obtain ⟨i, h1, rfl⟩ := rg3 q.1
    obtain ⟨j, h3, rfl⟩ := rg4 q.2
    rw [ix_n (by omega), ix_n (by omega)] at h
    split at h
    · exact absurd h (by decide)
    · rename_i z
      exact ⟨i, j, h1, h3, rfl, rfl, z⟩
  · exact absurd h (by decide)
/-- how many waiting deltas matter to a view -/
def wgt (row : Nat → Int32) (v : Nat) : Nat := ct (fun j => decide (row (32 + 38 * v + 34) ≤ row (146 + (ix (row (32 + 38 * v + 37)) + j) % 32))) (ix (row 178) - ix (row (32 + 38 * v + 37)))
def imx (a b : Int32) : Int32 := if a < b then b else a
def lgd (row : Nat → Int32) : Nat → Int32
  | 0 => 0
  | v + 1 => imx (lgd row v) (wt row v)
def wks (row : Nat → Int32) (v : Nat) : Int32 := if row (32 + 38 * v + 32) = 1 then (if row (32 + 38 * v + 36) - row (32 + 38 * v + 33) < 1 then 1 else row (32 + 38 * v + 36) - row (32 + 38 * v + 33)) else 0
def seen (row : Nat → Int32) (v : Nat) : Prop := ∃ a wr, row (32 + 38 * v + 37) = nI a ∧ row 178 = nI wr ∧ a ≤ wr ∧ wr < 2 ^ 29
/-- only the two rows for sorting have changed -/
def Sz (D D' : DT) : Prop := ∀ i, i ≠ 10 → i ≠ 11 → D' i = D i
theorem Sz_rf (D : DT) : Sz D D := fun _ _ _ => rfl
theorem Sz.ar {D E : DT} (h : Sz D E) {t : Nat} {f : Nat → Int32} (ht : t = 10 ∨ t = 11) : Sz D (va_up E t f) := fun i a b => by
  rw [va_up_ne _ _ (by omega)]
  exact h i a b
theorem Sz.tr {D E F : DT} (h : Sz D E) (h2 : Sz E F) : Sz D F := fun i a b => (h2 i a b).trans (h i a b)
theorem Sz.r7 {D E : DT} (h : Sz D E) : E 7 = D 7 := h 7 (by decide) (by decide)
theorem Sx.z {D E F : DT} (h : Sx D E) (h2 : Sz E F) : Sx D F := fun i k hn => by
  rw [h2 i (fun z => hn (Or.inl z)) (fun z => hn (Or.inr (Or.inl z)))]
  exact h i k hn
theorem like_cg {f g f2 g2 : Nat → Int32} {n m : Nat} (h1 : ∀ j, j < n → f j = f2 j) (h2 : ∀ j, j < m → g j = g2 j) (h : like f n g m) : like f2 n g2 m := by
  obtain ⟨rfl, a, b, c⟩ := h
  refine ⟨rfl, by rw [← sm_cong h1, ← sm_cong h2]; exact a, by rw [← kn_cong h1, ← kn_cong h2]; exact b, ?_⟩
  rcases c with c | ⟨c1, c2, c3⟩
  · exact Or.inl c
  · rcases Nat.eq_zero_or_pos n with e | e
    · exact Or.inl e
    · exact Or.inr ⟨by rw [← h1 0 e, ← h2 0 e]; exact c1, by rw [← h1 _ (by omega), ← h2 _ (by omega)]; exact c2, by rw [← h1 _ (by omega), ← h2 _ (by omega)]; exact c3⟩
noncomputable def lkI (f : Nat → Int32) (n : Nat) (g : Nat → Int32) (m : Nat) (a b : Int32) : Int32 := @ite Int32 (like f n g m) (Classical.propDecidable _) a b
theorem lkI_y {f g : Nat → Int32} {n m : Nat} {a b : Int32} (h : like f n g m) : lkI f n g m a b = a := by unfold lkI; rw [if_pos h]
theorem lkI_n {f g : Nat → Int32} {n m : Nat} {a b : Int32} (h : ¬ like f n g m) : lkI f n g m a b = b := by unfold lkI; rw [if_neg h]
/-- the groups in which a view and the table are unlike -/
noncomputable def umN (row : Nat → Int32) (v : Nat) : Nat → Int32
  | 0 => 0
  | g + 1 => umN row v g ||| lkI (VF row v g) (VN row v g) (TF row v g) (TN row v g) 0 (1 <<< (nI g &&& 31))
def tok (D : DT) : Prop := ∃ n, n ≤ 60 ∧ D 6 9 = nI n
def kApp (n : Nat) (c : Int32) : Int32 := if rg c 33 126 then (if n = 60 then 2 else 0) else 1
theorem tk_cong {r1 r2 : Nat → Int32} (h : ∀ k, k < 16 → r1 k = r2 k) : tk r1 = tk r2 := ct_cong (fun k hk => by rw [h k hk])
/-! the digest -/
def hmx (h v : Int64) : Int64 := 31 * h + v
noncomputable def gH4 (h : Int64) (f : Nat → Int32) (n : Nat) (t : Nat → Int32) (m : Nat) : Int64 := hmx (hmx (hmx (hmx (hmx (hmx (hmx h (nI n).toInt64) (sm f n).toInt64) (nI (kn f n)).toInt64) (nI (bl f n 0)).toInt64) (nI m).toInt64) (sm t m).toInt64) (nI (bl t m 0)).toInt64
def gH5 (h : Int64) (f : Nat → Int32) (n : Nat) : Int64 := if n = 0 then h else hmx (hmx (hmx h (f 0).toInt64) (f (n - 1)).toInt64) (f ((n - 1) / 2)).toInt64
def gH6 (h : Int64) (t : Nat → Int32) (m : Nat) : Int64 := if m = 0 then h else hmx h (t ((m - 1) / 2)).toInt64
noncomputable def gH (h : Int64) (row : Nat → Int32) (v g : Nat) : Int64 := gH6 (gH5 (gH4 h (VF row v g) (VN row v g) (TF row v g) (TN row v g)) (VF row v g) (VN row v g)) (TF row v g) (TN row v g)
noncomputable def vH0 (h : Int64) (row : Nat → Int32) (v : Nat) : Int64 := hmx (hmx (hmx (hmx (hmx (hmx (hmx (hmx (hmx h (row (32 + 38 * v + 32)).toInt64) (row (32 + 38 * v + 33)).toInt64) (row (32 + 38 * v + 34)).toInt64) (wt row v).toInt64) (wt row v).toInt64) (nI (wgt row v)).toInt64) (umN row v 4).toInt64) 0) (wks row v).toInt64
noncomputable def vH (h : Int64) (row : Nat → Int32) (v : Nat) : Nat → Int64
  | 0 => vH0 h row v
  | g + 1 => gH (vH h row v g) row v g
def m_und (D : DT) (s : Nat) : DT := va_up (up2 D 6 3 (nI (s - 1))) 7 (fun k => if k < 184 then D 8 (184 * (s - 1) + k) else D 7 k)
