/-! what views hold, by the tables that they have seen -/
theorem ct_flip {P P' : Nat → Bool} {p : Nat} : ∀ {n : Nat}, p < n → (∀ q, q < n → q ≠ p → P' q = P q) → ct P' n + (if P p then 1 else 0) = ct P n + (if P' p then 1 else 0)
  | 0, h, _ => absurd h (Nat.not_lt_zero p)
  | n + 1, h, ho => by
    rw [ct_s, ct_s]
    by_cases e : p = n
    · subst e
      rw [ct_cong (p := P') (q := P) (fun k hk => ho k (by omega) (by omega))]
      omega
    · have := ct_flip (P := P) (P' := P') (p := p) (n := n) (by omega) (fun q hq hne => ho q (by omega) hne)
      rw [ho n (by omega) (fun z => e z.symm)]
      omega
theorem ct_lt {P : Nat → Bool} {p n : Nat} (hp : p < n) (h : P p = false) : ct P n < n := by
  have := ct_flip (P := P) (P' := fun q => if q = p then true else P q) hp (fun q _ hq => if_neg hq)
  have l := ct_le (fun q => if q = p then true else P q) n
  simp only [h, if_true, Bool.false_eq_true, if_false] at this
  omega
theorem ins_ex (f : Nat → Int32) (a : Int32) : ∀ n, so f n → ∃ f', ins f n a f' := by
  intro n hs
  have key : ∀ m, m ≤ n → ∃ k, k ≤ m ∧ (∀ j, j < k → ¬ a < f j) ∧ ∀ j, k ≤ j → j < m → a < f j := by
    intro m
    induction m with
    | zero => intro _; exact ⟨0, by omega, fun j hj => absurd hj (by omega), fun j _ hj => absurd hj (by omega)⟩
    | succ m ih =>
      intro hm
      by_cases e : a < f m
      · obtain ⟨k, h1, h2, h3⟩ := ih (by omega)
        refine ⟨k, by omega, h2, fun j a1 a2 => ?_⟩
        by_cases q : j = m
        · subst q; exact e
        · exact h3 j a1 (by omega)
      · refine ⟨m + 1, by omega, fun j hj q => e ?_, fun j a1 a2 => absurd a2 (by omega)⟩
        have := hs j m (by omega) (by omega)
        rw [i32_lt] at q ⊢
        rw [i32_le] at this
        omega
  obtain ⟨k, h1, h2, h3⟩ := key n (Nat.le_refl _)
  exact ⟨fun j => if j < k then f j else if j = k then a else f (j - 1), k, h1, fun j hj => by simp [hj], by simp, fun j a1 a2 => by simp [show ¬ j < k by omega, show j ≠ k by omega], h3, fun z => h2 _ (by omega)⟩
theorem SL_ex (gr am : Nat → Int32) (g lo : Int32) : ∀ m, ∃ f, SL f (ct (fun p => decide (gr p = g ∧ lo ≤ am p)) m) (fun a => tcn gr am g lo a m)
  | 0 => ⟨fun _ => 0, SL_0 _⟩
  | m + 1 => by
    obtain ⟨f, hf⟩ := SL_ex gr am g lo m
    by_cases e : gr m = g ∧ lo ≤ am m
    · obtain ⟨f', hi⟩ := ins_ex f (am m) _ hf.1
      refine ⟨f', ?_⟩
      rw [ct_s, if_pos (decide_eq_true e)]
      exact SL_cong (SL_ins hf hi) (fun _ _ => rfl) (fun a => tcn_yes e.1 e.2 a)
    · refine ⟨f, ?_⟩
      rw [ct_s, if_neg (by simpa using e)]
      exact SL_cong hf (fun _ _ => rfl) (fun a => tcn_no e a)
theorem SL_len {f gr am : Nat → Int32} {g lo : Int32} {n m : Nat} (h : SL f n (fun a => tcn gr am g lo a m)) : n = ct (fun p => decide (gr p = g ∧ lo ≤ am p)) m := by
  obtain ⟨f2, h2⟩ := SL_ex gr am g lo m
  exact (SL_uniq _ _ _ _ _ h h2).1
theorem tcn_step {gr am gr' am' : Nat → Int32} {p : Nat} (hp : p < 16) (ho : ∀ q, q < 16 → q ≠ p → gr' q = gr q ∧ am' q = am q) (g lo a : Int32) : tcn gr' am' g lo a 16 + (if gr p = g ∧ lo ≤ am p ∧ am p = a then 1 else 0) = tcn gr am g lo a 16 + (if gr' p = g ∧ lo ≤ am' p ∧ am' p = a then 1 else 0) := by
  have := ct_flip (P := fun p => decide (gr p = g ∧ lo ≤ am p ∧ am p = a)) (P' := fun p => decide (gr' p = g ∧ lo ≤ am' p ∧ am' p = a)) hp (fun q h1 h2 => by rw [(ho q h1 h2).1, (ho q h1 h2).2])
  simp only [decide_eq_true_eq] at this
  exact this
/-- a view holds what a table tells by its filter -/
def SV (D : DT) (V : Nat) (gr am : Nat → Int32) : Prop := ∀ g, g < 4 → ∃ n, n ≤ 16 ∧ D (V + 1 + 1 + 2 * g) 1 = nI n ∧ SL (D (V + 1 + 1 + 2 * g + 1)) n (fun a => tcn gr am (nI g) (D V 1) a 16)
theorem SV_cong {D D' : DT} {V : Nat} {gr am gr' am' : Nat → Int32} (h : SV D V gr am) (h1 : ∀ i, V + 2 ≤ i → i < V + 10 → ∀ k, k < 16 → D' i k = D i k) (h2 : D' V 1 = D V 1) (h3 : ∀ p, p < 16 → gr' p = gr p) (h4 : ∀ p, p < 16 → gr p ≠ -1 → am' p = am p) : SV D' V gr' am' := by
  intro g hg
  obtain ⟨n, hn, e1, e2⟩ := h g hg
  refine ⟨n, hn, by rw [h1 _ (by omega) (by omega) _ (by omega)]; exact e1, SL_cong e2 (fun j hj => h1 _ (by omega) (by omega) j (by omega)) (fun a => ?_)⟩
  rw [h2]
  refine ct_cong fun k hk => ?_
  rw [h3 k hk]
  by_cases e : gr k = -1
  · have : ¬ (-1 : Int32) = nI g := by
      intro q
      have := congrArg Int32.toInt q
      rw [nI_toInt (by omega)] at this
      have e2 : (-1 : Int32).toInt = -1 := rfl
      omega
    simp [e, this]
  · rw [h4 k hk e]
theorem SV_set {D : DT} {V g n : Nat} {f gr am gr' am' : Nat → Int32} (h : SV D V gr am) (hg : g < 4) (hn : n ≤ 16) (hs : SL f n (fun a => tcn gr' am' (nI g) (D V 1) a 16)) (ho : ∀ g', g' < 4 → g' ≠ g → ∀ a, tcn gr' am' (nI g') (D V 1) a 16 = tcn gr am (nI g') (D V 1) a 16) : SV (setA D (V + 1 + 1 + 2 * g) f (nI n)) V gr' am' := by
  intro g' hg'
  have eV : setA D (V + 1 + 1 + 2 * g) f (nI n) V = D V := setA_o _ _ _ (by omega) (by omega)
  by_cases e : g' = g
  · subst e
    exact ⟨n, hn, setA_c _ _ _ _, by rw [setA_r, eV]; exact hs⟩
  · obtain ⟨m, hm, e1, e2⟩ := h g' hg'
    refine ⟨m, hm, by rw [setA_o _ _ _ (by omega) (by omega)]; exact e1, ?_⟩
    rw [setA_o _ _ _ (by omega) (by omega), eV]
    exact SL_cong e2 (fun _ _ => rfl) (fun a => ho g' hg' e a)
theorem nI_m {g : Nat} (hg : g < 4) : ¬ (-1 : Int32) = nI g := by
  intro q
  have := congrArg Int32.toInt q
  rw [nI_toInt (by omega)] at this
  have e2 : (-1 : Int32).toInt = -1 := rfl
  omega
theorem nI_ne {a b : Nat} (ha : a < 2 ^ 31) (hb : b < 2 ^ 31) (h : a ≠ b) : ¬ nI a = nI b := fun q => h ((nI_eq ha hb).mp q)
/-- delta d of the log, as a step from the table before to the table behind -/
def LSt (D : DT) (L : Nat) (G A : Nat → Nat → Int32) (d : Nat) : Prop := ∃ p, p < 16 ∧ (∀ q, q < 16 → q ≠ p → G (d + 1) q = G d q ∧ A (d + 1) q = A d q) ∧ ∃ g, g < 4 ∧ D (L + 1) (d % 64) = nI g ∧
  ((D (L + 3) (d % 64) = 1 ∧ G d p = -1 ∧ G (d + 1) p = nI g ∧ A (d + 1) p = D (L + 2) (d % 64)) ∨ (D (L + 3) (d % 64) = -1 ∧ G d p = nI g ∧ A d p = D (L + 2) (d % 64) ∧ G (d + 1) p = -1))
/-- .. below the filter it changes nothing -/
theorem SV_low {D : DT} {V : Nat} {gr am gr' am' : Nat → Int32} {p g : Nat} {x : Int32} (h : SV D V gr am) (hp : p < 16) (ho : ∀ q, q < 16 → q ≠ p → gr' q = gr q ∧ am' q = am q) (hx : x < D V 1)
    (hst : (gr p = -1 ∧ gr' p = nI g ∧ am' p = x) ∨ (gr p = nI g ∧ am p = x ∧ gr' p = -1)) : SV D V gr' am' := by
  intro g' hg'
  obtain ⟨n, hn, e1, e2⟩ := h g' hg'
  refine ⟨n, hn, e1, SL_cong e2 (fun _ _ => rfl) (fun a => ?_)⟩
  have := tcn_step hp ho (nI g') (D V 1) a
  rcases hst with ⟨q1, q2, q3⟩ | ⟨q1, q2, q3⟩
  · rw [if_neg (by rw [q1]; exact fun z => nI_m hg' z.1), if_neg (by rw [q3]; exact fun z => absurd z.2.1 (Int32.not_le.mpr hx))] at this
    exact this
  · rw [if_neg (by rw [q2]; exact fun z => absurd z.2.1 (Int32.not_le.mpr hx)), if_neg (by rw [q3]; exact fun z => nI_m hg' z.1)] at this
    exact this
theorem tcn_comes {gr am gr' am' : Nat → Int32} {p g : Nat} {x lo : Int32} (hp : p < 16) (ho : ∀ q, q < 16 → q ≠ p → gr' q = gr q ∧ am' q = am q) (hg : g < 4) (hx : lo ≤ x) (q1 : gr p = -1) (q2 : gr' p = nI g) (q3 : am' p = x) {g' : Nat} (hg' : g' < 4) (a : Int32) : tcn gr' am' (nI g') lo a 16 = tcn gr am (nI g') lo a 16 + (if g' = g ∧ x = a then 1 else 0) := by
  have := tcn_step hp ho (nI g') lo a
  rw [if_neg (by rw [q1]; exact fun z => nI_m hg' z.1), q2, q3] at this
  rw [Nat.add_zero] at this
  rw [this]
  congr 1
  by_cases e : g' = g
  · subst e
    by_cases e2 : x = a <;> simp [hx, e2]
    rw [← e2]; exact hx
  · rw [if_neg (fun z => nI_ne (by omega) (by omega) e z.1.symm), if_neg (fun z => e z.1)]
theorem tcn_goes {gr am gr' am' : Nat → Int32} {p g : Nat} {x lo : Int32} (hp : p < 16) (ho : ∀ q, q < 16 → q ≠ p → gr' q = gr q ∧ am' q = am q) (hg : g < 4) (hx : lo ≤ x) (q1 : gr p = nI g) (q2 : am p = x) (q3 : gr' p = -1) {g' : Nat} (hg' : g' < 4) (a : Int32) : tcn gr' am' (nI g') lo a 16 + (if g' = g ∧ x = a then 1 else 0) = tcn gr am (nI g') lo a 16 := by
  have := tcn_step hp ho (nI g') lo a
  rw [if_neg (c := gr' p = nI g' ∧ lo ≤ am' p ∧ am' p = a) (by rw [q3]; exact fun z => nI_m hg' z.1), q1, q2] at this
  rw [Nat.add_zero] at this
  rw [← this]
  congr 1
  by_cases e : g' = g
  · subst e
    by_cases e2 : x = a <;> simp [hx, e2]
    rw [← e2]; exact hx
  · rw [if_neg (fun z => e z.1), if_neg (fun z => nI_ne (by omega) (by omega) e z.1.symm)]
theorem SV_comes {D : DT} {V : Nat} {gr am gr' am' f' : Nat → Int32} {p g n : Nat} {x : Int32} (h : SV D V gr am) (hp : p < 16) (ho : ∀ q, q < 16 → q ≠ p → gr' q = gr q ∧ am' q = am q) (hg : g < 4) (hx : D V 1 ≤ x) (q1 : gr p = -1) (q2 : gr' p = nI g) (q3 : am' p = x)
    (hn : n < 16) (hs : SL (D (V + 1 + 1 + 2 * g + 1)) n (fun a => tcn gr am (nI g) (D V 1) a 16)) (hi : ins (D (V + 1 + 1 + 2 * g + 1)) n x f') : SV (setA D (V + 1 + 1 + 2 * g) f' (nI (n + 1))) V gr' am' :=
  SV_set h hg hn (SL_cong (SL_ins hs hi) (fun _ _ => rfl) (fun a => by rw [tcn_comes hp ho hg hx q1 q2 q3 hg a]; simp)) (fun g' hg' hne a => by rw [tcn_comes hp ho hg hx q1 q2 q3 hg' a]; simp [hne])
theorem SV_goes {D : DT} {V : Nat} {gr am gr' am' f' : Nat → Int32} {p g n k : Nat} {x : Int32} (h : SV D V gr am) (hp : p < 16) (ho : ∀ q, q < 16 → q ≠ p → gr' q = gr q ∧ am' q = am q) (hg : g < 4) (hx : D V 1 ≤ x) (q1 : gr p = nI g) (q2 : am p = x) (q3 : gr' p = -1)
    (hn : n ≤ 16) (hs : SL (D (V + 1 + 1 + 2 * g + 1)) n (fun a => tcn gr am (nI g) (D V 1) a 16)) (hk : D (V + 1 + 1 + 2 * g + 1) k = x) (hd : del (D (V + 1 + 1 + 2 * g + 1)) n k f') : SV (setA D (V + 1 + 1 + 2 * g) f' (nI (n - 1))) V gr' am' :=
  SV_set h hg (by omega) (SL_cong (SL_del hs hd) (fun _ _ => rfl) (fun a => by
    have := tcn_goes hp ho hg hx q1 q2 q3 hg a
    show tcn gr' am' (nI g) (D V 1) a 16 = tcn gr am (nI g) (D V 1) a 16 - (if D (V + 1 + 1 + 2 * g + 1) k = a then 1 else 0)
    rw [hk]
    simp only [true_and] at this
    omega)) (fun g' hg' hne a => by
    have := tcn_goes hp ho hg hx q1 q2 q3 hg' a
    rw [if_neg (fun z => hne z.1)] at this
    omega)
theorem SV_room {D : DT} {V : Nat} {gr am : Nat → Int32} {p g n : Nat} (hp : p < 16) (q1 : gr p = -1) (hg : g < 4) (hs : SL (D (V + 1 + 1 + 2 * g + 1)) n (fun a => tcn gr am (nI g) (D V 1) a 16)) : n < 16 := by
  rw [SL_len hs]
  exact ct_lt hp (by simp [q1, nI_m hg])
theorem SV_has {D : DT} {V : Nat} {gr am : Nat → Int32} {p g n : Nat} {x : Int32} (hp : p < 16) (q1 : gr p = nI g) (q2 : am p = x) (hx : D V 1 ≤ x) (hs : SL (D (V + 1 + 1 + 2 * g + 1)) n (fun a => tcn gr am (nI g) (D V 1) a 16)) : ∃ k, k < n ∧ D (V + 1 + 1 + 2 * g + 1) k = x :=
  SL_in hs (ct_pos hp (by simp [q1, q2, hx]))
