/-! plain facts: rows of numbers by size, their counts -/
theorem kne {a b x y : Nat} (h1 : kd a = x) (h2 : kd b = y) (h : x ≠ y) : a ≠ b := fun e => h (by rw [← h1, ← h2, e])
def setA (D : DT) (h : Nat) (f : Nat → Int32) (v : Int32) : DT := up2 (va_up D (h + 1) f) h 1 v
theorem setA_c (D : DT) (h : Nat) (f : Nat → Int32) (v : Int32) : setA D h f v h 1 = v := by simp [setA, up2_self]
theorem setA_r (D : DT) (h : Nat) (f : Nat → Int32) (v : Int32) : setA D h f v (h + 1) = f := by
  unfold setA
  rw [up2_ne _ _ _ (by omega), va_up_self]
theorem setA_o (D : DT) {h i : Nat} (f : Nat → Int32) (v : Int32) (h1 : i ≠ h) (h2 : i ≠ h + 1) : setA D h f v i = D i := by
  unfold setA
  rw [up2_ne _ _ _ h1, va_up_ne _ _ h2]
theorem setA_id (D : DT) (h : Nat) : setA D h (D (h + 1)) (D h 1) = D := by
  funext i
  unfold setA up2 va_up
  by_cases h1 : i = h
  · subst h1
    rw [if_pos rfl]
    funext k
    by_cases h2 : k = 1
    · subst h2; simp
    · simp [h2]
  · rw [if_neg h1]
    by_cases h2 : i = h + 1
    · subst h2; simp
    · simp [h2]
theorem setA_setA (D : DT) (h : Nat) (f g : Nat → Int32) (v w : Int32) : setA (setA D h f v) h g w = setA D h g w := by
  funext i
  unfold setA up2 va_up
  by_cases h1 : i = h
  · subst h1
    simp only [if_true]
    funext k
    by_cases h2 : k = 1
    · subst h2; simp
    · simp [h2]
  · by_cases h2 : i = h + 1 <;> simp [h1, h2]
theorem setA_eq {D D1 : DT} {h : Nat} {f : Nat → Int32} {v : Int32} (h1 : D1 (h + 1) = f) (h2 : D1 h 1 = v) (h3 : ∀ k, k ≠ 1 → D1 h k = D h k) (h4 : ∀ i, i ≠ h → i ≠ h + 1 → D1 i = D i) : D1 = setA D h f v := by
  funext i
  by_cases a : i = h
  · subst a
    funext k
    by_cases b : k = 1
    · subst b; rw [h2, setA_c]
    · rw [h3 k b]; unfold setA; rw [up2_nk _ _ _ b, va_up_ne _ _ (by omega)]
  · by_cases b : i = h + 1
    · subst b; rw [h1, setA_r]
    · rw [h4 i a b, setA_o _ _ _ a b]
theorem va_up_up {α : Type} (f : Nat → α) (k : Nat) (a b : α) : va_up (va_up f k a) k b = va_up f k b := by
  funext i; unfold va_up; split <;> rfl
theorem up2_va (D : DT) (i k : Nat) (f : Nat → Int32) (v : Int32) : up2 (va_up D i f) i k v = va_up D i (va_up f k v) := by
  unfold up2; rw [va_up_self, va_up_up]
theorem va_id {α : Type} (f : Nat → α) (k : Nat) : va_up f k (f k) = f := by
  funext i; unfold va_up; split
  · rename_i h; rw [h]
  · rfl
theorem i32_le {a b : Int32} : a ≤ b ↔ a.toInt ≤ b.toInt := Int32.le_iff_toInt_le
theorem i32_lt {a b : Int32} : a < b ↔ a.toInt < b.toInt := Int32.lt_iff_toInt_lt
theorem i32_eq {a b : Int32} : a = b ↔ a.toInt = b.toInt := ⟨fun h => by rw [h], Int32.toInt_inj.mp⟩
/-- how many places below n have it -/
def ct (p : Nat → Bool) : Nat → Nat
  | 0 => 0
  | n + 1 => ct p n + (if p n then 1 else 0)
theorem ct_s (p : Nat → Bool) (n : Nat) : ct p (n + 1) = ct p n + (if p n then 1 else 0) := rfl
theorem ct_cong {p q : Nat → Bool} : ∀ {n : Nat}, (∀ k, k < n → p k = q k) → ct p n = ct q n
  | 0, _ => rfl
  | n + 1, h => by
    unfold ct
    rw [ct_cong (fun k hk => h k (by omega)), h n (by omega)]
theorem ct_le (p : Nat → Bool) : ∀ n, ct p n ≤ n
  | 0 => Nat.le_refl _
  | n + 1 => by have := ct_le p n; unfold ct; split <;> omega
theorem ct_pos {p : Nat → Bool} {n k : Nat} (hk : k < n) (h : p k = true) : 0 < ct p n := by
  induction n with
  | zero => omega
  | succ n ih =>
    unfold ct
    by_cases e : k = n
    · subst e; rw [h]; simp
    · have := ih (by omega); omega
theorem ct_ex {p : Nat → Bool} {n : Nat} (h : 0 < ct p n) : ∃ k, k < n ∧ p k = true := by
  induction n with
  | zero => simp [ct] at h
  | succ n ih =>
    by_cases e : p n = true
    · exact ⟨n, by omega, e⟩
    · unfold ct at h
      rw [if_neg e] at h
      obtain ⟨k, h1, h2⟩ := ih h
      exact ⟨k, by omega, h2⟩
theorem ct_ins {p p' : Nat → Bool} {k : Nat} {v : Bool} (h1 : ∀ j, j < k → p' j = p j) (h2 : p' k = v) : ∀ m, k ≤ m → (∀ j, k < j → j ≤ m → p' j = p (j - 1)) → ct p' (m + 1) = ct p m + (if v then 1 else 0) := by
  intro m
  induction m with
  | zero =>
    intro hk _
    obtain rfl : k = 0 := by omega
    simp [ct, h2]
  | succ m ih =>
    intro hk h3
    by_cases e : k = m + 1
    · subst e
      rw [show ct p' (m + 1 + 1) = ct p' (m + 1) + (if p' (m + 1) then 1 else 0) from rfl, h2, ct_cong h1]
    · have := ih (by omega) (fun j a b => h3 j a (by omega))
      rw [show ct p' (m + 1 + 1) = ct p' (m + 1) + (if p' (m + 1) then 1 else 0) from rfl, this, h3 (m + 1) (by omega) (Nat.le_refl _)]
      rw [show ct p (m + 1) = ct p m + (if p m then 1 else 0) from rfl, Nat.add_sub_cancel]
      omega
/-- how often a stands in the first n places of f -/
def cn (f : Nat → Int32) (n : Nat) (a : Int32) : Nat := ct (fun j => decide (f j = a)) n
/-- the first n places stand by size -/
def so (f : Nat → Int32) (n : Nat) : Prop := ∀ i j, i ≤ j → j < n → f i ≤ f j
/-- they stand by size, and are counted by c -/
def SL (f : Nat → Int32) (n : Nat) (c : Int32 → Nat) : Prop := so f n ∧ ∀ a, cn f n a = c a
/-- a has come into the first n places -/
def ins (f : Nat → Int32) (n : Nat) (a : Int32) (f' : Nat → Int32) : Prop := ∃ k, k ≤ n ∧ (∀ j, j < k → f' j = f j) ∧ f' k = a ∧ (∀ j, k < j → j ≤ n → f' j = f (j - 1)) ∧ (∀ j, k ≤ j → j < n → a < f j) ∧ (0 < k → ¬ a < f (k - 1))
/-- place k has gone -/
def del (f : Nat → Int32) (n : Nat) (k : Nat) (f' : Nat → Int32) : Prop := k < n ∧ (∀ j, j < k → f' j = f j) ∧ ∀ j, k ≤ j → j < n - 1 → f' j = f (j + 1)
theorem SL_ins {f f' : Nat → Int32} {n : Nat} {a : Int32} {c : Int32 → Nat} (h : SL f n c) (hi : ins f n a f') : SL f' (n + 1) (fun b => c b + (if a = b then 1 else 0)) := by
  obtain ⟨hs, hc⟩ := h
  obtain ⟨k, hk, h1, h2, h3, h4, h5⟩ := hi
  refine ⟨fun i j hij hj => ?_, fun b => ?_⟩
  · by_cases a1 : j < k
    · rw [h1 j a1, h1 i (by omega)]
      exact hs i j hij (by omega)
    · by_cases a2 : j = k
      · subst a2
        rw [h2]
        by_cases a3 : i = j
        · subst a3; rw [h2]; exact Int32.le_refl _
        · have q1 := h5 (by omega)
          have q2 := hs i (j - 1) (by omega) (by omega)
          rw [h1 i (by omega)]
          rw [i32_lt] at q1
          rw [i32_le] at q2 ⊢
          omega
      · rw [h3 j (by omega) (by omega)]
        by_cases a3 : i < k
        · rw [h1 i a3]
          exact hs i (j - 1) (by omega) (by omega)
        · by_cases a4 : i = k
          · subst a4
            rw [h2]
            have := h4 (j - 1) (by omega) (by omega)
            rw [i32_lt] at this
            rw [i32_le]
            omega
          · rw [h3 i (by omega) (by omega)]
            exact hs (i - 1) (j - 1) (by omega) (by omega)
  · show _ = c b + (if a = b then 1 else 0)
    rw [← hc b]
    unfold cn
    rw [ct_ins (p := fun j => decide (f j = b)) (p' := fun j => decide (f' j = b)) (k := k) (v := decide (a = b)) (fun j hj => by rw [h1 j hj]) (by rw [h2]) n hk (fun j a1 a2 => by rw [h3 j a1 a2])]
    by_cases e : a = b <;> simp [e]
theorem SL_del {f f' : Nat → Int32} {n k : Nat} {c : Int32 → Nat} (h : SL f n c) (hd : del f n k f') : SL f' (n - 1) (fun b => c b - (if f k = b then 1 else 0)) := by
  obtain ⟨hs, hc⟩ := h
  obtain ⟨hk, h1, h2⟩ := hd
  refine ⟨fun i j hij hj => ?_, fun b => ?_⟩
  · by_cases a1 : j < k
    · rw [h1 j a1, h1 i (by omega)]; exact hs i j hij (by omega)
    · rw [h2 j (by omega) hj]
      by_cases a3 : i < k
      · rw [h1 i a3]; exact hs i (j + 1) (by omega) (by omega)
      · rw [h2 i (by omega) (by omega)]; exact hs (i + 1) (j + 1) (by omega) (by omega)
  · have := ct_ins (p := fun j => decide (f' j = b)) (p' := fun j => decide (f j = b)) (k := k) (v := decide (f k = b)) (fun j hj => by rw [h1 j hj]) rfl (n - 1) (by omega) (fun j a1 a2 => by rw [h2 (j - 1) (by omega) (by omega), show j - 1 + 1 = j by omega])
    rw [show n - 1 + 1 = n by omega] at this
    have h3 := hc b
    unfold cn at h3 ⊢
    rw [this] at h3
    by_cases e : f k = b <;> simp [e] at h3 ⊢ <;> omega
theorem SL_uniq : ∀ (n n2 : Nat) (f f2 : Nat → Int32) (c : Int32 → Nat), SL f n c → SL f2 n2 c → n = n2 ∧ ∀ j, j < n → f j = f2 j := by
  intro n
  induction n with
  | zero =>
    intro n2 f f2 c h h2
    have : n2 = 0 := by
      rcases Nat.eq_zero_or_pos n2 with e | e
      · exact e
      · exfalso
        have q1 := h.2 (f2 0)
        have q2 := h2.2 (f2 0)
        have q3 := ct_pos (p := fun j => decide (f2 j = f2 0)) (n := n2) (k := 0) e (by simp)
        unfold cn at q1 q2
        simp only [ct] at q1
        omega
    exact ⟨this.symm, fun j hj => absurd hj (by omega)⟩
  | succ n ih =>
    intro n2 f f2 c h h2
    have hpos : 0 < c (f n) := by
      rw [← h.2]; exact ct_pos (k := n) (by omega) (by simp)
    obtain ⟨k2, hk2, e2⟩ := ct_ex (p := fun j => decide (f2 j = f n)) (n := n2) (by have := h2.2 (f n); unfold cn at this; rw [this]; exact hpos)
    have e2 := of_decide_eq_true e2
    obtain ⟨m, rfl⟩ : ∃ m, n2 = m + 1 := ⟨n2 - 1, by omega⟩
    have hpos2 : 0 < c (f2 m) := by
      rw [← h2.2]; exact ct_pos (k := m) (by omega) (by simp)
    obtain ⟨k1, hk1, e1⟩ := ct_ex (p := fun j => decide (f j = f2 m)) (n := n + 1) (by have := h.2 (f2 m); unfold cn at this; rw [this]; exact hpos2)
    have e1 := of_decide_eq_true e1
    have l1 := h.1 k1 n (by omega) (by omega)
    have l2 := h2.1 k2 m (by omega) (by omega)
    have el : f n = f2 m := by
      rw [e1] at l1; rw [e2] at l2
      rw [i32_eq]; rw [i32_le] at l1 l2; omega
    have d1 := SL_del (f' := f) (k := n) h ⟨by omega, fun _ _ => rfl, fun j a b => absurd b (by omega)⟩
    have d2 := SL_del (f' := f2) (k := m) h2 ⟨by omega, fun _ _ => rfl, fun j a b => absurd b (by omega)⟩
    rw [← el] at d2
    obtain ⟨q1, q2⟩ := ih m f f2 _ d1 d2
    refine ⟨by omega, fun j hj => ?_⟩
    by_cases e : j = n
    · subst e; rw [q1] at el ⊢; exact el
    · exact q2 j (by omega)
theorem SL_0 (f : Nat → Int32) : SL f 0 (fun _ => 0) := ⟨fun i j _ hj => absurd hj (by omega), fun _ => rfl⟩
theorem SL_cong {f g : Nat → Int32} {n : Nat} {c d : Int32 → Nat} (h : SL f n c) (hf : ∀ j, j < n → g j = f j) (hc : ∀ a, d a = c a) : SL g n d := by
  refine ⟨fun i j hij hj => ?_, fun a => ?_⟩
  · rw [hf i (by omega), hf j hj]; exact h.1 i j hij hj
  · rw [hc a, ← h.2 a]; unfold cn; exact ct_cong (fun k hk => by rw [hf k hk])
theorem SL_in {f : Nat → Int32} {n : Nat} {c : Int32 → Nat} (h : SL f n c) {a : Int32} (ha : 0 < c a) : ∃ k, k < n ∧ f k = a := by
  rw [← h.2 a] at ha
  obtain ⟨k, h1, h2⟩ := ct_ex ha
  exact ⟨k, h1, of_decide_eq_true h2⟩
/-- sums and changes along a row -/
def sm (f : Nat → Int32) : Nat → Int32
  | 0 => 0
  | n + 1 => sm f n + f n
def kn (f : Nat → Int32) : Nat → Nat
  | 0 => 0
  | n + 1 => kn f n + (if n = 0 ∨ f n ≠ f (n - 1) then 1 else 0)
theorem sm_cong {f g : Nat → Int32} : ∀ {n : Nat}, (∀ k, k < n → f k = g k) → sm f n = sm g n
  | 0, _ => rfl
  | n + 1, h => by unfold sm; rw [sm_cong (fun k hk => h k (by omega)), h n (by omega)]
theorem kn_cong {f g : Nat → Int32} : ∀ {n : Nat}, (∀ k, k < n → f k = g k) → kn f n = kn g n
  | 0, _ => rfl
  | n + 1, h => by unfold kn; rw [kn_cong (fun k hk => h k (by omega)), h n (by omega), h (n - 1) (by omega)]
theorem kn_le (f : Nat → Int32) : ∀ n, kn f n ≤ n
  | 0 => Nat.le_refl _
  | n + 1 => by have := kn_le f n; unfold kn; split <;> omega
/-- the first place that is not below a -/
def fb (f : Nat → Int32) (n : Nat) (a : Int32) (k : Nat) : Prop := k ≤ n ∧ (∀ j, j < k → f j < a) ∧ (k < n → ¬ f k < a)
/-- two rows tell the same -/
def like (f : Nat → Int32) (n : Nat) (g : Nat → Int32) (m : Nat) : Prop := n = m ∧ sm f n = sm g m ∧ kn f n = kn g m ∧ (n = 0 ∨ (f 0 = g 0 ∧ f (n - 1) = g (n - 1) ∧ f ((n - 1) / 2) = g ((n - 1) / 2)))
theorem like_of {f g : Nat → Int32} {n m : Nat} (hn : n = m) (h : ∀ j, j < n → f j = g j) : like f n g m := by
  subst hn
  refine ⟨rfl, sm_cong h, kn_cong h, ?_⟩
  rcases Nat.eq_zero_or_pos n with e | e
  · exact Or.inl e
  · exact Or.inr ⟨h 0 e, h (n - 1) (by omega), h ((n - 1) / 2) (by omega)⟩
/-- the answer of first, last, middle -/
def at0 (f : Nat → Int32) (n k : Nat) : Int32 := if n = 0 then 0 else f k
def lvle : List (Option Value) → List (Option Value) → Prop
  | [], [] => True
  | a :: s, b :: t => (a = none ∨ a = b) ∧ lvle s t
  | _, _ => False
theorem lvle_len : ∀ (a b : List (Option Value)), lvle a b → a.length = b.length
  | [], [], _ => rfl
  | _ :: s, _ :: t, h => by rw [List.length_cons, List.length_cons, lvle_len s t h.2]
theorem lvle_at : ∀ (a b : List (Option Value)), lvle a b → ∀ (k : Nat) (v : Value), a[k]? = some (some v) → b[k]? = some (some v)
  | [], [], _, k, v, h => by simp at h
  | x :: s, y :: t, h, 0, v, hk => by
    simp only [List.getElem?_cons_zero, Option.some.injEq] at hk ⊢
    rcases h.1 with e | e
    · rw [e] at hk; cases hk
    · rw [← e]; exact hk
  | x :: s, y :: t, h, k + 1, v, hk => by
    rw [List.getElem?_cons_succ] at hk ⊢
    exact lvle_at s t h.2 k v hk
theorem PV_le {K : KT} {X : XT} {Q : State → Prop} {ce sl pc : Nat} {lv lv' : List (Option Value)} {st : List Value} {D : DT} {P : PT} (k : PV K X Q ce sl pc lv' st D P) (h : lvle lv' lv) : PV K X Q ce sl pc lv st D P := PV_drop (lvle_len _ _ h) (lvle_at _ _ h) k
theorem like_at {f g : Nat → Int32} {n m : Nat} (h : like f n g m) : at0 f n 0 = at0 g m 0 ∧ at0 f n (n - 1) = at0 g m (m - 1) ∧ at0 f n ((n - 1) / 2) = at0 g m ((m - 1) / 2) := by
  obtain ⟨rfl, -, -, h4⟩ := h
  unfold at0
  by_cases e : n = 0
  · simp [e]
  · rcases h4 with q | ⟨q1, q2, q3⟩
    · exact absurd q e
    · simp [e, q1, q2, q3]
theorem like_mk {f g : Nat → Int32} {n m : Nat} (h1 : n = m) (h2 : sm f n = sm g m) (h3 : kn f n = kn g m) (h4 : at0 f n 0 = at0 g m 0) (h5 : at0 f n (n - 1) = at0 g m (m - 1)) (h6 : at0 f n ((n - 1) / 2) = at0 g m ((m - 1) / 2)) : like f n g m := by
  subst h1
  unfold at0 at h4 h5 h6
  refine ⟨rfl, h2, h3, ?_⟩
  by_cases e : n = 0
  · exact Or.inl e
  · rw [if_neg e, if_neg e] at h4 h5 h6
    exact Or.inr ⟨h4, h5, h6⟩
/-- a table's amounts of a group from lo on: how many are a, of the first n places -/
def tcn (gr am : Nat → Int32) (g lo a : Int32) (n : Nat) : Nat := ct (fun p => decide (gr p = g ∧ lo ≤ am p ∧ am p = a)) n
theorem tcn_yes {gr am : Nat → Int32} {g lo : Int32} {n : Nat} (h1 : gr n = g) (h2 : lo ≤ am n) (a : Int32) : tcn gr am g lo a (n + 1) = tcn gr am g lo a n + (if am n = a then 1 else 0) := by
  unfold tcn
  rw [ct_s]
  by_cases e : am n = a
  · rw [if_pos e, if_pos (decide_eq_true ⟨h1, h2, e⟩)]
  · rw [if_neg e, if_neg (by simp [e])]
theorem tcn_no {gr am : Nat → Int32} {g lo : Int32} {n : Nat} (h : ¬ (gr n = g ∧ lo ≤ am n)) (a : Int32) : tcn gr am g lo a (n + 1) = tcn gr am g lo a n := by
  unfold tcn
  rw [ct_s, if_neg]
  · rfl
  · simp only [decide_eq_true_eq]
    exact fun q => h ⟨q.1, q.2.1⟩
theorem tcn_cong {gr am gr' am' : Nat → Int32} {g lo a : Int32} {n : Nat} (h1 : ∀ p, p < n → gr' p = gr p) (h2 : ∀ p, p < n → am' p = am p) : tcn gr' am' g lo a n = tcn gr am g lo a n := ct_cong (fun k hk => by rw [h1 k hk, h2 k hk])
/-- where the views and the states lie -/
theorem kd5_ff : ∀ i, i < 297 → kd i = 5 → (i = 14 ∨ ∃ k, k < 7 ∧ ∃ v, v < 3 ∧ i = 33 + 39 * k + 10 * v) := by decide +kernel
theorem kd5_f {i : Nat} (h : kd i = 5) : i = 14 ∨ ∃ k v, k < 7 ∧ v < 3 ∧ i = 33 + 39 * k + 10 * v := by
  rcases kd5_ff i (kd_lt h (by decide)) h with e | ⟨k, hk, v, hv, e⟩
  · exact Or.inl e
  · exact Or.inr ⟨k, v, hk, hv, e⟩
theorem kd3_ff : ∀ i, i < 297 → kd i = 3 → ∃ k, k < 7 ∧ i = 24 + 39 * k := by decide +kernel
theorem kd3_f {i : Nat} (h : kd i = 3) : ∃ k, k < 7 ∧ i = 24 + 39 * k := kd3_ff i (kd_lt h (by decide)) h
theorem kd1_ff : ∀ i, i < 297 → kd i = 1 → ∃ k, k < 7 ∧ i = 28 + 39 * k := by decide +kernel
theorem kd1_f {i : Nat} (h : kd i = 1) : ∃ k, k < 7 ∧ i = 28 + 39 * k := kd1_ff i (kd_lt h (by decide)) h
theorem kd4_ff : ∀ i, i < 297 → kd i = 4 → ∃ k, k < 7 ∧ i = 25 + 39 * k := by decide +kernel
theorem kd4_f {i : Nat} (h : kd i = 4) : ∃ k, k < 7 ∧ i = 25 + 39 * k := kd4_ff i (kd_lt h (by decide)) h
theorem kd5_sep {a b : Nat} (h1 : kd a = 5) (h2 : kd b = 5) (h : a ≠ b) : a + 10 ≤ b ∨ b + 10 ≤ a := by
  rcases kd5_f h1 with e | ⟨k, v, h3, h4, e⟩ <;> rcases kd5_f h2 with e2 | ⟨k2, v2, h5, h6, e2⟩ <;> first | omega | (rcases Nat.lt_trichotomy k k2 with q | q | q <;> omega)
theorem kd3_sep {a b : Nat} (h1 : kd a = 3) (h2 : kd b = 3) (h : a ≠ b) : a + 39 ≤ b ∨ b + 39 ≤ a := by
  obtain ⟨k, h3, e⟩ := kd3_f h1
  obtain ⟨k2, h4, e2⟩ := kd3_f h2
  omega
theorem nI_zero : (0 : Int32) = nI 0 := nI_0.symm
