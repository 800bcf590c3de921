/-! a text that happens, part by part -/
def dnI (o : Option PartT) (ft dn : Int32) : Int32 := dn + (if okI o = 1 ∧ ft = 0 then 1 else 0)
def rnA (f : Nat → Int32) (n : Nat) : Nat → ResT → (Nat → Int32) → Int32 → Int32 → (Nat → Int32) × Int32 × Int32
  | 0, q, row, ft, dn => (rR 1 ft row q.1, fR 1 ft row q.1, dnI q.1 (fR 1 ft row q.1) dn)
  | k + 1, q, row, ft, dn => if okI q.1 = 1 ∧ q.2 < n ∧ f q.2 = 59 then rnA f n k (pPart f n (q.2 + 1)) (rR 1 ft row q.1) (fR 1 ft row q.1) (dnI q.1 (fR 1 ft row q.1) dn) else (rR 1 ft row q.1, fR 1 ft row q.1, dnI q.1 (fR 1 ft row q.1) dn)
theorem rnA_s (f : Nat → Int32) (n k : Nat) (q : ResT) (row : Nat → Int32) (ft dn : Int32) : rnA f n (k + 1) q row ft dn = if okI q.1 = 1 ∧ q.2 < n ∧ f q.2 = 59 then rnA f n k (pPart f n (q.2 + 1)) (rR 1 ft row q.1) (fR 1 ft row q.1) (dnI q.1 (fR 1 ft row q.1) dn) else (rR 1 ft row q.1, fR 1 ft row q.1, dnI q.1 (fR 1 ft row q.1) dn) := rfl
theorem dnU_14 (D : DT) : dnU D 6 14 = D 6 14 + (if D 6 11 = 1 ∧ D 6 13 = 0 then 1 else 0) := by unfold dnU; rw [up2_self]
theorem lpA_r {f : Nat → Int32} {n : Nat} (hn : n ≤ 60) : ∀ (k : Nat) (q : ResT) (E0 : DT) (row : Nat → Int32) (ft dn : Int32), E0 12 = f → E0 6 12 = 1 → E0 7 = row → E0 6 13 = ft → E0 6 14 = dn → q.2 ≤ n → n < q.2 + k →
    (lpA n k (dnU (pres E0 q))) 7 = (rnA f n k q row ft dn).1 ∧ (lpA n k (dnU (pres E0 q))) 6 13 = (rnA f n k q row ft dn).2.1 ∧ (lpA n k (dnU (pres E0 q))) 6 14 = (rnA f n k q row ft dn).2.2
  | 0, q, E0, row, ft, dn, _, _, _, _, _, hq, hk => absurd hk (by omega)
  | k + 1, q, E0, row, ft, dn, h12, hd, h7, hft, hdn, hq, hk => by
    have e7 : dnU (pres E0 q) 7 = rR 1 ft row q.1 := by rw [dnU_o _ (by decide), pres_7, hd, hft, h7]
    have e13 : dnU (pres E0 q) 6 13 = fR 1 ft row q.1 := by rw [dnU_k _ (by decide), pres_f, hd, hft, h7]
    have e14 : dnU (pres E0 q) 6 14 = dnI q.1 (fR 1 ft row q.1) dn := by
      rw [dnU_14, pres_g, pres_f, pres_k _ _ (by decide) (by decide) (by decide), hdn, hd, hft, h7]
      rfl
    have e11 : dnU (pres E0 q) 6 11 = okI q.1 := by rw [dnU_k _ (by decide), pres_g]
    have e10 : dnU (pres E0 q) 6 10 = nI q.2 := by rw [dnU_k _ (by decide), pres_a]
    have e12 : dnU (pres E0 q) 12 = f := by rw [dnU_o _ (by decide), pres_o _ _ (by decide) (by decide), h12]
    have ed : dnU (pres E0 q) 6 12 = 1 := by rw [dnU_k _ (by decide), pres_k _ _ (by decide) (by decide) (by decide), hd]
    by_cases e0 : okI q.1 = 1 ∧ q.2 < n
    · rw [lpA_s (e11.trans e0.1) e10 e0.2 hn, e12, rnA_s]
      by_cases e2 : f q.2 = 59
      · rw [if_pos e2, if_pos ⟨e0.1, e0.2, e2⟩]
        have ok := pPart_ok (f := f) (n := n) (a := q.2 + 1) (by omega)
        exact lpA_r hn k (pPart f n (q.2 + 1)) (pd (dnU (pres E0 q)) (q.2 + 1) 1) _ _ _ (by rw [pd_o _ _ _ (by decide)]; exact e12) (by rw [pd_k _ _ _ (by decide) (by decide)]; exact ed) (by rw [pd_o _ _ _ (by decide)]; exact e7) (by rw [pd_k _ _ _ (by decide) (by decide)]; exact e13) (by rw [pd_k _ _ _ (by decide) (by decide)]; exact e14) ok.1 (by have := ok.2.1; omega)
      · rw [if_neg e2, if_neg (fun z => e2 z.2.2), dnU_o _ (by decide), pd_o _ _ _ (by decide), dnU_k _ (by decide), pd_k _ _ _ (by decide) (by decide), dnU_14, pd_g, if_neg (fun z => absurd z.1 (by decide)), pd_k _ _ _ (by decide) (by decide), Int32.add_zero]
        exact ⟨e7, e13, e14⟩
    · rw [lpA_stop (fun z => e0 ⟨by rw [← e11]; exact z.1, by have := z.2; rw [e10, ix_n (by omega)] at this; exact this⟩), rnA_s, if_neg (fun z => e0 ⟨z.1, z.2.1⟩)]
      exact ⟨e7, e13, e14⟩
def rFin (f : Nat → Int32) (n : Nat) (row : Nat → Int32) : (Nat → Int32) × Int32 × Int32 := rnA f n 61 (pPart f n 0) row 0 0
theorem rdA_r {D : DT} {n : Nat} (hn : n ≤ 60) : (rdA D n 1) 7 = (rFin (D 12) n (D 7)).1 ∧ (rdA D n 1) 6 13 = (rFin (D 12) n (D 7)).2.1 ∧ (rdA D n 1) 6 14 = (rFin (D 12) n (D 7)).2.2 := by
  have io : ∀ i, i ≠ 6 → rdI D 1 i = D i := fun i hi => by unfold rdI; rw [up2_ne _ _ _ hi, up2_ne _ _ _ hi, up2_ne _ _ _ hi, pd_o _ _ _ hi]
  have ok := pPart_ok (f := D 12) (n := n) (a := 0) (by omega)
  exact lpA_r hn 61 (pPart (D 12) n 0) (rdI D 1) (D 7) 0 0 (io 12 (by decide)) (by unfold rdI; rw [up2_nk _ _ _ (by decide), up2_nk _ _ _ (by decide), up2_self]) (io 7 (by decide)) (by unfold rdI; rw [up2_nk _ _ _ (by decide), up2_self]) (by unfold rdI; rw [up2_self]) ok.1 (by omega)
theorem rnA_cong {f g : Nat → Int32} {n : Nat} (h : ∀ k, k < n → f k = g k) : ∀ (k : Nat) (q : ResT) (row : Nat → Int32) (ft dn : Int32), rnA f n k q row ft dn = rnA g n k q row ft dn
  | 0, _, _, _, _ => rfl
  | k + 1, q, row, ft, dn => by
    rw [rnA_s, rnA_s, pPart_cong h]
    by_cases e : q.2 < n
    · rw [h _ e, rnA_cong h k]
    · rw [if_neg (fun z => e z.2.1), if_neg (fun z => e z.2.1)]
theorem rFin_cong {f g : Nat → Int32} {n : Nat} (h : ∀ k, k < n → f k = g k) (row : Nat → Int32) : rFin f n row = rFin g n row := by
  unfold rFin
  rw [pPart_cong h, rnA_cong h]
theorem fR_1 (row : Nat → Int32) (o : Option PartT) : fR 1 1 row o = 1 := by unfold fR; rw [if_neg (fun z => absurd z.2 (by decide))]
theorem rR_1 (row : Nat → Int32) (o : Option PartT) : rR 1 1 row o = row := by unfold rR; rw [if_neg (fun z => absurd z.2 (by decide))]
theorem dnI_1 (o : Option PartT) (dn : Int32) : dnI o 1 dn = dn := by unfold dnI; rw [if_neg (fun z => absurd z.2 (by decide)), Int32.add_zero]
/-- behind a part that can't happen, nothing happens -/
theorem rnA_1 {f : Nat → Int32} {n : Nat} : ∀ (k : Nat) (q : ResT) (row : Nat → Int32) (dn : Int32), rnA f n k q row 1 dn = (row, 1, dn)
  | 0, q, row, dn => by
    show (rR 1 1 row q.1, fR 1 1 row q.1, dnI q.1 (fR 1 1 row q.1) dn) = _
    rw [rR_1, fR_1, dnI_1]
  | k + 1, q, row, dn => by
    rw [rnA_s, rR_1, fR_1, dnI_1]
    split
    · exact rnA_1 k _ row dn
    · rfl
theorem pAll_g {f : Nat → Int32} {n : Nat} : ∀ (k a : Nat), a ≤ n → (pAll f n k a).1 = 1 → (pAll f n k a).2 = n
  | 0, a, _, h => absurd h (by show ¬ (0 : Int32) = 1; decide)
  | k + 1, a, ha, h => by
    have ok := pPart_ok (f := f) (n := n) ha
    rw [pAll_s] at h ⊢
    by_cases e0 : okI (pPart f n a).1 = 1
    · rw [if_pos e0] at h ⊢
      by_cases e1 : (pPart f n a).2 < n
      · rw [if_pos e1] at h ⊢
        by_cases e2 : f (pPart f n a).2 = 59
        · rw [if_pos e2] at h ⊢
          exact pAll_g k _ (by omega) h
        · rw [if_neg e2] at h
          exact absurd h (by show ¬ (0 : Int32) = 1; decide)
      · rw [if_neg e1]
        have := ok.1
        show (pPart f n a).2 = n
        omega
    · rw [if_neg e0] at h
      exact absurd h (by show ¬ (0 : Int32) = 1; decide)
/-- the place of the stop is no part of what happens -/
def eqx (r1 r2 : Nat → Int32) : Prop := ∀ k, k ≠ 183 → r1 k = r2 k
theorem eqx.up {r1 r2 : Nat → Int32} (h : eqx r1 r2) {k : Nat} {x y : Int32} (e : x = y) : eqx (va_up r1 k x) (va_up r2 k y) := fun j hj => by
  subst e
  by_cases q : j = k
  · subst q; rw [va_up_self, va_up_self]
  · rw [va_up_ne _ _ q, va_up_ne _ _ q]; exact h j hj
theorem eqx.plus {r1 r2 : Nat → Int32} (h : eqx r1 r2) {k : Nat} {x : Int32} (hk : k ≠ 183) : eqx (plus r1 k x) (plus r2 k x) := h.up (by rw [h k hk])
theorem eqx.rowT {r1 r2 : Nat → Int32} (h : eqx r1 r2) {m1 m2 : Nat → Nat} (hm : ∀ v, v < 3 → m1 v = m2 v) : eqx (rowT r1 m1) (rowT r2 m2) := fun k hk => by
  rw [rowT_cong hm]
  unfold Jvm.Pilot.CNappingViewsLaw_law_r4675_33e226.rowT
  rw [h ((k - 32) % 38) (by omega), h 178 (by decide), h k hk]
theorem eqx.wake {r1 r2 : Nat → Int32} (h : eqx r1 r2) (v : Nat) : eqx (m_wake r1 v) (m_wake r2 v) := (h.rowT (fun _ _ => rfl)).plus (by decide)
theorem eqx.ref {r1 r2 : Nat → Int32} (h : eqx r1 r2) (v : Nat) : eqx (m_ref r1 v) (m_ref r2 v) := (h.rowT (fun _ _ => rfl)).plus (by decide)
theorem eqx.nap {r1 r2 : Nat → Int32} (h : eqx r1 r2) (v : Nat) : eqx (m_nap r1 v) (m_nap r2 v) := (h.up rfl).up rfl
theorem eqx.pt {r1 r2 : Nat → Int32} (h : eqx r1 r2) {v : Nat} (hv : v < 3) : eqx (m_pt r1 v) (m_pt r2 v) := by
  unfold m_pt
  rw [h (32 + 38 * v + 32) (by omega), h (32 + 38 * v + 33) (by omega), h (32 + 38 * v + 36) (by omega)]
  split
  · exact h
  · split
    · exact h.plus (by omega)
    · exact ((h.plus (by omega)).wake v).plus (by decide)
theorem eqx.ticks {r1 r2 : Nat → Int32} (h : eqx r1 r2) : ∀ n, eqx (m_ticks r1 n) (m_ticks r2 n)
  | 0 => h
  | n + 1 => ((((eqx.ticks h n).pt (by decide : 0 < 3)).pt (by decide : 1 < 3)).pt (by decide : 2 < 3)).plus (by decide)
theorem eqx.nt {r1 r2 : Nat → Int32} (h : eqx r1 r2) {a b : Int32} (e : a = b) : eqx (m_nt r1 a) (m_nt r2 b) := by
  unfold m_nt
  rw [h 178 (by decide)]
  exact (h.up e).up rfl
theorem eqx.settle {r1 r2 : Nat → Int32} (h : eqx r1 r2) : eqx (m_settle r1) (m_settle r2) := by
  have ha : ∀ v, v < 3 → awk r1 v = awk r2 v := fun v hv => by unfold awk; rw [h _ (by omega)]
  have h1 := h.rowT ha
  have hf : ∀ v, v < 3 → farm (Jvm.Pilot.CNappingViewsLaw_law_r4675_33e226.rowT r1 (awk r1)) v = farm (Jvm.Pilot.CNappingViewsLaw_law_r4675_33e226.rowT r2 (awk r2)) v := fun v hv => by
    unfold farm
    rw [h1 _ (by omega), h1 _ (by omega), h1 _ (by omega), h1 _ (by omega)]
  intro k hk
  unfold m_settle m_far m_farv
  rw [ct_cong (p := fun u => decide (farm (Jvm.Pilot.CNappingViewsLaw_law_r4675_33e226.rowT r1 (awk r1)) u = 2)) (q := fun u => decide (farm (Jvm.Pilot.CNappingViewsLaw_law_r4675_33e226.rowT r2 (awk r2)) u = 2)) (fun u hu => by rw [hf u hu])]
  split
  · rw [h1 k hk]
  · exact (h1.rowT (fun v hv => by unfold upto; rw [if_pos hv, if_pos hv, hf v hv])) k hk
theorem eqx.go {r1 r2 : Nat → Int32} (h : eqx r1 r2) {p : PartT} (hp : pOK p) : eqx (goP r1 p) (goP r2 p) := by
  have h16 : p.2.1 < 16 → r1 (16 + p.2.1) = r2 (16 + p.2.1) := fun z => h _ (by omega)
  have hpp : p.2.1 < 16 → r1 p.2.1 = r2 p.2.1 := fun z => h _ (by omega)
  unfold goP
  split
  · exact (((h.up rfl).up rfl).nt rfl).settle
  · split
    · rename_i hk
      have hl : p.2.1 < 16 := by
        rcases hp with ⟨_, z, _⟩ | ⟨z, _⟩ | ⟨z, _⟩
        · exact z
        · rw [hk] at z; exact absurd z (by decide)
        · rcases z with z | z | z <;> rw [hk] at z <;> exact absurd z (by decide)
      exact ((((h.nt (h16 hl)).up rfl).up (h16 hl)).nt (h16 hl)).settle
    · split
      · rename_i hk
        have hl : p.2.1 < 16 := by
          rcases hp with ⟨_, z, _⟩ | ⟨z, _⟩ | ⟨z, _⟩
          · exact z
          · rw [hk] at z; exact absurd z (by decide)
          · rcases z with z | z | z <;> rw [hk] at z <;> exact absurd z (by decide)
        exact ((((h.nt (h16 hl)).up (hpp hl)).up rfl).nt rfl).settle
      · split
        · rename_i hk
          have hl : p.2.1 < 16 := by
            rcases hp with ⟨_, z, _⟩ | ⟨z, _⟩ | ⟨z, _⟩
            · exact z
            · rw [hk] at z; exact absurd z (by decide)
            · rcases z with z | z | z <;> rw [hk] at z <;> exact absurd z (by decide)
          exact (((h.up rfl).up rfl).nt (h16 hl)).settle
        · split
          · exact h.ticks _
          · split
            · exact h.nap _
            · split
              · exact h.wake _
              · exact h.ref _
theorem eqx.can {r1 r2 : Nat → Int32} (h : eqx r1 r2) {p : PartT} (hp : pOK p) : canP r1 p = canP r2 p := by
  have hl : p.2.1 < 16 ∨ p.1 = 116 := by
    rcases hp with ⟨_, z, _⟩ | ⟨z, _⟩ | ⟨_, z⟩
    · exact Or.inl z
    · exact Or.inr z
    · left; omega
  have h3 : (p.1 = 122 ∨ p.1 = 119) → p.2.1 < 3 := fun q => by
    rcases hp with ⟨z, _, _⟩ | ⟨z, _⟩ | ⟨_, z⟩
    · rcases z with z | z | z | z <;> rw [z] at q <;> rcases q with q | q <;> exact absurd q (by decide)
    · rw [z] at q; rcases q with q | q <;> exact absurd q (by decide)
    · exact z
  unfold canP
  by_cases k1 : p.1 = 105
  · rw [if_pos k1, if_pos k1, h _ (by rcases hl with z | z; omega; rw [z] at k1; exact absurd k1 (by decide))]
  · rw [if_neg k1, if_neg k1]
    by_cases k2 : p.1 = 103 ∨ p.1 = 117 ∨ p.1 = 120
    · rw [if_pos k2, if_pos k2, h _ (by rcases hl with z | z; omega; rw [z] at k2; rcases k2 with k2 | k2 | k2 <;> exact absurd k2 (by decide))]
    · rw [if_neg k2, if_neg k2]
      by_cases k3 : p.1 = 122
      · rw [if_pos k3, if_pos k3, h _ (by have := h3 (Or.inl k3); omega)]
      · rw [if_neg k3, if_neg k3]
        by_cases k4 : p.1 = 119
        · rw [if_pos k4, if_pos k4, h _ (by have := h3 (Or.inr k4); omega)]
        · rw [if_neg k4, if_neg k4]
theorem eqx_st (row : Nat → Int32) (x : Int32) : eqx (va_up row 183 x) row := fun k hk => va_up_ne _ _ hk
/-- the state behind a replay -/
def m_rpl (M : DT) (n : Nat) : DT := up2 (va_up (m_save (clr M)) 7 (va_up (rFin (M 12) n (M 7)).1 183 (if (rFin (M 12) n (M 7)).2.1 = 0 then -1 else (rFin (M 12) n (M 7)).2.2))) 6 9 0
def kRpl (M : DT) (n : Nat) : Int32 := if (pAll (M 12) n 62 0).1 = 1 then 0 else 1
theorem pAll_01 {f : Nat → Int32} {n : Nat} : ∀ (k a : Nat), (pAll f n k a).1 = 0 ∨ (pAll f n k a).1 = 1
  | 0, _ => Or.inl rfl
  | k + 1, a => by
    rw [pAll_s]
    split
    · split
      · split
        · exact pAll_01 k _
        · exact Or.inl rfl
      · exact Or.inr rfl
    · exact Or.inl rfl
