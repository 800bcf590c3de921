/-! logs as texts: what the reference reads -/
def hr (f : Nat → Int32) (n at_ : Nat) : Int32 := if at_ < n then f at_ else -1
def dg (f : Nat → Int32) (n at_ : Nat) : Int32 := hr f n at_ - 48
theorem hr_lt {f : Nat → Int32} {n a : Nat} (h : ¬ hr f n a = -1) : a < n := by
  unfold hr at h
  split at h
  · assumption
  · exact absurd rfl h
theorem dg_lt {f : Nat → Int32} {n a d : Nat} (h : dg f n a = nI d) (hd : d < 10) : a < n := by
  refine hr_lt (f := f) fun e => ?_
  unfold dg at h
  rw [e] at h
  have := congrArg Int32.toInt h
  rw [nI_toInt (by omega)] at this
  have e2 : ((-1 : Int32) - 48).toInt = -49 := by decide
  omega
def pN (f : Nat → Int32) (n a lo hi : Nat) : Option (Nat × Nat) := if rg (dg f n a) (nI lo) 9 ∧ dg f n a ≤ nI hi then (if ¬ dg f n a = 0 ∧ rg (dg f n (a + 1)) 0 9 ∧ 10 * ix (dg f n a) + ix (dg f n (a + 1)) ≤ hi then some (10 * ix (dg f n a) + ix (dg f n (a + 1)), a + 1 + 1) else some (ix (dg f n a), a + 1)) else none
def pA (f : Nat → Int32) (n a : Nat) : Option Int32 × Nat := if hr f n a = 45 then (match pN f n (a + 1) 1 99 with | some q => (some (-(nI q.1)), q.2) | none => (none, a + 1)) else (match pN f n a 0 99 with | some q => (some (nI q.1), q.2) | none => (none, a))
def pG (f : Nat → Int32) (n a : Nat) : Option Int32 × Nat := if rg (hr f n a - 97) 0 3 then (some (hr f n a - 97), a + 1) else (none, a)
/-- a part: its kind, its number, its group, its amount -/
abbrev PartT : Type := Int32 × Nat × Int32 × Int32
abbrev ResT : Type := Option PartT × Nat
def pRow (f : Nat → Int32) (n : Nat) (c : Int32) (a : Nat) : ResT := match pN f n a 0 15 with
  | none => (none, a)
  | some q => if c = 105 then (match pG f n q.2 with
      | (none, b) => (none, b)
      | (some g, b) => (match pA f n b with
        | (none, e) => (none, e)
        | (some x, e) => (some (105, q.1, g, x), e)))
    else if c = 103 then (match pG f n q.2 with
      | (none, b) => (none, b)
      | (some g, b) => (some (103, q.1, g, 0), b))
    else if c = 117 then (if hr f n q.2 = 61 then (match pA f n (q.2 + 1) with
        | (none, e) => (none, e)
        | (some x, e) => (some (117, q.1, 0, x), e))
      else (none, q.2))
    else (some (120, q.1, 0, 0), q.2)
def pPart (f : Nat → Int32) (n a : Nat) : ResT := if hr f n a = 105 ∨ hr f n a = 117 ∨ hr f n a = 103 ∨ hr f n a = 120 then pRow f n (hr f n a) (a + 1)
  else if hr f n a = 116 then (match pN f n (a + 1) 1 30 with | none => (none, a + 1) | some q => (some (116, q.1, 0, 0), q.2))
  else if hr f n a = 122 ∨ hr f n a = 119 ∨ hr f n a = 114 then (match pN f n (a + 1) 0 2 with | none => (none, a + 1) | some q => (some (hr f n a, q.1, 0, 0), q.2))
  else (none, a)
def canP (row : Nat → Int32) (p : PartT) : Bool := if p.1 = 105 then decide (row p.2.1 = 0) else if p.1 = 103 ∨ p.1 = 117 ∨ p.1 = 120 then decide (¬ row p.2.1 = 0) else if p.1 = 122 then decide (¬ row (32 + 38 * p.2.1 + 32) = 1) else if p.1 = 119 then decide (row (32 + 38 * p.2.1 + 32) = 1) else true
def goP (row : Nat → Int32) (p : PartT) : Nat → Int32 := if p.1 = 105 then m_ins row p.2.1 p.2.2.1 p.2.2.2 else if p.1 = 103 then m_rep row p.2.1 (p.2.2.1 + 1) (row (16 + p.2.1)) else if p.1 = 117 then m_rep row p.2.1 (row p.2.1) p.2.2.2 else if p.1 = 120 then m_del row p.2.1 else if p.1 = 116 then m_ticks row p.2.1 else if p.1 = 122 then m_nap row p.2.1 else if p.1 = 119 then m_wake row p.2.1 else m_ref row p.2.1
def rR (d ft : Int32) (row : Nat → Int32) (o : Option PartT) : Nat → Int32 := if d = 1 ∧ ft = 0 then (match o with | none => row | some p => if canP row p = true then goP row p else row) else row
def fR (d ft : Int32) (row : Nat → Int32) (o : Option PartT) : Int32 := if d = 1 ∧ ft = 0 then (match o with | none => ft | some p => if canP row p = true then ft else 1) else ft
def okI (o : Option PartT) : Int32 := match o with | none => 0 | some _ => 1
def pd (D : DT) (a : Nat) (g : Int32) : DT := up2 (up2 D 6 11 g) 6 10 (nI a)
theorem pd_o (D : DT) (a : Nat) (g : Int32) {i : Nat} (h : i ≠ 6) : pd D a g i = D i := by
  unfold pd
  rw [up2_ne _ _ _ h, up2_ne _ _ _ h]
theorem pd_k (D : DT) (a : Nat) (g : Int32) {k : Nat} (h : k ≠ 10) (h2 : k ≠ 11) : pd D a g 6 k = D 6 k := by
  unfold pd
  rw [up2_nk _ _ _ h, up2_nk _ _ _ h2]
theorem pd_a (D : DT) (a : Nat) (g : Int32) : pd D a g 6 10 = nI a := by
  unfold pd
  rw [up2_self]
theorem pd_g (D : DT) (a : Nat) (g : Int32) : pd D a g 6 11 = g := by
  unfold pd
  rw [up2_nk _ _ _ (by decide), up2_self]
theorem DT_ext {D E : DT} (h1 : ∀ i, i ≠ 6 → D i = E i) (h2 : ∀ k, D 6 k = E 6 k) : D = E := by
  funext i
  by_cases e : i = 6
  · subst e; funext k; exact h2 k
  · exact h1 i e
theorem pd_pd (D : DT) (a b : Nat) (g g2 : Int32) : pd (pd D a g) b g2 = pd D b g2 := by
  refine DT_ext (fun i hi => by rw [pd_o _ _ _ hi, pd_o _ _ _ hi, pd_o _ _ _ hi]) (fun k => ?_)
  by_cases e : k = 10
  · subst e; rw [pd_a, pd_a]
  · by_cases e2 : k = 11
    · subst e2; rw [pd_g, pd_g]
    · rw [pd_k _ _ _ e e2, pd_k _ _ _ e e2, pd_k _ _ _ e e2]
theorem pd_10 (D : DT) (a b : Nat) (g : Int32) : up2 (pd D a g) 6 10 (nI b) = pd D b g := by
  refine DT_ext (fun i hi => by rw [up2_ne _ _ _ hi, pd_o _ _ _ hi, pd_o _ _ _ hi]) (fun k => ?_)
  by_cases e : k = 10
  · subst e; rw [up2_self, pd_a]
  · rw [up2_nk _ _ _ e]
    by_cases e2 : k = 11
    · subst e2; rw [pd_g, pd_g]
    · rw [pd_k _ _ _ e e2, pd_k _ _ _ e e2]
def txt (D : DT) (n a : Nat) : Prop := D 6 9 = nI n ∧ n ≤ 60 ∧ D 6 10 = nI a ∧ a ≤ n
theorem txt_pd {D : DT} {n a : Nat} (h : txt D n a) {b : Nat} (hb : b ≤ n) (g : Int32) : txt (pd D b g) n b := ⟨by rw [pd_k _ _ _ (by decide) (by decide)]; exact h.1, h.2.1, pd_a _ _ _, hb⟩
def pe (D : DT) (a : Nat) (g ft : Int32) (row : Nat → Int32) : DT := up2 (va_up (pd D a g) 7 row) 6 13 ft
def pres (D : DT) (q : ResT) : DT := pe D q.2 (okI q.1) (fR (D 6 12) (D 6 13) (D 7) q.1) (rR (D 6 12) (D 6 13) (D 7) q.1)
theorem pe_id (D : DT) (a : Nat) (g : Int32) : pe D a g (D 6 13) (D 7) = pd D a g := by
  unfold pe
  have e1 : va_up (pd D a g) 7 (D 7) = pd D a g := by
    have : pd D a g 7 = D 7 := pd_o _ _ _ (by decide)
    rw [← this, va_id]
  rw [e1]
  have e2 : pd D a g 6 13 = D 6 13 := pd_k _ _ _ (by decide) (by decide)
  unfold up2
  rw [← e2, va_id, va_id]
theorem pres_none {D : DT} {q : ResT} {a : Nat} (h : q = (none, a)) : pd D a 0 = pres D q := by
  subst h
  unfold pres fR rR
  simp only [ite_self, okI]
  exact (pe_id D a 0).symm
theorem pres_skip {D : DT} {q : ResT} {a : Nat} {p : PartT} (h : q = (some p, a)) (hn : ¬ (D 6 12 = 1 ∧ D 6 13 = 0)) : pd D a 1 = pres D q := by
  subst h
  unfold pres fR rR
  rw [if_neg hn, if_neg hn]
  exact (pe_id D a 1).symm
theorem pres_go {D : DT} {q : ResT} {a : Nat} {p : PartT} {row : Nat → Int32} (h : q = (some p, a)) (h1 : D 6 12 = 1) (h2 : D 6 13 = 0) (hc : canP (D 7) p = true) (hr : row = goP (D 7) p) : va_up (pd D a 1) 7 row = pres D q := by
  subst h hr
  unfold pres fR rR
  simp only [h1, h2, and_self, if_true, hc]
  unfold pe okI
  have e2 : va_up (pd D a 1) 7 (goP (D 7) p) 6 13 = 0 := by rw [va_up_ne _ _ (by decide), pd_k _ _ _ (by decide) (by decide), h2]
  unfold up2
  rw [← e2, va_id, va_id]
theorem pres_no {D : DT} {q : ResT} {a : Nat} {p : PartT} (h : q = (some p, a)) (h1 : D 6 12 = 1) (h2 : D 6 13 = 0) (hc : canP (D 7) p = false) : up2 (pd D a 1) 6 13 1 = pres D q := by
  subst h
  unfold pres fR rR
  simp only [h1, h2, and_self, if_true, hc, Bool.false_eq_true, if_false]
  unfold pe okI
  have e1 : va_up (pd D a 1) 7 (D 7) = pd D a 1 := by
    have : pd D a 1 7 = D 7 := pd_o _ _ _ (by decide)
    rw [← this, va_id]
  rw [e1]
def dnU (D : DT) : DT := up2 D 6 14 (D 6 14 + (if D 6 11 = 1 ∧ D 6 13 = 0 then 1 else 0))
def lpA (n : Nat) : Nat → DT → DT
  | 0, D => D
  | k + 1, D => if D 6 11 = 1 ∧ ix (D 6 10) < n then (if D 12 (ix (D 6 10)) = 59 then lpA n k (dnU (pres (pd D (ix (D 6 10) + 1) 1) (pPart (D 12) n (ix (D 6 10) + 1)))) else dnU (pd D (ix (D 6 10)) 0)) else D
def rdI (D : DT) (d : Int32) : DT := up2 (up2 (up2 (pd D 0 1) 6 12 d) 6 13 0) 6 14 0
def rdA (D : DT) (n : Nat) (d : Int32) : DT := lpA n 61 (dnU (pres (rdI D d) (pPart (D 12) n 0)))
