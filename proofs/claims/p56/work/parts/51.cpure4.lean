/-- what a whole text is: good or not, and where its reader stops -/
def pAll (f : Nat → Int32) (n : Nat) : Nat → Nat → Int32 × Nat
  | 0, a => (0, a)
  | k + 1, a => if okI (pPart f n a).1 = 1 then (if (pPart f n a).2 < n then (if f (pPart f n a).2 = 59 then pAll f n k ((pPart f n a).2 + 1) else (0, (pPart f n a).2)) else (1, (pPart f n a).2)) else (0, (pPart f n a).2)
theorem pAll_s (f : Nat → Int32) (n k a : Nat) : pAll f n (k + 1) a = if okI (pPart f n a).1 = 1 then (if (pPart f n a).2 < n then (if f (pPart f n a).2 = 59 then pAll f n k ((pPart f n a).2 + 1) else (0, (pPart f n a).2)) else (1, (pPart f n a).2)) else (0, (pPart f n a).2) := rfl
theorem hr_cong {f g : Nat → Int32} {n : Nat} (h : ∀ k, k < n → f k = g k) (a : Nat) : hr f n a = hr g n a := by
  unfold hr
  by_cases e : a < n
  · rw [if_pos e, if_pos e, h a e]
  · rw [if_neg e, if_neg e]
theorem pPart_cong {f g : Nat → Int32} {n : Nat} (h : ∀ k, k < n → f k = g k) (a : Nat) : pPart f n a = pPart g n a := by
  have hh : hr f n = hr g n := funext (hr_cong h)
  have hd : dg f n = dg g n := by funext a; unfold dg; rw [hh]
  have hN : pN f n = pN g n := by funext a lo hi; unfold pN; rw [hd]
  have hA : pA f n = pA g n := by funext a; unfold pA; rw [hh, hN]
  have hG : pG f n = pG g n := by funext a; unfold pG; rw [hh]
  have hRw : pRow f n = pRow g n := by funext c a; unfold pRow; rw [hN, hG, hA, hh]
  unfold pPart
  rw [hh, hRw, hN]
theorem pAll_cong {f g : Nat → Int32} {n : Nat} (h : ∀ k, k < n → f k = g k) : ∀ (k a : Nat), pAll f n k a = pAll g n k a
  | 0, _ => rfl
  | k + 1, a => by
    rw [pAll_s, pAll_s, pPart_cong h a]
    by_cases e : (pPart g n a).2 < n
    · rw [h _ e, pAll_cong h k]
    · rw [if_neg e, if_neg e]
theorem okI_s (p : PartT) : okI (some p) = 1 := rfl
theorem okI_n : okI none = 0 := rfl
/-- what the reference's reader says of the whole text -/
theorem lpA_p {f : Nat → Int32} {n : Nat} (hn : n ≤ 60) : ∀ (k : Nat) (q : ResT) (E : DT), E 12 = f → E 6 10 = nI q.2 → E 6 11 = okI q.1 → q.2 ≤ n → (okI q.1 = 0 ∨ n < q.2 + k) →
    (lpA n k E) 6 11 = (if okI q.1 = 1 then (if q.2 < n then (if f q.2 = 59 then pAll f n k (q.2 + 1) else (0, q.2)) else (1, q.2)) else (0, q.2)).1 ∧ (lpA n k E) 6 10 = nI (if okI q.1 = 1 then (if q.2 < n then (if f q.2 = 59 then pAll f n k (q.2 + 1) else (0, q.2)) else (1, q.2)) else (0, q.2)).2
  | k, q, E, h12, h10, h11, hq, hk => by
    by_cases e0 : okI q.1 = 1
    · rw [if_pos e0]
      by_cases e1 : q.2 < n
      · rw [if_pos e1]
        obtain ⟨k2, rfl⟩ : ∃ k2, k = k2 + 1 := ⟨k - 1, by rcases hk with z | z; rw [e0] at z; exact absurd z (by decide); omega⟩
        rw [lpA_s (h11.trans e0) h10 e1 hn, h12]
        by_cases e2 : f q.2 = 59
        · rw [if_pos e2, if_pos e2, pAll_s]
          have ok := pPart_ok (f := f) (n := n) (a := q.2 + 1) (by omega)
          exact lpA_p hn k2 (pPart f n (q.2 + 1)) (dnU (pres (pd E (q.2 + 1) 1) (pPart f n (q.2 + 1)))) (by rw [dnU_o _ (by decide), pres_o _ _ (by decide) (by decide), pd_o _ _ _ (by decide), h12]) (by rw [dnU_k _ (by decide), pres_a]) (by rw [dnU_k _ (by decide), pres_g]) ok.1 (by
            rcases hk with z | z
            · rw [e0] at z; exact absurd z (by decide)
            · right; have := ok.2.1; omega)
        · rw [if_neg e2, if_neg e2, dnU_k _ (by decide), dnU_k _ (by decide), pd_g, pd_a]
          exact ⟨rfl, rfl⟩
      · rw [if_neg e1, lpA_stop (fun z => e1 (by have := z.2; rw [h10, ix_n (by omega)] at this; exact this)), h10, h11, e0]
        exact ⟨rfl, rfl⟩
    · have e00 : okI q.1 = 0 := (okI_01 q.1).resolve_right e0
      rw [if_neg e0, lpA_stop (fun z => e0 (by rw [← h11]; exact z.1)), h10, h11, e00]
      exact ⟨rfl, rfl⟩
theorem rdA_p {D : DT} {n : Nat} (d : Int32) (hn : n ≤ 60) : rdA D n d 6 11 = (pAll (D 12) n 62 0).1 ∧ rdA D n d 6 10 = nI (pAll (D 12) n 62 0).2 := by
  have io : ∀ i, i ≠ 6 → rdI D d i = D i := fun i hi => by unfold rdI; rw [up2_ne _ _ _ hi, up2_ne _ _ _ hi, up2_ne _ _ _ hi, pd_o _ _ _ hi]
  have ok := pPart_ok (f := D 12) (n := n) (a := 0) (by omega)
  rw [show pAll (D 12) n 62 0 = _ from pAll_s (D 12) n 61 0]
  exact lpA_p hn 61 (pPart (D 12) n 0) _ (by rw [dnU_o _ (by decide), pres_o _ _ (by decide) (by decide), io 12 (by decide)]) (by rw [dnU_k _ (by decide), pres_a]) (by rw [dnU_k _ (by decide), pres_g]) ok.1 (Or.inr (by omega))
/-- reading without doing leaves what is kept -/
theorem lpA_keep {n : Nat} : ∀ (k : Nat) (E : DT), (lpA n k E) 6 12 = E 6 12 ∧ (∀ j, j ≠ 10 → j ≠ 11 → j ≠ 13 → j ≠ 14 → (lpA n k E) 6 j = E 6 j) ∧ (∀ i, i ≠ 6 → i ≠ 7 → (lpA n k E) i = E i) ∧ (E 6 12 = 0 → (lpA n k E) 7 = E 7)
  | 0, E => ⟨rfl, fun _ _ _ _ _ => rfl, fun _ _ _ => rfl, fun _ => rfl⟩
  | k + 1, E => by
    have hu : lpA n (k + 1) E = if E 6 11 = 1 ∧ ix (E 6 10) < n then (if E 12 (ix (E 6 10)) = 59 then lpA n k (dnU (pres (pd E (ix (E 6 10) + 1) 1) (pPart (E 12) n (ix (E 6 10) + 1)))) else dnU (pd E (ix (E 6 10)) 0)) else E := rfl
    by_cases c1 : E 6 11 = 1 ∧ ix (E 6 10) < n
    · rw [if_pos c1] at hu
      by_cases c2 : E 12 (ix (E 6 10)) = 59
      · rw [if_pos c2] at hu
        rw [hu]
        obtain ⟨h1, h2, h3, h4⟩ := lpA_keep (n := n) k (dnU (pres (pd E (ix (E 6 10) + 1) 1) (pPart (E 12) n (ix (E 6 10) + 1))))
        have e12 : dnU (pres (pd E (ix (E 6 10) + 1) 1) (pPart (E 12) n (ix (E 6 10) + 1))) 6 12 = E 6 12 := by rw [dnU_k _ (by decide), pres_k _ _ (by decide) (by decide) (by decide), pd_k _ _ _ (by decide) (by decide)]
        refine ⟨h1.trans e12, fun j a b c d => ?_, fun i a b => ?_, fun z => ?_⟩
        · rw [h2 j a b c d, dnU_k _ d, pres_k _ _ a b c, pd_k _ _ _ a b]
        · rw [h3 i a b, dnU_o _ a, pres_o _ _ a b, pd_o _ _ _ a]
        · rw [h4 (e12.trans z), dnU_o _ (by decide), pres_7, pd_k _ _ _ (by decide) (by decide), z]
          unfold rR
          rw [if_neg (fun q => absurd q.1 (by decide)), pd_o _ _ _ (by decide)]
      · rw [if_neg c2] at hu
        rw [hu]
        refine ⟨by rw [dnU_k _ (by decide), pd_k _ _ _ (by decide) (by decide)], fun j a b c d => by rw [dnU_k _ d, pd_k _ _ _ a b], fun i a b => by rw [dnU_o _ a, pd_o _ _ _ a], fun _ => by rw [dnU_o _ (by decide), pd_o _ _ _ (by decide)]⟩
    · rw [if_neg c1] at hu
      rw [hu]
      exact ⟨rfl, fun _ _ _ _ _ => rfl, fun _ _ _ => rfl, fun _ => rfl⟩
theorem rdA_o {D : DT} {n : Nat} (d : Int32) : (∀ j, j < 10 → rdA D n d 6 j = D 6 j) ∧ (∀ i, i ≠ 6 → i ≠ 7 → rdA D n d i = D i) ∧ (d = 0 → rdA D n d 7 = D 7) := by
  have io : ∀ i, i ≠ 6 → rdI D d i = D i := fun i hi => by unfold rdI; rw [up2_ne _ _ _ hi, up2_ne _ _ _ hi, up2_ne _ _ _ hi, pd_o _ _ _ hi]
  have ik : ∀ j, j < 10 → rdI D d 6 j = D 6 j := fun j hj => by unfold rdI; rw [up2_nk _ _ _ (by omega), up2_nk _ _ _ (by omega), up2_nk _ _ _ (by omega), pd_k _ _ _ (by omega) (by omega)]
  have i12 : rdI D d 6 12 = d := by unfold rdI; rw [up2_nk _ _ _ (by decide), up2_nk _ _ _ (by decide), up2_self]
  obtain ⟨h1, h2, h3, h4⟩ := lpA_keep (n := n) 61 (dnU (pres (rdI D d) (pPart (D 12) n 0)))
  refine ⟨fun j hj => ?_, fun i a b => ?_, fun z => ?_⟩
  · exact (h2 j (by omega) (by omega) (by omega) (by omega)).trans (by rw [dnU_k _ (by omega), pres_k _ _ (by omega) (by omega) (by omega), ik j hj])
  · exact (h3 i a b).trans (by rw [dnU_o _ a, pres_o _ _ a b, io i a])
  · subst z
    refine (h4 (by rw [dnU_k _ (by decide), pres_k _ _ (by decide) (by decide) (by decide), i12])).trans ?_
    rw [dnU_o _ (by decide), pres_7, i12]
    unfold rR
    rw [if_neg (fun q => absurd q.1 (by decide)), io 7 (by decide)]
theorem rdA_Sx {D : DT} {n : Nat} : Sx D (rdA D n 0) := fun i k hn => by
  obtain ⟨h1, h2, h3⟩ := rdA_o (D := D) (n := n) 0
  by_cases e : i = 6
  · subst e; exact h1 k (by omega)
  · by_cases e7 : i = 7
    · subst e7; rw [h3 rfl]
    · rw [h2 i e e7]
/-- the amounts of parts that are read -/
theorem pPart_z {f : Nat → Int32} {n a : Nat} {p : PartT} (h : (pPart f n a).1 = some p) : (p.1 = 117 ∨ p.1 = 120 ∨ p.1 = 116 ∨ p.1 = 122 ∨ p.1 = 119 ∨ p.1 = 114 → p.2.2.1 = 0) ∧ (p.1 = 103 ∨ p.1 = 120 ∨ p.1 = 116 ∨ p.1 = 122 ∨ p.1 = 119 ∨ p.1 = 114 → p.2.2.2 = 0) := by
  have key : ∀ (k : Int32) (q : Nat), (some (k, q, (0 : Int32), (0 : Int32)) : Option PartT) = some p → p.2.2.1 = 0 ∧ p.2.2.2 = 0 := fun k q hz => by injection hz with hz; subst hz; exact ⟨rfl, rfl⟩
  unfold pPart at h
  split at h
  · unfold pRow at h
    split at h
    · cases h
    · split at h
      · split at h
        · cases h
        · split at h
          · cases h
          · injection h with h; subst h
            exact ⟨fun z => by dsimp only at z; rcases z with z | z | z | z | z | z <;> exact absurd z (by decide), fun z => by dsimp only at z; rcases z with z | z | z | z | z | z <;> exact absurd z (by decide)⟩
      · split at h
        · split at h
          · cases h
          · injection h with h; subst h
            exact ⟨fun z => by dsimp only at z; rcases z with z | z | z | z | z | z <;> exact absurd z (by decide), fun _ => rfl⟩
        · split at h
          · split at h
            · split at h
              · cases h
              · injection h with h; subst h
                exact ⟨fun _ => rfl, fun z => by dsimp only at z; rcases z with z | z | z | z | z | z <;> exact absurd z (by decide)⟩
            · cases h
          · have := key _ _ h
            exact ⟨fun _ => this.1, fun _ => this.2⟩
  · split at h
    · split at h
      · cases h
      · have := key _ _ h
        exact ⟨fun _ => this.1, fun _ => this.2⟩
    · split at h
      · split at h
        · cases h
        · have := key _ _ h
          exact ⟨fun _ => this.1, fun _ => this.2⟩
      · cases h
