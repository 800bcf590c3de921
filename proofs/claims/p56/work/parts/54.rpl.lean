theorem settle_183 (row : Nat → Int32) : m_settle row 183 = row 183 := by
  unfold m_settle m_far m_farv
  rw [if_neg (by decide), rowT_out (by omega), rowT_out (by omega)]
theorem nt_183 (row : Nat → Int32) (a : Int32) : m_nt row a 183 = row 183 := by
  unfold m_nt
  rw [va_up_ne _ _ (by decide), va_up_ne _ _ (by omega)]
theorem wake_183 (row : Nat → Int32) (v : Nat) : m_wake row v 183 = row 183 := by
  unfold m_wake
  rw [plus_ne (by decide), rowT_out (by omega)]
theorem pt_183 (row : Nat → Int32) (v : Nat) (hv : v < 3) : m_pt row v 183 = row 183 := by
  unfold m_pt
  split
  · rfl
  · split
    · rw [plus_ne (by omega)]
    · rw [plus_ne (by omega), wake_183, plus_ne (by omega)]
theorem ticks_183 (row : Nat → Int32) : ∀ n, m_ticks row n 183 = row 183
  | 0 => rfl
  | n + 1 => by
    rw [← ticks_183 row n]
    show plus (m_pt (m_pt (m_pt (m_ticks row n) 0) 1) 2) 179 1 183 = _
    rw [plus_ne (by decide), pt_183 _ _ (by decide), pt_183 _ _ (by decide), pt_183 _ _ (by decide)]
theorem go_183 {row : Nat → Int32} {p : PartT} (hp : pOK p) : goP row p 183 = row 183 := by
  have h16 : (p.1 = 105 ∨ p.1 = 103 ∨ p.1 = 117 ∨ p.1 = 120) → p.2.1 < 16 := fun q => by
    rcases hp with ⟨_, z, _⟩ | ⟨z, _⟩ | ⟨z, _⟩
    · exact z
    · rw [z] at q; rcases q with q | q | q | q <;> exact absurd q (by decide)
    · rcases z with z | z | z <;> rw [z] at q <;> rcases q with q | q | q | q <;> exact absurd q (by decide)
  have h3 : (p.1 = 122 ∨ p.1 = 119) → p.2.1 < 3 := fun q => by
    rcases hp with ⟨z, _, _⟩ | ⟨z, _⟩ | ⟨_, z⟩
    · rcases z with z | z | z | z <;> rw [z] at q <;> rcases q with q | q <;> exact absurd q (by decide)
    · rw [z] at q; rcases q with q | q <;> exact absurd q (by decide)
    · exact z
  unfold goP
  by_cases k1 : p.1 = 105
  · have := h16 (Or.inl k1)
    rw [if_pos k1]
    unfold m_ins
    rw [settle_183, nt_183, va_up_ne _ _ (by omega), va_up_ne _ _ (by omega)]
  · rw [if_neg k1]
    by_cases k2 : p.1 = 103
    · have := h16 (Or.inr (Or.inl k2))
      rw [if_pos k2]
      unfold m_rep
      rw [settle_183, nt_183, va_up_ne _ _ (by omega), va_up_ne _ _ (by omega), nt_183]
    · rw [if_neg k2]
      by_cases k3 : p.1 = 117
      · have := h16 (Or.inr (Or.inr (Or.inl k3)))
        rw [if_pos k3]
        unfold m_rep
        rw [settle_183, nt_183, va_up_ne _ _ (by omega), va_up_ne _ _ (by omega), nt_183]
      · rw [if_neg k3]
        by_cases k4 : p.1 = 120
        · have := h16 (Or.inr (Or.inr (Or.inr k4)))
          rw [if_pos k4]
          unfold m_del
          rw [settle_183, nt_183, va_up_ne _ _ (by omega), va_up_ne _ _ (by omega)]
        · rw [if_neg k4]
          by_cases k5 : p.1 = 116
          · rw [if_pos k5, ticks_183]
          · rw [if_neg k5]
            by_cases k6 : p.1 = 122
            · have := h3 (Or.inl k6)
              rw [if_pos k6]
              unfold m_nap
              rw [va_up_ne _ _ (by omega), va_up_ne _ _ (by omega)]
            · rw [if_neg k6]
              by_cases k7 : p.1 = 119
              · rw [if_pos k7, wake_183]
              · rw [if_neg k7]
                unfold m_ref
                rw [plus_ne (by decide), rowT_out (by omega)]
theorem go_st {row : Nat → Int32} {x : Int32} {p : PartT} (hp : pOK p) : va_up (goP row p) 183 x = goP (va_up row 183 x) p := by
  funext k
  by_cases e : k = 183
  · subst e; rw [va_up_self, go_183 hp, va_up_self]
  · rw [va_up_ne _ _ e]; exact ((eqx_st row x).go hp k e).symm
theorem Rp_stop {D D2 : DT} {B : Nat} {x : Int32} {row : Nat → Int32} {G A : Nat → Nat → Int32} {wr : Nat} {nx : Nat → Nat} (h : Rp D B row G A wr nx) (hD : D2 = up2 D B 7 x) : Rp D2 B (va_up row 183 x) G A wr nx := by
  obtain ⟨h1, h2, h3, h4, h5, h6⟩ := h
  have eO : ∀ i, i ≠ B → D2 i = D i := fun i hi => by rw [hD, up2_ne _ _ _ hi]
  have eR : ∀ k, k ≠ 183 → va_up row 183 x k = row k := fun k hk => va_up_ne _ _ hk
  refine ⟨by rw [eO _ (by omega)]; exact h1, by rw [eR _ (by omega)]; exact h2, h3, fun p hp => by rw [eR _ (by omega), eR _ (by omega)]; exact h4 p hp, fun v hv => ?_, fun j a b => ?_⟩
  · obtain ⟨q1, q2, q3, q4, q5, q6, q7, q8, q9, q10, q11⟩ := h5 v hv
    refine ⟨by rw [eO _ (by omega)]; exact q1, by rw [eR _ (by omega)]; exact q2, q3, q4, fun k a b => by rw [eO _ (by omega), eR _ (by omega)]; exact q5 k a b, by rw [eO _ (by omega), eR _ (by omega)]; exact q6, by rw [eO _ (by omega), eR _ (by omega)]; exact q7, by rw [eR _ (by omega)]; exact q8, fun d a b => ?_, SV_cong q10 (fun i a b k _ => by rw [eO i (by omega)]) (by rw [eO _ (by omega)]) (fun _ _ => rfl) (fun _ _ _ => rfl), fun p hp => by rw [eR _ (by omega), eR _ (by omega)]; exact q11 p hp⟩
    obtain ⟨z1, z2⟩ := q9 d a b
    exact ⟨LSt_cong z1 (by rw [eO _ (by omega)]) (by rw [eO _ (by omega)]) (by rw [eO _ (by omega)]) rfl rfl rfl rfl, by rw [eO _ (by omega), eR _ (by omega)]; exact z2⟩
  · by_cases e : j = 7
    · subst e; rw [hD, up2_self, va_up_self]
    · rw [eR _ (by omega), hD, up2_nk _ _ _ e]; exact h6 j a b
theorem SB_stop {D : DT} {B W : Nat} {x : Int32} {row : Nat → Int32} (h : SB D B row W) : SB (up2 D B 7 x) B (va_up row 183 x) W := by
  obtain ⟨G, A, wr, nx, hw, hR, hT, hI, hAM⟩ := h
  exact ⟨G, A, wr, nx, hw, Rp_stop hR rfl, TR_lo hT (up2_ne _ _ _ (by omega)) (up2_ne _ _ _ (by omega)) (fun k hk => va_up_ne _ _ (by omega)), TI_up hI (fun u hu => by omega) (by omega), AM_upo hAM (by omega)⟩
theorem RI_rpl {D D2 : DT} {P : PT} {M M2 : DT} {W W2 : Nat} (h : RI D P M W) (hW : W ≤ W2) (hn : SB D2 24 (M2 7) W2) (hD : ∀ i, i ≠ 2 → (i < 24 ∨ 63 ≤ i) → D2 i = D i) (h3 : M2 6 3 = M 6 3) (h5 : M2 6 5 = M 6 5) (h9 : M2 6 9 = 0) (hL : D2 2 1 = 0) (h8 : M2 8 = M 8) (h99 : M2 9 = M 9) : RI D2 P M2 W2 := by
  obtain ⟨a, ⟨s, b1, b2, b3, b4⟩, c, d, ⟨e1, e2, e3⟩, n, f1, f2, f3, f4⟩ := h
  refine ⟨hn, ⟨s, b1, h3.trans b2, by rw [hD 0 (by omega) (by omega)]; exact b3, fun j hj => ?_⟩, c, d, ⟨by rw [hD 0 (by omega) (by omega), h5]; exact e1, by rw [h5]; exact e2, fun z => ?_⟩, 0, by omega, h9, hL, fun k hk => absurd hk (by omega)⟩
  · have := sv_B (c j (by omega))
    rw [h8]
    exact (SB_cong (b4 j hj) (fun i x _ => hD i (by omega) (by omega)) (fun _ _ => rfl)).W hW
  · rw [h5] at z
    rw [h99]
    exact (SB_cong (e3 z) (fun i x _ => hD i (by omega) (by omega)) (fun _ _ => rfl)).W hW
/-- one part of a run -/
theorem rn_go {f : Nat → Int32} {n k b : Nat} {p : PartT} {row : Nat → Int32} {dn : Int32} (hc : canP row p = true) : rnA f n k (some p, b) row 0 dn = if k ≠ 0 ∧ b < n ∧ f b = 59 then rnA f n (k - 1) (pPart f n (b + 1)) (goP row p) 0 (dn + 1) else (goP row p, 0, dn + 1) := by
  have e1 : rR 1 0 row (some p) = goP row p := by unfold rR; rw [if_pos ⟨rfl, rfl⟩]; dsimp only; rw [if_pos hc]
  have e2 : fR 1 0 row (some p) = 0 := by unfold fR; rw [if_pos ⟨rfl, rfl⟩]; dsimp only; rw [if_pos hc]
  have e3 : dnI (some p) 0 dn = dn + 1 := by unfold dnI; rw [if_pos ⟨rfl, rfl⟩]
  cases k with
  | zero =>
    rw [if_neg (fun z => z.1 rfl)]
    show (rR 1 0 row (some p), fR 1 0 row (some p), dnI (some p) (fR 1 0 row (some p)) dn) = _
    rw [e1, e2, e3]
  | succ k =>
    rw [rnA_s]
    dsimp only
    rw [e1, e2, e3]
    by_cases z : b < n ∧ f b = 59
    · rw [if_pos ⟨rfl, z⟩, if_pos ⟨by omega, z⟩]; rfl
    · rw [if_neg (fun y => z y.2), if_neg (fun y => z y.2)]
theorem rn_no {f : Nat → Int32} {n k b : Nat} {p : PartT} {row : Nat → Int32} {dn : Int32} (hc : canP row p = false) : rnA f n k (some p, b) row 0 dn = (row, 1, dn) := by
  have e1 : rR 1 0 row (some p) = row := by unfold rR; rw [if_pos ⟨rfl, rfl⟩]; dsimp only; rw [if_neg (by rw [hc]; decide)]
  have e2 : fR 1 0 row (some p) = 1 := by unfold fR; rw [if_pos ⟨rfl, rfl⟩]; dsimp only; rw [if_neg (by rw [hc]; decide)]
  have e3 : dnI (some p) 1 dn = dn := dnI_1 _ _
  cases k with
  | zero =>
    show (rR 1 0 row (some p), fR 1 0 row (some p), dnI (some p) (fR 1 0 row (some p)) dn) = _
    rw [e1, e2, e3]
  | succ k =>
    rw [rnA_s]
    dsimp only
    rw [e1, e2, e3]
    split
    · exact rnA_1 k _ row dn
    · rfl
theorem pAll_st {f : Nat → Int32} {n k a b : Nat} {p : PartT} (hq : pPart f n a = (some p, b)) (h : (pAll f n (k + 1) a).1 = 1) : n ≤ b ∨ (b < n ∧ f b = 59 ∧ (pAll f n k (b + 1)).1 = 1) := by
  rw [pAll_s, hq, if_pos (okI_s p)] at h
  dsimp only at h
  by_cases e : b < n
  · rw [if_pos e] at h
    by_cases e2 : f b = 59
    · rw [if_pos e2] at h; exact Or.inr ⟨e, e2, h⟩
    · rw [if_neg e2] at h; exact absurd h (by show ¬ (0 : Int32) = 1; decide)
  · exact Or.inl (by omega)
theorem pAll_none {f : Nat → Int32} {n k a b : Nat} (hq : pPart f n a = (none, b)) (h : (pAll f n (k + 1) a).1 = 1) : False := by
  rw [pAll_s, hq, if_neg (by rw [okI_n]; decide)] at h
  exact absurd h (by show ¬ (0 : Int32) = 1; decide)
/-- where a run stands -/
def runM (f : Nat → Int32) (n : Nat) (row0 : Nat → Int32) (hh a k sb : Nat) (x : Int32) (r1 : Nat → Int32) : Prop :=
  (sb = 0 ∧ x = -1 ∧ ((a = n ∧ 0 < a ∧ rFin f n row0 = (r1, 0, nI hh)) ∨ ((a = 0 ∨ (a < n ∧ f a = 59)) ∧ n < (if a = 0 then 0 else a + 1) + k ∧ rFin f n row0 = rnA f n k (pPart f n (if a = 0 then 0 else a + 1)) r1 0 (nI hh) ∧ (pAll f n (k + 1) (if a = 0 then 0 else a + 1)).1 = 1))) ∨
  (sb = 1 ∧ x = nI hh ∧ rFin f n row0 = (r1, 1, nI hh))
theorem runM_next {f : Nat → Int32} {n hh a k sb a2 : Nat} {x : Int32} {row0 r1 : Nat → Int32} (h : runM f n row0 hh a k sb x r1) (hx : x = -1) (hh30 : hh ≤ 30) (hC : a = 0 ∨ hr f n a = 59) (ea : a2 = if a = 0 then 0 else a + 1) (hn : 0 < n ∨ True) : n < a2 + k ∧ rFin f n row0 = rnA f n k (pPart f n a2) r1 0 (nI hh) ∧ (pAll f n (k + 1) a2).1 = 1 ∧ sb = 0 := by
  subst ea
  rcases h with ⟨hs, -, ⟨z1, z2, z3⟩ | ⟨z1, z2, z3, z4⟩⟩ | ⟨hs, z1, -⟩
  · rcases hC with c | c
    · omega
    · rw [hr_out (by omega)] at c
      exact absurd c (by decide)
  · exact ⟨z2, z3, z4, hs⟩
  · rw [hx] at z1
    exact absurd z1.symm (nI_m9 (by omega))
theorem runM_fin {f : Nat → Int32} {n hh a k sb : Nat} {x : Int32} {row0 r1 : Nat → Int32} (h : runM f n row0 hh a k sb x r1) (hx : x = -1) (hh30 : hh ≤ 30) (hC : ¬ (a = 0 ∨ hr f n a = 59)) : rFin f n row0 = (r1, 0, nI hh) := by
  rcases h with ⟨hs, -, ⟨z1, z2, z3⟩ | ⟨z1, z2, z3, z4⟩⟩ | ⟨hs, z1, -⟩
  · exact z3
  · exfalso
    apply hC
    rcases z1 with c | ⟨c, c2⟩
    · exact Or.inl c
    · exact Or.inr (by rw [hr_in c]; exact c2)
  · rw [hx] at z1
    exact absurd z1.symm (nI_m9 (by omega))
theorem runM_stop {f : Nat → Int32} {n hh a k sb : Nat} {x : Int32} {row0 r1 : Nat → Int32} (h : runM f n row0 hh a k sb x r1) (hx : ¬ x = -1) : rFin f n row0 = (r1, 1, nI hh) ∧ x = nI hh := by
  rcases h with ⟨hs, z, _⟩ | ⟨hs, z1, z2⟩
  · exact absurd z hx
  · exact ⟨z2, z1⟩
theorem runM_go {f : Nat → Int32} {n hh k a2 b : Nat} {row0 r1 : Nat → Int32} {p : PartT} (hb : b ≤ n) (hab : a2 < b) (hq : pPart f n a2 = (some p, b)) (h1 : n < a2 + k) (h2 : rFin f n row0 = rnA f n k (pPart f n a2) r1 0 (nI hh)) (h3 : (pAll f n (k + 1) a2).1 = 1) (hc : canP r1 p = true) : runM f n row0 (hh + 1) b (k - 1) 0 (-1) (goP r1 p) := by
  rw [hq, rn_go hc, nI_1] at h2
  refine Or.inl ⟨rfl, rfl, ?_⟩
  rcases pAll_st hq h3 with z | ⟨z1, z2, z3⟩
  · rw [if_neg (by omega)] at h2
    exact Or.inl ⟨by omega, by omega, h2⟩
  · rw [if_pos ⟨by omega, z1, z2⟩] at h2
    refine Or.inr ⟨Or.inr ⟨z1, z2⟩, ?_⟩
    rw [if_neg (by omega), show k - 1 + 1 = k by omega]
    exact ⟨by omega, h2, z3⟩
theorem runM_no {f : Nat → Int32} {n hh k a2 b a : Nat} {row0 r1 : Nat → Int32} {p : PartT} (hq : pPart f n a2 = (some p, b)) (h2 : rFin f n row0 = rnA f n k (pPart f n a2) r1 0 (nI hh)) (hc : canP r1 p = false) : runM f n row0 hh a k 1 (nI hh) r1 := by
  rw [hq, rn_no hc] at h2
  exact Or.inr ⟨rfl, rfl, h2⟩
