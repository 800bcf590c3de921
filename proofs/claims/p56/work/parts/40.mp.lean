theorem rg_kv {v : Int32} (h : kView v = 0) : ∃ k, k < 3 ∧ v = nI k := by
  unfold kView at h
  split at h
  · rename_i q; exact rg3 q
  · exact absurd h (by decide)
theorem rg_kr {row : Nat → Int32} {p : Int32} (h : kRow row p = 0) : ∃ k, k < 16 ∧ p = nI k ∧ ¬ row k = 0 := by
  unfold kRow at h
  split at h
  · rename_i q
    obtain ⟨k, hk, rfl⟩ := rg16 q
    rw [ix_n (by omega)] at h
    split at h
    · exact absurd h (by decide)
    · rename_i z; exact ⟨k, hk, rfl, z⟩
  · exact absurd h (by decide)
theorem up2_as (D : DT) (i k : Nat) (v : Int32) : up2 D i k v = va_up D i (va_up (D i) k v) := rfl
theorem lpA_stop {n k : Nat} {D : DT} (h : ¬ (D 6 11 = 1 ∧ ix (D 6 10) < n)) : lpA n k D = D := by
  cases k with
  | zero => rfl
  | succ k => exact if_neg h
theorem lpA_s {n k b : Nat} {D : DT} (hg : D 6 11 = 1) (ha : D 6 10 = nI b) (hb : b < n) (hn : n ≤ 60) : lpA n (k + 1) D = if D 12 b = 59 then lpA n k (dnU (pres (pd D (b + 1) 1) (pPart (D 12) n (b + 1)))) else dnU (pd D b 0) := by
  show (if D 6 11 = 1 ∧ ix (D 6 10) < n then _ else _) = _
  rw [if_pos ⟨hg, by rw [ha, ix_n (by omega)]; exact hb⟩, ha, ix_n (by omega)]
theorem txt_dn {D : DT} {n a : Nat} (h : txt D n a) : txt (dnU D) n a := ⟨by rw [dnU_k _ (by decide)]; exact h.1, h.2.1, by rw [dnU_k _ (by decide)]; exact h.2.2.1, h.2.2.2⟩
