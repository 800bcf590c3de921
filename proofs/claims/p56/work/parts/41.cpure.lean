/-! logs as texts: what the class reads -/
theorem k2 : kd 2 = 2 := rfl
theorem k3 : kd 3 = 8 := rfl
theorem nI_m9 {g : Nat} (h : g < 2 ^ 31) : ¬ nI g = -1 := by
  intro q
  have := congrArg Int32.toInt q
  rw [nI_toInt h] at this
  have e2 : (-1 : Int32).toInt = -1 := rfl
  omega
theorem rg_sub {x : Int32} {a b : Nat} {c : Int32} (hc : c = nI a) (ha : a < 1000) (hb : b < 1000) : rg (x - c) 0 (nI b) ↔ (c ≤ x ∧ x ≤ nI (a + b)) := by
  subst hc
  constructor
  · intro h
    obtain ⟨k, hk, e⟩ := rg_N b h (nI_toInt (by omega))
    have e2 : x = nI (a + k) := by
      have : x = x - nI a + nI a := by rw [Int32.sub_add_cancel]
      rw [this, e, nI_add, Nat.add_comm]
    subst e2
    exact ⟨nI_le (by omega) (by omega), nI_le (by omega) (by omega)⟩
  · rintro ⟨h1, h2⟩
    obtain ⟨k, hk, e⟩ := rg_N (a + b) (x := x) (hi := nI (a + b)) ⟨Int32.le_trans (nI_pos' (by omega)) h1, h2⟩ (nI_toInt (by omega))
    subst e
    have h3 := (nI_leI (by omega) (by omega)).mp h1
    rw [pk_sub h3]
    exact ⟨nI_pos' (by omega), nI_le (by omega) (by omega)⟩
theorem rg_dig (x : Int32) : rg (x - 48) 0 9 ↔ (48 ≤ x ∧ x ≤ 57) := rg_sub (a := 48) (b := 9) rfl (by decide) (by decide)
theorem rg_grp (x : Int32) : rg (x - 97) 0 3 ↔ (97 ≤ x ∧ x ≤ 100) := rg_sub (a := 97) (b := 3) rfl (by decide) (by decide)
def ctx (D : DT) (n a : Nat) : Prop := D 2 1 = nI n ∧ n ≤ 60 ∧ D 2 2 = nI a ∧ a ≤ n
theorem hr_in {f : Nat → Int32} {n a : Nat} (h : a < n) : hr f n a = f a := if_pos h
theorem hr_out {f : Nat → Int32} {n a : Nat} (h : n ≤ a) : hr f n a = -1 := if_neg (by omega)
/-- only the reader's fields have changed, and of them only those of ks -/
def cu (ks : List Nat) (D D' : DT) : Prop := (∀ i, i ≠ 2 → D' i = D i) ∧ ∀ k, k ∉ ks → D' 2 k = D 2 k
theorem cu_rf (ks : List Nat) (D : DT) : cu ks D D := ⟨fun _ _ => rfl, fun _ _ => rfl⟩
theorem cu.up {ks : List Nat} {D E : DT} (h : cu ks D E) {k : Nat} {x : Int32} (hk : k ∈ ks) : cu ks D (up2 E 2 k x) := ⟨fun i hi => by rw [up2_ne _ _ _ hi]; exact h.1 i hi, fun j hj => by
  rw [up2_nk _ _ _ (fun e => hj (by rw [e]; exact hk))]
  exact h.2 j hj⟩
theorem cu.mono {ks ks2 : List Nat} {D E : DT} (h : cu ks D E) (hs : ∀ k, k ∈ ks → k ∈ ks2) : cu ks2 D E := ⟨h.1, fun k hk => h.2 k (fun z => hk (hs k z))⟩
theorem cu.tr {ks : List Nat} {D E F : DT} (h : cu ks D E) (h2 : cu ks E F) : cu ks D F := ⟨fun i hi => (h2.1 i hi).trans (h.1 i hi), fun k hk => (h2.2 k hk).trans (h.2 k hk)⟩
theorem tbl_d {x : Int32} (h1 : ¬ x = 103) (h2 : ¬ x = 105) (h3 : ¬ x = 114) (h4 : ¬ x = 116) (h5 : ¬ x = 117) (h6 : ¬ x = 119) (h7 : ¬ x = 120) (h8 : ¬ x = 122) : (x.toInt < 103 ∨ 122 < x.toInt) ∨ (¬ x.toInt < 103 ∧ ¬ 122 < x.toInt ∧ (#[176, 262, 94, 262, 262, 262, 262, 262, 262, 262, 262, 245, 262, 227, 134, 262, 245, 209, 262, 245] : Array Int)[(x.toInt - 103).toNat]? = some 262) := by
  by_cases q : x.toInt < 103 ∨ 122 < x.toInt
  · exact Or.inl q
  · right
    refine ⟨fun z => q (Or.inl z), fun z => q (Or.inr z), ?_⟩
    have key : ∀ k, k < 20 → (k = 0 ∨ k = 2 ∨ k = 11 ∨ k = 13 ∨ k = 14 ∨ k = 16 ∨ k = 17 ∨ k = 19 ∨ (#[176, 262, 94, 262, 262, 262, 262, 262, 262, 262, 262, 245, 262, 227, 134, 262, 245, 209, 262, 245] : Array Int)[k]? = some 262) := by decide
    have t : ∀ c : Int32, ¬ x = c → x.toInt ≠ c.toInt := fun c hc z => hc (Int32.toInt_inj.mp z)
    have e1 := t _ h1
    have e2 := t _ h2
    have e3 := t _ h3
    have e4 := t _ h4
    have e5 := t _ h5
    have e6 := t _ h6
    have e7 := t _ h7
    have e8 := t _ h8
    rw [show (103 : Int32).toInt = 103 from rfl] at e1
    rw [show (105 : Int32).toInt = 105 from rfl] at e2
    rw [show (114 : Int32).toInt = 114 from rfl] at e3
    rw [show (116 : Int32).toInt = 116 from rfl] at e4
    rw [show (117 : Int32).toInt = 117 from rfl] at e5
    rw [show (119 : Int32).toInt = 119 from rfl] at e6
    rw [show (120 : Int32).toInt = 120 from rfl] at e7
    rw [show (122 : Int32).toInt = 122 from rfl] at e8
    rcases key (x.toInt - 103).toNat (by omega) with z | z | z | z | z | z | z | z | z
    all_goals first | exact z | omega
