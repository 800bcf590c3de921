/-! THE POOL: the whole heap of the law as one flat memory, by index -/
def NN : Nat := 297
def kv (r : Nat) : Nat := if r = 0 then 5 else if r = 1 then 10 else if r % 2 = 0 then 0 else 9
def ks (r : Nat) : Nat := if r = 0 then 3 else if r = 1 then 4 else if r < 4 then 9 else if r = 4 then 1 else if r < 8 then 14 else if r = 8 then 12 else kv ((r - 9) % 10)
def kd (i : Nat) : Nat := if i < 6 then [6, 11, 2, 8, 0, 9].getD i 99 else if i < 14 then 99 else if i < 24 then kv (i - 14) else if i < 297 then ks ((i - 24) % 39) else 99
/-- the length of an int array of a kind -/
def iln (k : Nat) : Option Nat := if k = 9 then some 16 else if k = 14 then some 64 else none
abbrev XT : Type := va_G × (Nat → ClassId) × (Nat → Nat)
abbrev DT : Type := Nat → Nat → Int32
abbrev PT : Type := (Nat → Nat) × Int64
def gcK (X : XT) (D : DT) (P : PT) (i : Nat) : Nat → va_E
  | 0 => .inr (0, [.ref (X.2.2 (i + 1)), .int (D i 1)])
  | 1 => .inr (1, [.ref (X.2.2 (i + 1)), .ref (X.2.2 (i + 2)), .ref (X.2.2 (i + 3)), .int (D i 3)])
  | 2 => .inr (2, [.ref (X.2.2 (i + 1)), .int (D i 1), .int (D i 2), .int (D i 3), .int (D i 4), .int (D i 5), .int (D i 6)])
  | 3 => .inr (3, [.ref (X.2.2 (i + 1)), .ref (X.2.2 (i + 4)), .ref (X.2.2 (i + 8)), .int (D i 3), .int (D i 4), .int (D i 5), .int (D i 6), .int (D i 7)])
  | 4 => .inr (4, [.ref (X.2.2 (i + 1)), .ref (X.2.2 (i + 2))])
  | 5 => .inr (5, [.ref (X.2.2 (i + 1)), .int (D i 1), .int (D i 2), .int (D i 3), .int (D i 4), .int (D i 5), .int (D i 6)])
  | 6 => .inr (6, [.ref (X.2.2 24), .ref (X.2.2 1), .int (D i 2), .ref (X.2.2 258), .int (D i 4), .ref (X.2.2 2), .ref (X.2.2 4), .ref (X.2.2 14)])
  | 8 => .inl (X.2.1 0, 60, .inl (D i))
  | 9 => .inl (X.2.1 1, 16, .inl (D i))
  | 10 => .inl (X.2.1 2, 4, .inr (.inr (.inr (.inr (fun j => some (X.2.2 (i + 1 + 2 * j)))))))
  | 11 => .inl (X.2.1 3, 5, .inr (.inr (.inr (.inr (fun j => some (X.2.2 (P.1 j)))))))
  | 12 => .inl (X.2.1 4, 3, .inr (.inr (.inr (.inr (fun j => some (X.2.2 (i + 1 + 10 * j)))))))
  | _ => .inl (X.2.1 1, 64, .inl (D i))
def gc (X : XT) (D : DT) (P : PT) (i : Nat) : va_E := gcK X D P i (kd i)
/-- the live places, and where they stand in the list -/
def Lv (i : Nat) : Prop := i < 6 ∨ (14 ≤ i ∧ i < NN)
def pl (i : Nat) : Nat := if i < 6 then i else i - 8
def lp (j : Nat) : Nat := if j < 6 then j else j + 8
def NP : Nat := 289
theorem lp_pl {i : Nat} (h : Lv i) : lp (pl i) = i := by
  unfold Lv NN at h
  unfold lp pl
  by_cases h6 : i < 6
  · rw [if_pos h6, if_pos h6]
  · rw [if_neg h6, if_neg (by omega)]; omega
theorem pl_lt {i : Nat} (h : Lv i) : pl i < NP := by
  unfold Lv NN at h
  unfold pl NP
  split <;> omega
theorem lp_lv {j : Nat} (h : j < NP) : Lv (lp j) := by
  unfold NP at h
  unfold Lv lp NN
  split <;> omega
theorem pl_lp (j : Nat) : pl (lp j) = j := by
  unfold lp pl
  by_cases h6 : j < 6
  · rw [if_pos h6, if_pos h6]
  · rw [if_neg h6, if_neg (by omega)]; omega
def gw (X : XT) (D : DT) (P : PT) : va_W := (List.range NP).map (fun j => (X.2.2 (lp j), gc X D P (lp j)))
def gt (X : XT) : List (ClassId × FieldType) := [(X.2.1 0, .char), (X.2.1 1, .int), (X.2.1 2, .object RX0), (X.2.1 3, .object RX3), (X.2.1 4, .object RX5)]
def gA (X : XT) (sz : Nat) : Nat → Prop := fun q => (∃ i : Nat, Lv i ∧ q = X.2.2 i) ∨ sz ≤ q
def gI (X : XT) : Prop := ∀ i j : Nat, Lv i → Lv j → X.2.2 i = X.2.2 j → i = j
def up2 (D : DT) (i k : Nat) (v : Int32) : DT := va_up D i (va_up (D i) k v)
theorem gw_len (X : XT) (D : DT) (P : PT) : (gw X D P).length = NP := by simp [gw]
theorem gw_j {X : XT} {D : DT} {P : PT} {j : Nat} (h : j < NP) : (gw X D P)[j]? = some (X.2.2 (lp j), gc X D P (lp j)) := by
  simp [gw, h]
theorem gw_at {X : XT} {D : DT} {P : PT} {i : Nat} (h : Lv i) : (gw X D P)[pl i]? = some (X.2.2 i, gc X D P i) := by
  rw [gw_j (pl_lt h), lp_pl h]
theorem gw_get {X : XT} {D : DT} {P : PT} {j : Nat} {q : Nat × va_E} (h : (gw X D P)[j]? = some q) : j < NP ∧ q = (X.2.2 (lp j), gc X D P (lp j)) := by
  have hl : j < NP := by
    have := (List.getElem?_eq_some_iff.mp h).1
    rwa [gw_len] at this
  rw [gw_j hl] at h
  exact ⟨hl, (Option.some.inj h).symm⟩
theorem gw_D {X : XT} (hI : gI X) (D : DT) (P : PT) (sz : Nat) : va_D (gA X sz) (gw X D P) := by
  refine ⟨fun i j p q hi hj he => ?_, fun k q hk => ?_⟩
  · obtain ⟨h1, rfl⟩ := gw_get hi
    obtain ⟨h2, rfl⟩ := gw_get hj
    have := hI _ _ (lp_lv h1) (lp_lv h2) he
    rw [← pl_lp i, ← pl_lp j, this]
  · obtain ⟨h1, rfl⟩ := gw_get hk
    exact Or.inl ⟨lp k, lp_lv h1, rfl⟩
theorem gw_set {X : XT} {D D' : DT} {P P' : PT} {i : Nat} (hi : Lv i) {e : va_E} (he : e = gc X D' P' i) (ho : ∀ j, Lv j → j ≠ i → gc X D' P' j = gc X D P j) : (gw X D P).set (pl i) (X.2.2 i, e) = gw X D' P' := by
  refine List.ext_getElem? fun k => ?_
  by_cases hk : k < NP
  · by_cases h : k = pl i
    · subst h
      rw [gw_at hi, List.getElem?_set_self (by rw [gw_len]; exact hk), he]
    · rw [gw_j hk, List.getElem?_set_ne (fun z => h z.symm), gw_j hk, ho (lp k) (lp_lv hk) (fun z => h (by rw [← z, pl_lp]))]
  · have l1 : ((gw X D P).set (pl i) (X.2.2 i, e)).length ≤ k := by rw [List.length_set, gw_len]; omega
    have l2 : (gw X D' P').length ≤ k := by rw [gw_len]; omega
    rw [List.getElem?_eq_none l1, List.getElem?_eq_none l2]
theorem up2_self (D : DT) (i k : Nat) (v : Int32) : up2 D i k v i k = v := by simp [up2, va_up]
theorem up2_row (D : DT) (i k : Nat) (v : Int32) : up2 D i k v i = va_up (D i) k v := by simp [up2, va_up]
theorem up2_ne (D : DT) {i j : Nat} (k : Nat) (v : Int32) (h : j ≠ i) : up2 D i k v j = D j := by simp [up2, va_up, h]
theorem up2_nk (D : DT) (i : Nat) {k l : Nat} (v : Int32) (h : l ≠ k) : up2 D i k v i l = D i l := by simp [up2, va_up, h]
theorem gc_ne {X : XT} {D : DT} {P : PT} {i j k : Nat} {v : Int32} (h : j ≠ i) : gc X (up2 D i k v) P j = gc X D P j := by
  unfold gc
  have e := up2_ne D k v h
  generalize kd j = z
  unfold gcK
  split <;> simp only [e]
theorem gc_neR {X : XT} {D : DT} {P : PT} {i j : Nat} {f : Nat → Int32} (h : j ≠ i) : gc X (va_up D i f) P j = gc X D P j := by
  unfold gc
  have e : va_up D i f j = D j := by simp [va_up, h]
  generalize kd j = z
  unfold gcK
  split <;> simp only [e]
theorem kd_lv {i k : Nat} (h : kd i = k) (hk : k < 99) : Lv i := by
  unfold kd at h
  unfold Lv NN
  split at h
  · omega
  · split at h
    · omega
    · split at h
      · omega
      · split at h
        · omega
        · omega
theorem kd_lt {i k : Nat} (h : kd i = k) (hk : k < 99) : i < NN := by
  have := kd_lv h hk
  unfold Lv at this
  unfold NN at *
  omega
/-! the fixed things of a walk -/
abbrev KT : Type := Program × Launch × Env × Room × State × MethodId × Array Value × List Frame × Method × Code
abbrev KT.R (K : KT) : Room := K.2.2.2.1
abbrev KT.s (K : KT) : State := K.2.2.2.2.1
abbrev KT.m (K : KT) : MethodId := K.2.2.2.2.2.1
abbrev KT.args (K : KT) : Array Value := K.2.2.2.2.2.2.1
abbrev KT.below (K : KT) : List Frame := K.2.2.2.2.2.2.2.1
abbrev KT.meth (K : KT) : Method := K.2.2.2.2.2.2.2.2.1
abbrev KT.c (K : KT) : Code := K.2.2.2.2.2.2.2.2.2
/-- the machine over the fixed things -/
def WK (K : KT) (H : Heap) (locs : List Loc) (ce sl : Nat) (Q : State → Prop) (g : JFrame) : Prop := W K.1 K.2.1 K.2.2.1 K.R K.s K.m K.args K.below K.meth K.c H locs ce sl Q g
/-- the strings that messages are -/
def strs : List (Nat × String) := [(74, "the place is not free"), (116, "the view naps"), (124, "the view is awake"), (158, "the ticks are not 1 to 30"), (165, "the code is not 33 to 126"), (170, "the buffer is full"), (182, "the buffer is not a complete log"), (194, "the latest replay did not stop"), (196, "there is no saved state"), (202, "there is no snapshot"), (387, "there is no such place"), (390, "there is no such group"), (392, "there is no such view"), (394, "the amount is not -99 to 99"), (396, "the bound is not 1 to 30"), (398, "the place is free"), (400, "the group has no amounts")]
def SR (s : State) : Prop := ∀ q ∈ strs, ∃ a : Nat, vk_R RX6 q.1 q.2 a s
def ZZ (X : XT) (sz : Nat) (U : State) (H : Heap) : Prop := vx_Zq Bundle.tN "UNASSIGNED_STACK" Bundle.steD (gA X sz) U H ∧ vx_Zq Bundle.tN "SUPPRESSED_SENTINEL" Bundle.listD (gA X sz) U H ∧ SR U
/-- what holds all through a walk -/
def CX (K : KT) (X : XT) (cc : ByteArray) (own : String) (w0 : Cond) (nL : Nat) (ret : Option FieldType) : Prop :=
  K.1.tables.exec = Jvm.exec ∧ K.c.code = cc ∧ K.s.vm.findClass own = some K.m.cls ∧ (∀ w ∈ w0 :: AW, w.before K.args K.s = true) ∧ va_K X.1 vwCl (gt X) K.s ∧ gI X ∧ K.c.maxLocals = nL ∧ K.meth.locks = false ∧ K.meth.sig.returnType = ret
section CXs
variable {K : KT} {X : XT} {cc : ByteArray} {own : String} {w0 : Cond} {nL : Nat} {ret : Option FieldType}
theorem CX.hx (C : CX K X cc own w0 nL ret) : K.1.tables.exec = Jvm.exec := C.1
theorem CX.hb (C : CX K X cc own w0 nL ret) : K.c.code = cc := C.2.1
theorem CX.hown (C : CX K X cc own w0 nL ret) : K.s.vm.findClass own = some K.m.cls := C.2.2.1
theorem CX.hts (C : CX K X cc own w0 nL ret) : ∀ w ∈ w0 :: AW, w.before K.args K.s = true := C.2.2.2.1
theorem CX.aw (C : CX K X cc own w0 nL ret) {w : Cond} (h : w ∈ AW) : w.before K.args K.s = true := C.hts w (List.mem_cons_of_mem _ h)
theorem CX.hK (C : CX K X cc own w0 nL ret) : va_K X.1 vwCl (gt X) K.s := C.2.2.2.2.1
theorem CX.hI (C : CX K X cc own w0 nL ret) : gI X := C.2.2.2.2.2.1
theorem CX.hn (C : CX K X cc own w0 nL ret) : K.c.maxLocals = nL := C.2.2.2.2.2.2.1
theorem CX.hlk (C : CX K X cc own w0 nL ret) : K.meth.locks = false := C.2.2.2.2.2.2.2.1
theorem CX.hr (C : CX K X cc own w0 nL ret) : K.meth.sig.returnType = ret := C.2.2.2.2.2.2.2.2
end CXs
/-! locals: a list, a place a slot -/
def lvA : Nat → List (Option Value) → List (Nat × Value)
  | _, [] => []
  | n, some v :: t => (n, v) :: lvA (n + 1) t
  | n, none :: t => lvA (n + 1) t
def lvh (ls : Array Slot) (lv : List (Option Value)) : Prop := lv_has ls lv.length (lvA 0 lv)
theorem lvA_mem : ∀ (lv : List (Option Value)) (n k : Nat) (v : Value), lv[k]? = some (some v) → (n + k, v) ∈ lvA n lv
  | [], n, k, v, h => by simp at h
  | none :: t, n, 0, v, h => by simp at h
  | some w :: t, n, 0, v, h => by
    simp only [List.getElem?_cons_zero, Option.some.injEq] at h
    subst h
    exact List.mem_cons_self
  | none :: t, n, k + 1, v, h => by
    rw [List.getElem?_cons_succ] at h
    have := lvA_mem t (n + 1) k v h
    rw [show n + 1 + k = n + (k + 1) by omega] at this
    exact this
  | some w :: t, n, k + 1, v, h => by
    rw [List.getElem?_cons_succ] at h
    have := lvA_mem t (n + 1) k v h
    rw [show n + 1 + k = n + (k + 1) by omega] at this
    exact List.mem_cons_of_mem _ this
theorem lvA_of : ∀ (lv : List (Option Value)) (n : Nat) (q : Nat × Value), q ∈ lvA n lv → ∃ k, q.1 = n + k ∧ lv[k]? = some (some q.2)
  | [], n, q, h => by simp [lvA] at h
  | none :: t, n, q, h => by
    obtain ⟨k, h1, h2⟩ := lvA_of t (n + 1) q h
    exact ⟨k + 1, by omega, by rw [List.getElem?_cons_succ]; exact h2⟩
  | some w :: t, n, q, h => by
    rcases List.mem_cons.mp h with rfl | h
    · exact ⟨0, rfl, rfl⟩
    · obtain ⟨k, h1, h2⟩ := lvA_of t (n + 1) q h
      exact ⟨k + 1, by omega, by rw [List.getElem?_cons_succ]; exact h2⟩
theorem lvh_at {ls : Array Slot} {lv : List (Option Value)} (h : lvh ls lv) {k : Nat} {v : Value} (hk : lv[k]? = some (some v)) : ls[k]? = some (.val v) := by
  have := h.2.2 (0 + k, v) (lvA_mem lv 0 k v hk)
  rwa [Nat.zero_add] at this
theorem lvh_mono {ls : Array Slot} {lv lv' : List (Option Value)} (h : lvh ls lv) (hl : lv'.length = lv.length) (hk : ∀ (k : Nat) (v : Value), lv'[k]? = some (some v) → lv[k]? = some (some v)) : lvh ls lv' := by
  refine ⟨by rw [h.1, hl], h.2.1, fun q hq => ?_⟩
  obtain ⟨k, h1, h2⟩ := lvA_of lv' 0 q hq
  rw [h1, Nat.zero_add]
  exact lvh_at h (hk k _ h2)
/-- no long or double stands right before the place -/
def lvok (lv : List (Option Value)) : Nat → Bool
  | 0 => true
  | j + 1 => match lv[j]? with
    | some (some v) => v.category == 1
    | _ => true
theorem lvh_st1 {ls : Array Slot} {lv : List (Option Value)} {i : Nat} {v : Value} (ho : lvok lv i = true) (h : lv_has ls lv.length ((i, v) :: (lvA 0 lv).filter (fun q => !(q.1 == i) && !(q.1 + 1 == i && q.2.category == 2)))) : lvh ls (lv.set i (some v)) := by
  refine ⟨by rw [List.length_set]; exact h.1, h.2.1, fun q hq => ?_⟩
  obtain ⟨k, h1, h2⟩ := lvA_of _ 0 q hq
  rw [Nat.zero_add] at h1
  by_cases hk : k = i
  · subst hk
    have hlen : k < lv.length := by
      have := (List.getElem?_eq_some_iff.mp h2).1
      simpa using this
    rw [List.getElem?_set_self hlen] at h2
    have hv : v = q.2 := Option.some.inj (Option.some.inj h2)
    rw [h1, ← hv]
    exact h.2.2 (k, v) List.mem_cons_self
  · rw [List.getElem?_set_ne (fun z => hk z.symm)] at h2
    have hm := lvA_mem lv 0 k q.2 h2
    rw [Nat.zero_add] at hm
    rw [h1]
    refine h.2.2 (k, q.2) (List.mem_cons_of_mem _ (List.mem_filter.mpr ⟨hm, ?_⟩))
    have h3 : ¬ (k + 1 = i ∧ q.2.category = 2) := by
      rintro ⟨rfl, hc⟩
      simp only [lvok, h2, beq_iff_eq] at ho
      omega
    simp only [Bool.and_eq_true, Bool.not_eq_true', beq_eq_false_iff_ne, ne_eq, Bool.and_eq_false_iff]
    refine ⟨hk, ?_⟩
    by_cases a : k + 1 = i
    · exact Or.inr (fun z => h3 ⟨a, z⟩)
    · exact Or.inl a
theorem lvh_st2 {ls : Array Slot} {lv : List (Option Value)} {i : Nat} {v : Value} (ho : lvok lv i = true) (h : lv_has ls lv.length ((i, v) :: (lvA 0 lv).filter (fun q => !(q.1 == i) && (!(q.1 == i + 1) && !(q.1 + 1 == i && q.2.category == 2))))) : lvh ls ((lv.set i (some v)).set (i + 1) none) := by
  refine ⟨by rw [List.length_set, List.length_set]; exact h.1, h.2.1, fun q hq => ?_⟩
  obtain ⟨k, h1, h2⟩ := lvA_of _ 0 q hq
  rw [Nat.zero_add] at h1
  have hlen : k < lv.length := by
    have := (List.getElem?_eq_some_iff.mp h2).1
    simpa using this
  by_cases hk1 : k = i + 1
  · subst hk1
    rw [List.getElem?_set_self (by simpa using hlen)] at h2
    cases h2
  rw [List.getElem?_set_ne (fun z => hk1 z.symm)] at h2
  by_cases hk : k = i
  · subst hk
    rw [List.getElem?_set_self hlen] at h2
    have hv : v = q.2 := Option.some.inj (Option.some.inj h2)
    rw [h1, ← hv]
    exact h.2.2 (k, v) List.mem_cons_self
  · rw [List.getElem?_set_ne (fun z => hk z.symm)] at h2
    have hm := lvA_mem lv 0 k q.2 h2
    rw [Nat.zero_add] at hm
    rw [h1]
    refine h.2.2 (k, q.2) (List.mem_cons_of_mem _ (List.mem_filter.mpr ⟨hm, ?_⟩))
    have h3 : ¬ (k + 1 = i ∧ q.2.category = 2) := by
      rintro ⟨rfl, hc⟩
      simp only [lvok, h2, beq_iff_eq] at ho
      omega
    simp only [Bool.and_eq_true, Bool.not_eq_true', beq_eq_false_iff_ne, ne_eq, Bool.and_eq_false_iff]
    refine ⟨hk, hk1, ?_⟩
    by_cases a : k + 1 = i
    · exact Or.inr (fun z => h3 ⟨a, z⟩)
    · exact Or.inl a
/-- a method's locals at its start -/
def lvX : List Value → List (Option Value)
  | [] => []
  | v :: t => if v.category = 2 then some v :: none :: lvX t else some v :: lvX t
def lvE (vs : List Value) (n : Nat) : List (Option Value) := lvX vs ++ List.replicate (n - (lvX vs).length) none
theorem lvX_mem : ∀ (vs : List Value) (n k : Nat) (v : Value), (lvX vs)[k]? = some (some v) → (n + k, v) ∈ lv_args n vs
  | [], n, k, v, h => by simp [lvX] at h
  | w :: t, n, k, v, h => by
    unfold lvX at h
    unfold lv_args
    by_cases hc : w.category = 2
    · rw [if_pos hc] at h ⊢
      match k, h with
      | 0, h =>
        simp only [List.getElem?_cons_zero, Option.some.injEq] at h
        subst h
        exact List.mem_cons_self
      | 1, h => simp at h
      | k + 2, h =>
        rw [List.getElem?_cons_succ, List.getElem?_cons_succ] at h
        have := lvX_mem t (n + 2) k v h
        rw [show n + 2 + k = n + (k + 2) by omega] at this
        exact List.mem_cons_of_mem _ this
    · rw [if_neg hc] at h ⊢
      match k, h with
      | 0, h =>
        simp only [List.getElem?_cons_zero, Option.some.injEq] at h
        subst h
        exact List.mem_cons_self
      | k + 1, h =>
        rw [List.getElem?_cons_succ] at h
        have := lvX_mem t (n + 1) k v h
        rw [show n + 1 + k = n + (k + 1) by omega] at this
        exact List.mem_cons_of_mem _ this
theorem lvX_len : ∀ vs : List Value, (lvX vs).length = (lg_sl vs).length
  | [] => by simp [lvX, lg_sl]
  | w :: t => by
    have ih := lvX_len t
    unfold lvX
    unfold lg_sl at ih ⊢
    by_cases hc : w.category = 2
    · simp [hc, ih]
    · simp [hc, ih]
theorem lvh_E {vs : List Value} {n : Nat} (h : (lvX vs).length ≤ n) : lvh ((lg_sl vs ++ List.replicate (n - (lg_sl vs).length) Slot.unset).toArray) (lvE vs n) := by
  have h0 := lv_entry vs (n := n) (by rw [← lvX_len]; exact h)
  refine ⟨by rw [h0.1]; simp only [lvE, List.length_append, List.length_replicate]; omega, h0.2.1, fun q hq => ?_⟩
  obtain ⟨k, h1, h2⟩ := lvA_of _ 0 q hq
  rw [Nat.zero_add] at h1
  rw [h1]
  unfold lvE at h2
  by_cases hk : k < (lvX vs).length
  · rw [List.getElem?_append_left hk] at h2
    have := lvX_mem vs 0 k q.2 h2
    rw [Nat.zero_add] at this
    exact h0.2.2 (k, q.2) this
  · rw [List.getElem?_append_right (by omega)] at h2
    rw [List.getElem?_replicate] at h2
    split at h2 <;> cases h2
