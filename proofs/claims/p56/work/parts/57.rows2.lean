/-! calls between nest mates, the bits of doubles -/
theorem gi_ws {w0 : Cond} {y : MethodName} {bytes : ByteArray} {maxL : Nat} {ret : Option FieldType} (h : Cond.code y bytes maxL ret ∈ AW) : GoodIn (w0 :: AW) (.code y bytes maxL ret :: AW) := gi_AW fun w hw => by
  rcases List.mem_cons.mp hw with rfl | hw
  · exact h
  · exact hw
section Calls2
variable {K : KT} {X : XT} {cc : ByteArray} {own : String} {w0 : Cond} {nL : Nat} {rt : Option FieldType} {Q : State → Prop} {ce sl pc q mc ms index maxL n : Nat} {lv : List (Option Value)} {st rest As : List Value} {D : DT} {P : PT} {y : MethodName} {bytes : ByteArray} {ret : Option FieldType} {rm : Room} {l : Launch}
theorem pv_nestSl {host : String} {post : Int64 → DT → PT → Prop} (C : CX K X cc own w0 nL rt) (hKl : K.2.1 = l) (hM : CG l X y (.code y bytes maxL ret :: AW) rm As (qL X post) D P mc ms) (hN : va_Nw (.methodLinkNest own index y host) K.s) (M : MS y bytes maxL ret n) (hrm : rm.cells = mc ∧ rm.slots = ms) (hR : rm.frames + 1 ≤ K.R.frames ∧ 8 + (maxL + 11) + rm.locals ≤ K.R.locals) (hcs : ce + mc ≤ K.R.cells ∧ sl + ms ≤ K.R.slots) (hn : As.length = n) (hlv : lv.length = nL) (hst : st = As.reverse ++ rest) (hsum : (rest.map fun v => v.category).sum ≤ 8) (d : decode cc pc = .ok (.invokestatic index, 3)) (hq : pc + 3 = q) (k : ∀ (r : Int64) (D' : DT) (P' : PT), post r D' P' → PV K X Q (ce + mc) (sl + ms) q lv (.long r :: rest) D' P') : PV K X Q ce sl pc lv st D P := by
  subst hq; subst hst; subst hKl; intro H locs ls hP hS hl
  exact va_calll (va_runSN (As := As) (rest := rest) (nL := nL) ⟨C.hx, C.hb, C.hn, C.hown, C.hts⟩ (hM H.size) ⟨va_cnB n C.hts (gi_ws M.2.2.1) rfl hrm.1 hrm.2 hN (C.aw M.2.1) ⟨M.2.2.2.1.1, M.2.2.2.1.2, M.2.2.2.2⟩ hR, C.aw M.1, trivial⟩ ⟨pb_blind, fun U hU hW => ⟨rfl, by rw [hU], by rw [hU]; exact hP, va_K.moved hW.alike C.hK, C.hI⟩⟩ rfl hn (hl.1.trans hlv) rfl (lv_room hsum) d hcs) hS (fun q _ h => gA_mono hS.1 h) (fun q h => gA_mono hS.1 h) (fun r u t H1 locs1 ht hvm hw hB hz hk hS1 => k r u.1 u.2 hw H1 locs1 ls (ht ▸ hB.1) hS1 hl)
end Calls2
/-- a share -/
def shO (x : UInt64) : Prop := x = 0 ∨ ∃ c q, shz c q ∧ x = eb c q
theorem dcmp_self {c : Nat} {q : Int} (h : nz c q) : FP.dcmp (eb c q) (eb c q) = some .eq := by
  show FP.Core.order (FP.Core.decode B64 (eb c q).toNat) (FP.Core.decode B64 (eb c q).toNat) = _
  rw [dec_eb h]
  show some (compare (FP.Core.signed false (FP.Core.inUnits c q (min q q))) (FP.Core.signed false (FP.Core.inUnits c q (min q q)))) = _
  exact congrArg some (by simp)
theorem dcmp_sh {x : UInt64} (h : shO x) : FP.dcmp x x = some .eq := by
  rcases h with rfl | ⟨c, q, hz, rfl⟩
  · decide +kernel
  · exact dcmp_self hz.1
def bsum (row : Nat → Int32) : Nat → Int32
  | 0 => 0
  | v + 1 => bsum row v + wt row v
def shr (row : Nat → Int32) : UInt64 := if row 178 = 0 then 0 else FP.ddiv (FP.i2d (wt row 0 + wt row 1 + wt row 2)) (FP.i2d (3 * row 178))
theorem bsum_3 (row : Nat → Int32) : bsum row 3 = wt row 0 + wt row 1 + wt row 2 := by
  show 0 + wt row 0 + wt row 1 + wt row 2 = _
  rw [Int32.zero_add]
/-- deltas and what waits, as whole numbers -/
def shK (row : Nat → Int32) : Prop := ∃ wr s, row 178 = nI wr ∧ wr < 2 ^ 29 ∧ wt row 0 + wt row 1 + wt row 2 = nI s ∧ s ≤ 3 * wr
theorem Rp_shK {D : DT} {B : Nat} {row : Nat → Int32} {G A : Nat → Nat → Int32} {wr : Nat} {nx : Nat → Nat} (h : Rp D B row G A wr nx) : shK row := by
  have hw : ∀ v, v < 3 → wt row v = nI (wr - nx v) := fun v hv => by
    obtain ⟨q1, q2, q3, -⟩ := h.2.2.2.2.1 v hv
    unfold wt
    rw [h.2.1, q2, pk_sub q3]
  exact ⟨wr, (wr - nx 0) + (wr - nx 1) + (wr - nx 2), h.2.1, h.2.2.1, by rw [hw 0 (by decide), hw 1 (by decide), hw 2 (by decide), nI_add, nI_add], by omega⟩
theorem sh_div {a b : Nat} (hab : a ≤ b) (hb0 : 0 < b) (hb : b < 2 ^ 31) : shO (FP.ddiv (FP.i2d (nI a)) (FP.i2d (nI b))) ∧ vf_n64 (FP.ddiv (FP.i2d (nI a)) (FP.i2d (nI b))) := by
  rcases Nat.eq_zero_or_pos a with e | e
  · subst e
    rw [ddiv_0 hb0 hb]
    exact ⟨Or.inl rfl, vf_0⟩
  · obtain ⟨c, q, e1, e2⟩ := ddiv_v e hab hb
    rw [e1]
    exact ⟨Or.inr ⟨c, q, e2, rfl⟩, vf_eb e2.1⟩
theorem shr_O {row : Nat → Int32} (h : shK row) : shO (shr row) := by
  obtain ⟨wr, s, h1, h2, h3, h4⟩ := h
  unfold shr
  rw [h1, h3]
  by_cases e : nI wr = 0
  · rw [if_pos e]; exact Or.inl rfl
  · have hw : 0 < wr := Nat.pos_of_ne_zero (fun z => e (by rw [z]; rfl))
    rw [if_neg e, show (3 : Int32) * nI wr = nI (3 * wr) from pk_mul 3 wr]
    exact (sh_div h4 (by omega) (by omega)).1
theorem shr_vf {row : Nat → Int32} (h : shK row) (hz : ¬ row 178 = 0) : vf_n64 (FP.ddiv (FP.i2d (wt row 0 + wt row 1 + wt row 2)) (FP.i2d (3 * row 178))) := by
  obtain ⟨wr, s, h1, h2, h3, h4⟩ := h
  rw [h1] at hz
  have hw : 0 < wr := Nat.pos_of_ne_zero (fun z => hz (by rw [z]; rfl))
  rw [h1, h3, show (3 : Int32) * nI wr = nI (3 * wr) from pk_mul 3 wr]
  exact (sh_div h4 (by omega) (by omega)).2
theorem shr_mul {row : Nat → Int32} (h : shK row) (hz : ¬ row 178 = 0) : FP.dmul 4613937818241073152 (FP.i2d (row 178)) = FP.i2d (3 * row 178) ∧ vf_n64 (FP.dmul 4613937818241073152 (FP.i2d (row 178))) := by
  obtain ⟨wr, s, h1, h2, h3, h4⟩ := h
  rw [h1] at hz
  have hw : 0 < wr := Nat.pos_of_ne_zero (fun z => hz (by rw [z]; rfl))
  have e := mul3 hw h2
  rw [h1, show (3 : Int32) * nI wr = nI (3 * wr) from pk_mul 3 wr]
  refine ⟨e, ?_⟩
  rw [show FP.dmul 4613937818241073152 (FP.i2d (nI wr)) = FP.i2d (nI (3 * wr)) from e, i2d_v (m := 3 * wr) (by omega) (by omega)]
  exact vf_eb (nz_i (by omega) (by omega))
/-! the digest -/
def dN (row : Nat → Int32) (st : Int32) : Int64 := hmx (hmx (hmx (hmx (hmx (hmx (hmx (hmx 4373 (nI (tk row)).toInt64) (row 178).toInt64) (row 179).toInt64) (row 180).toInt64) (row 181).toInt64) (row 182).toInt64) (lgd row 3).toInt64) st.toInt64
def dP (row : Nat → Int32) (h : Int64) : Nat → Int64
  | 0 => h
  | p + 1 => if row p = 0 then hmx (dP row h p) 1 else hmx (hmx (hmx (dP row h p) 0) (row p - 1).toInt64) (row (16 + p)).toInt64
noncomputable def dV (row : Nat → Int32) (h : Int64) : Nat → Int64
  | 0 => h
  | v + 1 => vH (dV row h v) row v 4
def dS (row : Nat → Int32) (h : Int64) : Int64 := if row 183 = -1 then hmx h 0 else hmx (hmx h 1) (row 183).toInt64
def dT (f : Nat → Int32) (h : Int64) : Nat → Int64
  | 0 => h
  | k + 1 => hmx (dT f h k) (f k).toInt64
noncomputable def dgs (row f : Nat → Int32) (n : Nat) (st : Int32) : Int64 := dT f (hmx (hmx (dS row (dV row (dP row (dN row st) 16) 3)) (shr row).toInt64) (nI n).toInt64) n
theorem dT_cong {f g : Nat → Int32} (h : Int64) : ∀ {n : Nat}, (∀ k, k < n → f k = g k) → dT f h n = dT g h n
  | 0, _ => rfl
  | n + 1, hf => by
    show hmx (dT f h n) _ = hmx (dT g h n) _
    rw [dT_cong h (fun k hk => hf k (by omega)), hf n (by omega)]
theorem eb_bits {c : Nat} {q : Int} (h : nz c q) : (eb c q).toInt64 = Int64.ofNat (((q + 1074).toNat + 1) * 2 ^ 52 + (c - 2 ^ 52)) := by
  unfold eb
  rw [enc_v h]
  rfl
