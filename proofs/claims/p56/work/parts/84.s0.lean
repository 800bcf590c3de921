/-! the pool as it is made is told by the reference as it is made -/
theorem row0_lo : ∀ p, p < 32 → row0 p = 0 := by decide +kernel
theorem row0_v : ∀ v, v < 3 → ∀ p, p < 34 → row0 (32 + 38 * v + p) = 0 := by decide +kernel
theorem row0_w : ∀ v, v < 3 → row0 (32 + 38 * v + 34) = -99 ∧ row0 (32 + 38 * v + 35) = 10 ∧ row0 (32 + 38 * v + 36) = 8 ∧ row0 (32 + 38 * v + 37) = 0 := by decide +kernel
theorem row0_hi : ∀ p, p < 37 → row0 (146 + p) = 0 := by decide +kernel
theorem dk_v : ∀ v, v < 3 → dk (24 + 8 + 1 + 10 * v) = 1 := by decide +kernel
theorem dk_vg : ∀ v, v < 3 → ∀ g, g < 4 → dk (24 + 8 + 1 + 10 * v + 1 + 1 + 2 * g) = 0 := by decide +kernel
theorem tcn_none {am : Nat → Int32} {g : Nat} (hg : g < 4) (lo a : Int32) : ∀ n : Nat, tcn (fun _ => -1) am (nI g) lo a n = 0
  | 0 => rfl
  | n + 1 => by
    show tcn (fun _ => -1) am (nI g) lo a n + _ = 0
    rw [tcn_none hg lo a n, if_neg]
    simp only [decide_eq_true_eq]
    exact fun z => nI_m9 (by omega) z.1.symm
theorem SB_0 : SB D0 24 row0 0 := by
  refine ⟨fun _ _ => -1, fun _ _ => 0, 0, fun _ => 0, Nat.le_refl _, ⟨?_, ?_, by decide, fun p hp => ⟨by rw [row0_lo p (by omega)]; show (-1 : Int32) = 0 - 1; decide, fun z => absurd (row0_lo p (by omega)) z, 0, by decide, row0_lo p (by omega)⟩, fun v hv => ?_, fun j a b => ?_⟩, fun p hp => ⟨?_, fun z => absurd (row0_lo p (by omega)) z⟩, fun v hv => ?_, fun k hk => ?_⟩
  · rw [D0_of (show dk (24 + 4) = 0 by decide)]; rfl
  · exact row0_hi 32 (by decide)
  · obtain ⟨w1, w2, w3, w4⟩ := row0_w v hv
    have dv1 := D0_of (dk_v v hv)
    refine ⟨by rw [dv1]; rfl, w4, Nat.le_refl _, Nat.zero_le _, fun k a b => ?_, by rw [dv1, row0_v v hv 32 (by decide)]; rfl, by rw [dv1, row0_v v hv 33 (by decide)]; rfl, Or.inl (row0_v v hv 32 (by decide)), fun d a b => absurd b (by omega), fun g hg => ⟨0, by decide, by rw [D0_of (dk_vg v hv g hg)]; rfl, fun i j a b => absurd b (by omega), fun a => ?_⟩, fun p hp => ⟨?_, fun z => absurd (row0_v v hv p (by omega)) z⟩⟩
    · rw [dv1]
      rcases (show k = 1 ∨ k = 2 ∨ k = 3 by omega) with e | e | e <;> subst e
      · exact w1.symm
      · exact w2.symm
      · exact w3.symm
    · show cn _ 0 a = tcn (fun _ => -1) (fun _ => 0) (nI g) _ a 16
      rw [tcn_none hg]; rfl
    · rw [row0_v v hv p (by omega)]; show (0 : Int32) = -1 + 1; decide
  · rw [D0_of (show dk 24 = 2 by decide)]
    rcases (show j = 3 ∨ j = 4 ∨ j = 5 ∨ j = 6 ∨ j = 7 by omega) with e | e | e | e | e <;> subst e <;> rfl
  · rw [D0_of (show dk (24 + 1 + 1) = 3 by decide), row0_lo p (by omega)]; rfl
  · obtain ⟨w1, w2, w3, w4⟩ := row0_w v hv
    refine ⟨⟨10, by decide, by decide, w2⟩, ?_, fun _ => ?_⟩
    · unfold wt
      rw [w2, w4, row0_hi 32 (by decide)]
      decide
    · rw [w4]; exact (row0_hi 32 (by decide)).symm
  · have e : row0 k = 0 := by
      rcases hk with ⟨a, b⟩ | ⟨a, b⟩
      · exact row0_lo k b
      · obtain ⟨p, rfl⟩ : ∃ p, k = 146 + p := ⟨k - 146, by omega⟩
        exact row0_hi p (by omega)
    rw [e]
    decide
theorem RI_0 : RI D0 P0 D0 0 := by
  have e7 : D0 7 = row0 := D0_of (i := 7) (k := 4) (by decide)
  have e6 : D0 6 = fun _ => 0 := D0_of (i := 6) (k := 0) (by decide)
  have e0 : D0 0 = fun _ => 0 := D0_of (i := 0) (k := 0) (by decide)
  have e2 : D0 2 = fun _ => 0 := D0_of (i := 2) (k := 0) (by decide)
  refine ⟨by rw [e7]; exact SB_0, ⟨0, by decide, by rw [e6]; rfl, by rw [e0]; rfl, fun j hj => absurd hj (by omega)⟩, fun j hj => ?_, fun i j hi hj e => ?_, ⟨by rw [e0, e6], by rw [e6]; exact Or.inl rfl, fun z => by rw [e6] at z; exact absurd z (by decide)⟩, 0, by decide, by rw [e6]; rfl, by rw [e2]; rfl, fun k hk => absurd hk (by omega)⟩
  · refine ⟨(by decide +kernel : ∀ j, j < 5 → kd (63 + 39 * j) = 3) j hj, ?_, ?_⟩
    · show 63 + 39 * j ≠ 24; omega
    · show 63 + 39 * j ≠ 258; omega
  · have e' : 63 + 39 * i = 63 + 39 * j := e
    omega
theorem sr_of {s : State} {args : Array Value} {k cur : Nat} {tx : String} (hcur : s.vm.findClass RX6 = some cur) (h : (Cond.stringRef RX6 k tx).before args s = true) : ∃ a : Nat, vk_R RX6 k tx a s := by
  obtain ⟨k9, cf, i, a, -, -, -, -, -, hev⟩ := Cond.stringRef_spec hcur h
  exact ⟨a, vk_R.of h hev⟩
theorem ka_p {s : State} {args : Array Value} {ty : FieldType} (hno : ∀ C, ty ≠ .object C) (h : (Cond.arrayClass ty).before args s = true) : ∃ cA, ArrOfT s cA ty ∧ va_RA s cA ty := by
  obtain ⟨cA, kA, comp, h1, h2, h3⟩ := Cond.arrayClass_spec h
  refine ⟨cA, fun n z => ⟨fun k h => (by cases h), kA, h2, comp, h3⟩, ?_⟩
  cases ty with
  | object C => exact absurd rfl (hno C)
  | _ => exact h1
theorem ka_o {s : State} {args : Array Value} {C : String} (h : (Cond.arrayOver (.object C)).before args s = true) : ∃ cA, ArrOfT s cA (.object C) ∧ va_RA s cA (.object C) := by
  obtain ⟨comp, cA, kA, h1, h2, h3, h4, h5⟩ := Cond.arrayOver_spec h
  exact ⟨cA, fun n z => ⟨fun k h => (by cases h), kA, h3, comp, h4⟩, kA, comp, h3, h4, h1, h5⟩
theorem tb_1 {w : Cond} (h : w ∈ tables_1_1) : w ∈ lw_tbl := List.mem_append_right _ (List.mem_append_left _ h)
theorem tb_2 {w : Cond} (h : w ∈ tables_1_2) : w ∈ lw_tbl := List.mem_append_right _ (List.mem_append_right _ (List.mem_append_left _ h))
theorem tb_3 {w : Cond} (h : w ∈ tables_1_3) : w ∈ lw_tbl := List.mem_append_right _ (List.mem_append_right _ (List.mem_append_right _ (List.mem_append_left _ h)))
theorem tb_4 {w : Cond} (h : w ∈ tables_1_4) : w ∈ lw_tbl := List.mem_append_right _ (List.mem_append_right _ (List.mem_append_right _ (List.mem_append_right _ (List.mem_append_left _ h))))
theorem tb_5 {w : Cond} (h : w ∈ tables_1_5) : w ∈ lw_tbl := List.mem_append_right _ (List.mem_append_right _ (List.mem_append_right _ (List.mem_append_right _ (List.mem_append_right _ (h)))))
/-! two objects are made -/
theorem lp_in {j : Nat} (h : j < NP) : lp j < 6 ∨ (14 ≤ lp j ∧ lp j < 297) := by
  have := lp_lv h
  unfold Lv NN at this
  exact this
theorem fw_vp {X : XT} {A : Nat → Prop} {u : Nat → Nat} {H : Heap} (h : FW X A u (bI X u) (fun i => i < 6 ∨ (14 ≤ i ∧ i < 297)) H) : va_P X.1 vwCl (gw (X.1, X.2.1, u) D0 P0) H ∧ gI (X.1, X.2.1, u) ∧ ∀ i, Lv i → A (u i) := by
  have hJ : ∀ i, Lv i → (i < 6 ∨ (14 ≤ i ∧ i < 297)) := fun i hi => by unfold Lv NN at hi; exact hi
  refine ⟨fun n q hn => ?_, fun i j hi hj e => h.2.2.1 i j (hJ i hi) (hJ j hj) e, fun i hi => h.2.2.2 i (hJ i hi)⟩
  obtain ⟨h1, rfl⟩ := gw_get hn
  exact h.2.1 (lp n) (lp_in h1)
section PZ
variable {K : KT} {X : XT} {cc : ByteArray} {own : String} {w0 : Cond} {nL : Nat} {ret : Option FieldType} {A : Nat → Prop} {Q : State → Prop} {ce sl pc q : Nat} {lv : List (Option Value)} {st : List Value} {ws : va_W}
theorem pq_dup {F : Heap → Prop} {v : Value} (C : CX K X cc own w0 nL ret) (d : decode cc pc = .ok (.dup, 1)) (hq : pc + 1 = q) (hv : v.category = 1) (k : PG K A F Q ce sl q lv (v :: v :: st)) : PG K A F Q ce sl pc lv (v :: st) := by
  subst hq; intro H locs ls hF hS hl; exact lv_dup C.hx C.hb d hv (k H locs ls hF hS hl)
theorem pz_new {C9 : String} {T : u_T} {N ci index : Nat} {fs : List Value} (C : CX K X cc own w0 nL ret) (hA : ∀ q, K.s.heap.size ≤ q → A q) (hD : va_D A ws) (hin : ∀ w ∈ u_ws C9 T N, w ∈ w0 :: AW) (ty : Nat → FieldType) (hty : ∀ k, k < N → parseFieldDescriptor (T k).2.2.1 = some (ty k)) (hl : Cond.classLink own index C9 ∈ AW) (hinst : Cond.instantiable C9 N ∈ AW) (hini : Cond.initialized C9 ∈ AW) (hc : vwCl[ci]? = some (C9, T, N)) (hfs : ∀ j, j < N → defaultValue (ty j) = vp_V fs j) (hR : ce + 1 ≤ K.R.cells ∧ sl + N ≤ K.R.slots) (d : decode cc pc = .ok (.new index, 3)) (hq : pc + 3 = q) (kk : ∀ h : Nat, va_D A (ws ++ [(h, .inr (ci, fs))]) → PG K A (fun H => va_P X.1 vwCl (ws ++ [(h, .inr (ci, fs))]) H) Q (ce + 1) (sl + N) q lv (.ref h :: st)) : PG K A (fun H => va_P X.1 vwCl ws H) Q ce sl pc lv st := by
  subst hq; intro H locs ls hP hS hl9
  exact va_new (C := C9) C.hx C.hb C.hts hin ty hty C.hown (C.aw hl) (C.aw hinst) (C.aw hini) C.hK hP hD hS hA hc hfs hR.1 hR.2 d (fun h H1 hP1 hD1 hS1 => kk h hD1 H1 locs ls hP1 hS1 hl9)
theorem pz_callI {l : Launch} {y : MethodName} {bytes : ByteArray} {maxL mc ms index h : Nat} {rm : Room} {e0 : va_E} {rest : List Value} (C : CX K X cc own w0 nL ret) (hA : ∀ q, K.s.heap.size ≤ q → A q) (hIK : IK K.s) (hKl : K.2.1 = l) (hD : va_D A (ws ++ [(h, e0)])) (hM : IG l X y bytes maxL rm e0 0 (fun i => i < 6 ∨ (14 ≤ i ∧ i < 297)) mc ms) (hL : Cond.methodLink own index y ∈ AW) (hw1 : Cond.code y bytes maxL none ∈ AW) (hw2 : Cond.instanceMethod y ∈ AW) (hw3 : Cond.initialized y.cls ∈ AW) (hy : y.name = "<init>") (hyc : y.cls ≠ "java/lang/invoke/MethodHandle" ∧ y.cls ≠ "java/lang/invoke/VarHandle" ∧ (parseMethodDescriptor y.desc).map (fun d => d.parameters.length) = some 0) (hrm : rm.cells = mc ∧ rm.slots = ms) (hR : rm.frames + 1 ≤ K.R.frames ∧ 8 + (maxL + 11) + rm.locals ≤ K.R.locals) (hcs : ce + mc ≤ K.R.cells ∧ sl + ms ≤ K.R.slots) (hlv : lv.length = nL) (hsum : (rest.map fun v => v.category).sum ≤ 8) (d : decode cc pc = .ok (.invokespecial index, 3)) (hq : pc + 3 = q) (kk : ∀ u : Nat → Nat, u 0 = h → gI (X.1, X.2.1, u) → va_D A (ws ++ gw (X.1, X.2.1, u) D0 P0) → PG K A (fun H => va_P X.1 vwCl (ws ++ gw (X.1, X.2.1, u) D0 P0) H) Q (ce + mc) (sl + ms) q lv rest) : PG K A (fun H => va_P X.1 vwCl (ws ++ [(h, e0)]) H) Q ce sl pc lv (.ref h :: rest) := by
  subst hq; subst hKl; intro H locs ls hP hS hl
  have ha : (ws ++ [(h, e0)])[ws.length]? = some (h, e0) := by simp
  have hleft : ∀ (k : Nat) (x : Nat × va_E), ws[k]? = some x → (ws ++ [(h, e0)])[k]? = some x ∧ k < ws.length := fun k x hx => by
    have hk := (List.getElem?_eq_some_iff.mp hx).1
    exact ⟨by rw [List.getElem?_append_left hk]; exact hx, hk⟩
  have hP1 : va_P X.1 vwCl [(h, e0)] H := fun k x hx => by
    have : k = 0 := by
      have := (List.getElem?_eq_some_iff.mp hx).1
      simp at this
      omega
    subst this
    cases hx
    exact hP _ _ ha
  have hcase : ∀ z, va_A [(h, e0)] H.size z → z = h ∨ H.size ≤ z := by
    rintro z (⟨k, e, hz⟩ | hz)
    · have : k = 0 := by
        have := (List.getElem?_eq_some_iff.mp hz).1
        simp at this
        omega
      subst this
      cases hz
      exact Or.inl rfl
    · exact Or.inr hz
  have hFr : ∀ z, va_A [(h, e0)] H.size z → A z := fun z hz => by
    rcases hcase z hz with e | e
    · rw [e]; exact hD.2 _ _ ha
    · exact hA z (Nat.le_trans hS.1 e)
  have hap : ∀ (k : Nat) (x : Nat × va_E), ws[k]? = some x → x.1 < H.size ∧ ¬ va_A [(h, e0)] H.size x.1 := fun k x hx => by
    obtain ⟨g1, g2⟩ := hleft k x hx
    have hlt := (hP k x g1).lt
    refine ⟨hlt, fun z => ?_⟩
    rcases hcase _ z with e | e
    · have := hD.1 k ws.length x (h, e0) g1 ha e
      omega
    · omega
  refine va_callv (va_runI (As := []) (rest := rest) (nL := nL) ⟨C.hx, C.hb, C.hn, C.hown, C.hts⟩ (hM h H.size) (cwI 0 C.hts (gi_ws hw1) rfl hrm.1 hrm.2 (C.aw hw3) (C.aw hL) (C.aw hw2) hy hyc hR) ⟨pi_blind, fun U hU hW => ⟨rfl, by rw [hU], by rw [hU]; exact hP1, va_K.moved hW.alike C.hK, IK.warm hW hIK⟩⟩ rfl rfl (hl.1.trans hlv) rfl (lv_room hsum) d hcs) hS (fun z _ h => hFr z h) hFr (fun u t H1 locs1 ht hvm hw hB hz hk hS1 => ?_)
  have hF : FW X (va_A [(h, e0)] H.size) u (bI X u) (fun i => i < 6 ∨ (14 ≤ i ∧ i < 297)) H1 := ht ▸ hB.1
  obtain ⟨f1, f2, f3⟩ := fw_vp hF
  have hsplit : ∀ (k : Nat) (x : Nat × va_E), (ws ++ gw (X.1, X.2.1, u) D0 P0)[k]? = some x → ws[k]? = some x ∨ (ws.length ≤ k ∧ (gw (X.1, X.2.1, u) D0 P0)[k - ws.length]? = some x) := fun k x hx => by
    rcases Nat.lt_or_ge k ws.length with z | z
    · rw [List.getElem?_append_left z] at hx; exact Or.inl hx
    · rw [List.getElem?_append_right z] at hx; exact Or.inr ⟨z, hx⟩
  have hgin : ∀ (k : Nat) (x : Nat × va_E), (gw (X.1, X.2.1, u) D0 P0)[k]? = some x → va_A [(h, e0)] H.size x.1 := fun k x hx => by
    obtain ⟨g1, rfl⟩ := gw_get hx
    exact f3 _ (lp_lv g1)
  refine kk u hw f2 ⟨fun i j x y hi hj e => ?_, fun k x hx => ?_⟩ H1 locs1 ls (fun k x hx => ?_) hS1 hl
  · rcases hsplit i x hi with a | ⟨a1, a⟩ <;> rcases hsplit j y hj with c | ⟨c1, c⟩
    · exact hD.1 i j x y (hleft i x a).1 (hleft j y c).1 e
    · exact absurd (e ▸ hgin _ y c) (hap i x a).2
    · exact absurd (e.symm ▸ hgin _ x a) (hap j y c).2
    · obtain ⟨g1, rfl⟩ := gw_get a
      obtain ⟨g2, rfl⟩ := gw_get c
      have e2 := f2 _ _ (lp_lv g1) (lp_lv g2) e
      have e3 := congrArg pl e2
      rw [pl_lp, pl_lp] at e3
      omega
  · rcases hsplit k x hx with a | ⟨_, a⟩
    · exact hD.2 _ _ (hleft k x a).1
    · exact hFr _ (hgin _ x a)
  · rcases hsplit k x hx with a | ⟨_, a⟩
    · obtain ⟨g1, g2⟩ := hap k x a
      exact (hP k x (hleft k x a).1).kept (hk _ g1 g2)
    · exact f1 _ x a
theorem PG_F {F F' : Heap → Prop} (h : ∀ H, F H → F' H) (k : PG K A F' Q ce sl pc lv st) : PG K A F Q ce sl pc lv st := fun H locs ls hP hS hl => k H locs ls (h H hP) hS hl
end PZ
/-- both stand -/
theorem two_D {X : XT} {A : Nat → Prop} {u v : Nat → Nat} (hD : va_D A (gw (X.1, X.2.1, u) D0 P0 ++ gw (X.1, X.2.1, v) D0 P0)) : (∀ i j, Lv i → Lv j → u i ≠ v j) ∧ (∀ i, Lv i → A (u i)) ∧ ∀ i, Lv i → A (v i) := by
  have hu : ∀ i, Lv i → (gw (X.1, X.2.1, u) D0 P0 ++ gw (X.1, X.2.1, v) D0 P0)[pl i]? = some (u i, gc (X.1, X.2.1, u) D0 P0 i) := fun i hi => by
    rw [List.getElem?_append_left (by rw [gw_len]; exact pl_lt hi)]
    exact gw_at hi
  have hv : ∀ i, Lv i → (gw (X.1, X.2.1, u) D0 P0 ++ gw (X.1, X.2.1, v) D0 P0)[NP + pl i]? = some (v i, gc (X.1, X.2.1, v) D0 P0 i) := fun i hi => by
    rw [List.getElem?_append_right (by rw [gw_len]; omega), gw_len, Nat.add_sub_cancel_left]
    exact gw_at hi
  refine ⟨fun i j hi hj e => ?_, fun i hi => hD.2 _ _ (hu i hi), fun i hi => hD.2 _ _ (hv i hi)⟩
  have := hD.1 _ _ _ _ (hu i hi) (hv j hj) e
  have := pl_lt hi
  omega
theorem two_F {X : XT} {u v : Nat → Nat} {H : Heap} (h : va_P X.1 vwCl (gw (X.1, X.2.1, u) D0 P0 ++ gw (X.1, X.2.1, v) D0 P0) H) : F2 (X.1, X.2.1, u) v D0 P0 D0 P0 H := by
  refine ⟨fun k x hx => h k x ?_, fun k x hx => h (NP + k) x ?_⟩
  · rw [List.getElem?_append_left (List.getElem?_eq_some_iff.mp hx).1]
    exact hx
  · rw [List.getElem?_append_right (by rw [gw_len]; omega), gw_len, Nat.add_sub_cancel_left]
    exact hx
