/-! THE POOL IN THE MAKING: a part I of its places has been made, at addresses a, with contents c -/
def FW (X : XT) (A : Nat → Prop) (a : Nat → Nat) (c : Nat → va_E) (I : Nat → Prop) (H : Heap) : Prop := (∀ i, I i → i < NN) ∧ (∀ i, I i → va_at X.1 vwCl (a i, c i) H) ∧ (∀ i j, I i → I j → a i = a j → i = j) ∧ ∀ i, I i → A (a i)
def wI (a : Nat → Nat) (c : Nat → va_E) (L : List Nat) : va_W := L.map (fun i => (a i, c i))
theorem wI_at {a : Nat → Nat} {c : Nat → va_E} {L : List Nat} {k i : Nat} (h : L[k]? = some i) : (wI a c L)[k]? = some (a i, c i) := by simp [wI, h]
theorem wI_get {a : Nat → Nat} {c : Nat → va_E} {L : List Nat} {k : Nat} {q : Nat × va_E} (h : (wI a c L)[k]? = some q) : ∃ i, L[k]? = some i ∧ q = (a i, c i) := by
  unfold wI at h
  rw [List.getElem?_map] at h
  cases e : L[k]? with
  | none => rw [e] at h; cases h
  | some i => rw [e] at h; exact ⟨i, rfl, (Option.some.inj h).symm⟩
theorem nd_at {L : List Nat} (hn : L.Nodup) {k m i : Nat} (h : L[k]? = some i) (h2 : L[m]? = some i) : k = m := by
  have hl : k < L.length := (List.getElem?_eq_some_iff.mp h).1
  exact (List.getElem?_inj hl hn).mp (h.trans h2.symm)
theorem wI_set {a : Nat → Nat} {c : Nat → va_E} {L : List Nat} {k i : Nat} {e : va_E} (hn : L.Nodup) (h : L[k]? = some i) : (wI a c L).set k (a i, e) = wI a (va_up c i e) L := by
  refine List.ext_getElem? fun n => ?_
  have hl : k < L.length := (List.getElem?_eq_some_iff.mp h).1
  by_cases e1 : n = k
  · subst e1
    rw [List.getElem?_set_self (by simpa [wI] using hl), wI_at h, va_up_self]
  · rw [List.getElem?_set_ne (fun z => e1 z.symm)]
    cases e2 : L[n]? with
    | none => simp [wI, e2]
    | some j =>
      rw [wI_at e2, wI_at e2, va_up_ne _ _ (fun z => e1 (nd_at hn (by rw [e2, z]) h))]
theorem wI_push {a : Nat → Nat} {c : Nat → va_E} {L : List Nat} {i h : Nat} {e : va_E} (hi : i ∉ L) : wI a c L ++ [(h, e)] = wI (va_up a i h) (va_up c i e) (L ++ [i]) := by
  unfold wI
  rw [List.map_append]
  congr 1
  · refine List.map_congr_left fun j hj => ?_
    have : j ≠ i := fun z => hi (z ▸ hj)
    rw [va_up_ne _ _ this, va_up_ne _ _ this]
  · simp [va_up_self]
section FWs
variable {X : XT} {A : Nat → Prop} {a : Nat → Nat} {c : Nat → va_E} {I : Nat → Prop} {H : Heap}
theorem FW.ws (h : FW X A a c I H) : ∃ L : List Nat, L.Nodup ∧ (∀ i, i ∈ L ↔ I i) ∧ va_P X.1 vwCl (wI a c L) H ∧ va_D A (wI a c L) := by
  obtain ⟨h1, h2, h3, h4⟩ := h
  have hn : ((List.range NN).filter (fun i => @decide (I i) (Classical.propDecidable _))).Nodup := List.Pairwise.filter _ List.nodup_range
  have hm : ∀ i, i ∈ (List.range NN).filter (fun i => @decide (I i) (Classical.propDecidable _)) ↔ I i := fun i => by
    rw [List.mem_filter, List.mem_range]
    constructor
    · rintro ⟨_, z⟩
      exact @of_decide_eq_true _ (Classical.propDecidable _) z
    · intro z
      exact ⟨h1 i z, @decide_eq_true _ (Classical.propDecidable _) z⟩
  refine ⟨_, hn, hm, fun k q hq => ?_, fun i j p q hi hj he => ?_, fun k q hq => ?_⟩
  · obtain ⟨i, e1, rfl⟩ := wI_get hq
    exact h2 i ((hm i).mp (List.mem_of_getElem? e1))
  · obtain ⟨i1, e1, rfl⟩ := wI_get hi
    obtain ⟨j1, e2, rfl⟩ := wI_get hj
    have := h3 i1 j1 ((hm i1).mp (List.mem_of_getElem? e1)) ((hm j1).mp (List.mem_of_getElem? e2)) he
    subst this
    exact nd_at hn e1 e2
  · obtain ⟨i, e1, rfl⟩ := wI_get hq
    exact h4 i ((hm i).mp (List.mem_of_getElem? e1))
theorem FW.of {L : List Nat} (hm : ∀ i, i ∈ L ↔ I i) (hb : ∀ i, I i → i < NN) (hP : va_P X.1 vwCl (wI a c L) H) (hD : va_D A (wI a c L)) : FW X A a c I H := by
  have g : ∀ i, I i → ∃ k : Nat, L[k]? = some i := fun i hi => List.getElem?_of_mem ((hm i).mpr hi)
  refine ⟨hb, fun i hi => ?_, fun i j hi hj he => ?_, fun i hi => ?_⟩
  · obtain ⟨k, hk⟩ := g i hi
    exact hP k _ (wI_at hk)
  · obtain ⟨k, hk⟩ := g i hi
    obtain ⟨m, hm2⟩ := g j hj
    have := hD.1 k m _ _ (wI_at hk) (wI_at hm2) he
    subst this
    exact Option.some.inj (hk.symm.trans hm2)
  · obtain ⟨k, hk⟩ := g i hi
    exact hD.2 k _ (wI_at hk)
theorem FW.iff {J : Nat → Prop} (h : FW X A a c I H) (e : ∀ i, J i → I i) : FW X A a c J H := ⟨fun i hi => h.1 i (e i hi), fun i hi => h.2.1 i (e i hi), fun i j hi hj => h.2.2.1 i j (e i hi) (e j hj), fun i hi => h.2.2.2 i (e i hi)⟩
end FWs
/-- one content tells what another tells -/
def qE (X : XT) (e e' : va_E) : Prop := ∀ (q : Nat) (H : Heap), va_at X.1 vwCl (q, e) H → va_at X.1 vwCl (q, e') H
theorem qE.rf {X : XT} (e : va_E) : qE X e e := fun _ _ h => h
theorem qE.of {X : XT} {e e' : va_E} (h : e = e') : qE X e e' := h ▸ qE.rf _
theorem qE.tr {X : XT} {e e' e2 : va_E} (h : qE X e e') (h2 : qE X e' e2) : qE X e e2 := fun q H z => h2 q H (h q H z)
theorem qE_q {X : XT} {cA : ClassId} {n : Nat} {f g : Nat → Option Nat} (h : ∀ j, j < n → f j = g j) : qE X (.inl (cA, n, .inr (.inr (.inr (.inr f))))) (.inl (cA, n, .inr (.inr (.inr (.inr g))))) := by
  intro q H z
  show H[q]? = some (vp_cell _ _)
  have z2 : H[q]? = some (vp_cell cA (n, .inr (.inr (.inr (.inr f))))) := z
  rw [z2, vp_cell_q, vp_cell_q]
  congr 1
  unfold arrV
  congr 1
  refine congrArg Array.ofFn (funext fun j => ?_)
  show va_rf (f j.val) = va_rf (g j.val)
  rw [h j.val j.isLt]
theorem qE_i {X : XT} {cA : ClassId} {n : Nat} {f g : Nat → Int32} (h : ∀ j, j < n → f j = g j) : qE X (.inl (cA, n, .inl f)) (.inl (cA, n, .inl g)) := by
  intro q H z
  show H[q]? = some (vp_cell _ _)
  have z2 : H[q]? = some (vp_cell cA (n, .inl f)) := z
  rw [z2, vp_cell_i, vp_cell_i]
  congr 1
  unfold arrV
  congr 1
  refine congrArg Array.ofFn (funext fun j => ?_)
  show Value.int (f j.val) = Value.int (g j.val)
  rw [h j.val j.isLt]
theorem FW.re {X : XT} {A : Nat → Prop} {a : Nat → Nat} {c c' : Nat → va_E} {I : Nat → Prop} {H : Heap} (h : FW X A a c I H) (e : ∀ i, I i → qE X (c i) (c' i)) : FW X A a c' I H := ⟨h.1, fun i hi => e i hi _ _ (h.2.1 i hi), h.2.2.1, h.2.2.2⟩
theorem ra_inj {U : State} {ty : FieldType} {c1 c2 : ClassId} (h1 : va_RA U c1 ty) (h2 : va_RA U c2 ty) : c1 = c2 := by
  cases ty with
  | object C =>
    obtain ⟨_, _, _, _, _, e1⟩ := h1
    obtain ⟨_, _, _, _, _, e2⟩ := h2
    exact Option.some.inj (e1.symm.trans e2)
  | _ => exact Option.some.inj ((show U.vm.findClass _ = some c1 from h1).symm.trans h2)
/-- what makers ask of the tables beyond AW -/
def ikw : List Cond := [.methodLinkNest RX3 20 ⟨RX1, "<init>", "()V"⟩ "NappingViews", .methodLinkNest RX5 27 ⟨RX0, "<init>", "()V"⟩ "NappingViews", .methodLinkNest RX6 33 ⟨RX2, "<init>", "()V"⟩ "NappingViews", .methodLinkNest RX6 40 ⟨RX0, "<init>", "()V"⟩ "NappingViews"]
def IK (U : State) : Prop := (va_AO RX0 U ∧ va_AO RX3 U ∧ va_AO RX5 U) ∧ ∀ w ∈ ikw, va_Nw w U
theorem IK.warm {s U : State} (hW : s.WarmedH U.vm) (h : IK s) : IK U := by
  refine ⟨⟨va_AO.moved hW.alike h.1.1, va_AO.moved hW.alike h.1.2.1, va_AO.moved hW.alike h.1.2.2⟩, fun w hw => ?_⟩
  have h1 := h.2 w hw
  simp only [ikw, List.mem_cons, List.not_mem_nil, or_false] at hw
  rcases hw with rfl | rfl | rfl | rfl
  · exact va_Nw.warmM hW h1
  · exact va_Nw.warmM hW h1
  · exact va_Nw.warmM hW h1
  · exact va_Nw.warmM hW h1
def row0 : Nat → Int32 := fun j => if j = 183 then -1 else if 32 ≤ j ∧ j < 146 then (if (j - 32) % 38 = 34 then -99 else if (j - 32) % 38 = 35 then 10 else if (j - 32) % 38 = 36 then 8 else 0) else 0
/-- the pool as it is when all is made -/
def dk (i : Nat) : Nat := if i = 7 then 4 else if kd i = 5 then 1 else if kd i = 3 then 2 else if 0 < i ∧ kd (i - 1) = 4 then 3 else 0
def dv : Nat → Nat → Int32
  | 0 => fun _ => 0
  | 1 => fun j => if j = 1 then -99 else if j = 2 then 10 else if j = 3 then 8 else 0
  | 2 => fun j => if j = 7 then -1 else 0
  | 3 => fun _ => -1
  | _ => row0
def D0 : DT := fun i => dv (dk i)
def P0 : PT := (fun j => 63 + 39 * j, 0)
def bI (X : XT) (u : Nat → Nat) (i : Nat) : va_E := gc (X.1, X.2.1, u) D0 P0 i
def PreI (X : XT) (e0 : va_E) (h sz : Nat) (U : State) : Prop := U.heap.size = sz ∧ va_P X.1 vwCl [(h, e0)] U.heap ∧ va_K X.1 vwCl (gt X) U ∧ IK U
def PostI (X : XT) (A : Nat → Prop) (J : Nat → Prop) (u : Nat → Nat) (t : State) : Prop := FW X A u (bI X u) J t.heap ∧ va_K X.1 vwCl (gt X) t
def qN (X : XT) (A J : Nat → Prop) (B h : Nat) : Array Value → State → Outcome → State → Prop := va_Qv (fun u : Nat → Nat => u B = h) (PostI X A J) A
def IG (l : Launch) (X : XT) (y : MethodName) (cc : ByteArray) (maxL : Nat) (rm : Room) (e0 : va_E) (B : Nat) (J : Nat → Prop) (mc ms : Nat) : Prop := ∀ h sz : Nat, Met l y (.code y cc maxL none :: AW) rm (va_Pc [.ref h] (PreI X e0 h sz)) (qN X (va_A [(h, e0)] sz) J B h) mc ms (va_A [(h, e0)] sz)
def PF (K : KT) (X : XT) (A : Nat → Prop) (Q : State → Prop) (ce sl : Nat) (pc : Nat) (lv : List (Option Value)) (st : List Value) (a : Nat → Nat) (c : Nat → va_E) (I : Nat → Prop) : Prop := ∀ (H : Heap) (locs : List Loc) (ls : Array Slot), FW X A a c I H → va_S A K.s.heap H locs → lvh ls lv → WK K H locs ce sl Q (F0 K.m pc ls st)
def IQ (K : KT) (X : XT) (A J : Nat → Prop) (B h mc ms : Nat) : State → Prop := MQ K.below (qN X A J B h) K.args K.s mc ms A
theorem ig_of {l : Launch} {X : XT} {y : MethodName} {cc : ByteArray} {maxL : Nat} {rm : Room} {e0 : va_E} {B : Nat} {J : Nat → Prop} {mc ms : Nat} (hgI : gI X) (hB : B < NN) (hy : plainName y.cls = true) (hlen : 1 ≤ maxL) (hnm : y.name = "<init>")
    (body : ∀ (K : KT) (h : Nat) (A : Nat → Prop), K.2.1 = l → K.R = rm → CX K X cc y.cls (.code y cc maxL none) maxL none → K.meth.name = "<init>" → IK K.s → (∀ q, K.s.heap.size ≤ q → A q) → PF K X A (IQ K X A J B h mc ms) 0 0 0 (lvE [.ref h] maxL) [] (fun _ => h) (fun _ => e0) (fun i => i = B)) : IG l X y cc maxL rm e0 B J mc ms := by
  intro h sz
  refine Met.ofW (cc := cc) (maxL := maxL) (ret := none) hy rfl ?_
  intro p e s m args below meth c s₁ B9 hml hv
  obtain ⟨rfl, hsz, hP, hK, hIK⟩ := hv
  subst hsz
  have hts : ∀ w ∈ Cond.code y cc maxL none :: AW, w.before [Value.ref h].toArray s = true := atoms_spec (ws := Cond.code y cc maxL none :: AW) B9.pre
  rw [lg_entry_eq]
  have hin : meth.name = "<init>" := (name_of_methodNamed B9.named B9.method).1.trans hnm
  refine body (p, l, e, rm, s, m, [Value.ref h].toArray, below, meth, c) h (va_A [(h, e0)] s.heap.size) rfl rfl ⟨B9.exec, B9.bytes, findClass_of_methodNamed B9.named, hts, hK, hgI, hml, B9.notSynchronized, B9.returns⟩ hin hIK (fun q hq => Or.inr hq) s.heap [] _ ?_ va_S.rf (lvh_E (by show (lvX [Value.ref h]).length ≤ maxL; exact hlen))
  refine ⟨fun i hi => by rw [hi]; exact hB, fun i hi => hP 0 _ rfl, fun i j hi hj _ => hi.trans hj.symm, fun i hi => Or.inl ⟨0, e0, rfl⟩⟩
section PFR
variable {K : KT} {X : XT} {cc : ByteArray} {own : String} {w0 : Cond} {nL : Nat} {ret : Option FieldType} {A : Nat → Prop} {Q : State → Prop} {ce sl pc q : Nat} {lv : List (Option Value)} {st : List Value} {a : Nat → Nat} {c : Nat → va_E} {I : Nat → Prop}
theorem PF_lv {lv' : List (Option Value)} (h : lv = lv') (k : PF K X A Q ce sl pc lv' st a c I) : PF K X A Q ce sl pc lv st a c I := h ▸ k
theorem PF_drop {lv' : List (Option Value)} (hl : lv'.length = lv.length) (hk : ∀ (k : Nat) (v : Value), lv'[k]? = some (some v) → lv[k]? = some (some v)) (k : PF K X A Q ce sl pc lv' st a c I) : PF K X A Q ce sl pc lv st a c I := fun H locs ls hF hS h => k H locs ls hF hS (lvh_mono h hl hk)
theorem PF_widen {ce' sl' : Nat} (h1 : ce ≤ ce') (h2 : sl ≤ sl') (k : PF K X A Q ce' sl' pc lv st a c I) : PF K X A Q ce sl pc lv st a c I := fun H locs ls hF hS hl => W.widen h1 h2 (k H locs ls hF hS hl)
theorem pf_iconst {n : Int} {v : Int32} (C : CX K X cc own w0 nL ret) (d : decode cc pc = .ok (.iconst n, 1)) (hq : pc + 1 = q) (hv : Int32.ofInt n = v) (k : PF K X A Q ce sl q lv (.int v :: st) a c I) : PF K X A Q ce sl pc lv st a c I := by
  subst hq; intro H locs ls hF hS hl; exact lv_iconst C.hx C.hb d hv (k H locs ls hF hS hl)
theorem pf_bipush {n : Int} {v : Int32} (C : CX K X cc own w0 nL ret) (d : decode cc pc = .ok (.bipush n, 2)) (hq : pc + 2 = q) (hv : (Int8.ofInt n).toInt32 = v) (k : PF K X A Q ce sl q lv (.int v :: st) a c I) : PF K X A Q ce sl pc lv st a c I := by
  subst hq; intro H locs ls hF hS hl; exact lv_bipush C.hx C.hb d hv (k H locs ls hF hS hl)
theorem pf_sipush {n : Int} {v : Int32} (C : CX K X cc own w0 nL ret) (d : decode cc pc = .ok (.sipush n, 3)) (hq : pc + 3 = q) (hv : (Int16.ofInt n).toInt32 = v) (k : PF K X A Q ce sl q lv (.int v :: st) a c I) : PF K X A Q ce sl pc lv st a c I := by
  subst hq; intro H locs ls hF hS hl; exact lv_sipush C.hx C.hb d hv (k H locs ls hF hS hl)
theorem pf_iload_n {j : Fin 4} {i : Nat} {x : Int32} (C : CX K X cc own w0 nL ret) (d : decode cc pc = .ok (.iload_n j, 1)) (hq : pc + 1 = q) (hj : (j : Nat) = i) (hx : lv[i]? = some (some (.int x))) (k : PF K X A Q ce sl q lv (.int x :: st) a c I) : PF K X A Q ce sl pc lv st a c I := by
  subst hq; intro H locs ls hF hS hl; exact lv_iload_n C.hx C.hb d hj (lvh_at hl hx) (k H locs ls hF hS hl)
theorem pf_istore_n {j : Fin 4} {i : Nat} {x : Int32} (C : CX K X cc own w0 nL ret) (d : decode cc pc = .ok (.istore_n j, 1)) (hq : pc + 1 = q) (hj : (j : Nat) = i) (hi : i < lv.length) (ho : lvok lv i = true) (k : PF K X A Q ce sl q (lv.set i (some (.int x))) st a c I) : PF K X A Q ce sl pc lv (.int x :: st) a c I := by
  subst hq; intro H locs ls hF hS hl; exact lv_istore_n C.hx C.hb d hj hl hi rfl (fun ls' hl' => k H locs ls' hF hS (lvh_st1 ho hl'))
theorem pf_aload_n {j : Fin 4} {i : Nat} {x : Nat} (C : CX K X cc own w0 nL ret) (d : decode cc pc = .ok (.aload_n j, 1)) (hq : pc + 1 = q) (hj : (j : Nat) = i) (hx : lv[i]? = some (some (.ref x))) (k : PF K X A Q ce sl q lv (.ref x :: st) a c I) : PF K X A Q ce sl pc lv st a c I := by
  subst hq; intro H locs ls hF hS hl; exact lv_aload_n C.hx C.hb d hj (lvh_at hl hx) (k H locs ls hF hS hl)
theorem pf_astore_n {j : Fin 4} {i : Nat} {x : Nat} (C : CX K X cc own w0 nL ret) (d : decode cc pc = .ok (.astore_n j, 1)) (hq : pc + 1 = q) (hj : (j : Nat) = i) (hi : i < lv.length) (ho : lvok lv i = true) (k : PF K X A Q ce sl q (lv.set i (some (.ref x))) st a c I) : PF K X A Q ce sl pc lv (.ref x :: st) a c I := by
  subst hq; intro H locs ls hF hS hl; exact lv_astore_n C.hx C.hb d hj hl hi rfl (fun ls' hl' => k H locs ls' hF hS (lvh_st1 ho hl'))
theorem pf_istore {i : Nat} {x : Int32} (C : CX K X cc own w0 nL ret) (d : decode cc pc = .ok (.istore i, 2)) (hq : pc + 2 = q) (hi : i < lv.length) (ho : lvok lv i = true) (k : PF K X A Q ce sl q (lv.set i (some (.int x))) st a c I) : PF K X A Q ce sl pc lv (.int x :: st) a c I := by
  subst hq; intro H locs ls hF hS hl; exact lv_istore C.hx C.hb d hl hi rfl (fun ls' hl' => k H locs ls' hF hS (lvh_st1 ho hl'))
theorem pf_iinc {i : Nat} {n : Int} {x v : Int32} (C : CX K X cc own w0 nL ret) (d : decode cc pc = .ok (.iinc i n, 3)) (hq : pc + 3 = q) (hx : lv[i]? = some (some (.int x))) (hv : x + Int32.ofInt n = v) (ho : lvok lv i = true) (k : PF K X A Q ce sl q (lv.set i (some (.int v))) st a c I) : PF K X A Q ce sl pc lv st a c I := by
  subst hq; intro H locs ls hF hS hl
  obtain ⟨k0, hk0⟩ := lvA_get (n := 0) hx
  rw [Nat.zero_add] at hk0
  exact lv_iinc C.hx C.hb d hl hk0 hv (List.getElem?_eq_some_iff.mp hx).1 rfl (fun ls' hl' => k H locs ls' hF hS (lvh_st1 ho hl'))
theorem pf_imul {x y v : Int32} (C : CX K X cc own w0 nL ret) (d : decode cc pc = .ok (.imul, 1)) (hq : pc + 1 = q) (hv : x * y = v) (k : PF K X A Q ce sl q lv (.int v :: st) a c I) : PF K X A Q ce sl pc lv (.int y :: .int x :: st) a c I := by
  subst hq; subst hv; intro H locs ls hF hS hl; exact lv_imul C.hx C.hb d (k H locs ls hF hS hl)
theorem pf_iadd {x y v : Int32} (C : CX K X cc own w0 nL ret) (d : decode cc pc = .ok (.iadd, 1)) (hq : pc + 1 = q) (hv : x + y = v) (k : PF K X A Q ce sl q lv (.int v :: st) a c I) : PF K X A Q ce sl pc lv (.int y :: .int x :: st) a c I := by
  subst hq; subst hv; intro H locs ls hF hS hl; exact lv_iadd C.hx C.hb d (k H locs ls hF hS hl)
theorem pf_dup {v : Value} (C : CX K X cc own w0 nL ret) (d : decode cc pc = .ok (.dup, 1)) (hq : pc + 1 = q) (hv : v.category = 1) (k : PF K X A Q ce sl q lv (v :: v :: st) a c I) : PF K X A Q ce sl pc lv (v :: st) a c I := by
  subst hq; intro H locs ls hF hS hl; exact lv_dup C.hx C.hb d hv (k H locs ls hF hS hl)
theorem pf_icmp_ge {m n : Nat} {off : Int} {tgt : Nat} (C : CX K X cc own w0 nL ret) (d : decode cc pc = .ok (.if_icmp .ge off, 3)) (ht : (pc : Int) + off = (tgt : Int)) (hq : pc + 3 = q) (hm : m < 2 ^ 31) (hn : n < 2 ^ 31) (k1 : n ≤ m → PF K X A Q ce sl tgt lv st a c I) (k2 : m < n → PF K X A Q ce sl q lv st a c I) : PF K X A Q ce sl pc lv (.int (nI n) :: .int (nI m) :: st) a c I := by
  subst hq; intro H locs ls hF hS hl
  exact lv_icmp_ge C.hx C.hb d ht (fun z => k1 (Nat.not_lt.mp fun w => absurd z (by
    rw [nI_leI hn hm]
    omega)) H locs ls hF hS hl) (fun z => k2 (Nat.not_le.mp fun w => z (nI_le w hm)) H locs ls hF hS hl)
theorem pf_goto {off : Int} {tgt : Nat} (C : CX K X cc own w0 nL ret) (d : decode cc pc = .ok (.goto off, 3)) (ht : (pc : Int) + off = (tgt : Int)) (k : PF K X A Q ce sl tgt lv st a c I) : PF K X A Q ce sl pc lv st a c I := by
  intro H locs ls hF hS hl; exact lv_goto C.hx C.hb d ht (k H locs ls hF hS hl)
theorem pf_obj {x index : Nat} (C : CX K X cc own w0 nL ret) (hL : Cond.methodLink own index Lib.objectInit ∈ AW) (hlv : lv.length = nL) (hR : 1 ≤ K.R.frames ∧ (st.map fun v => v.category).sum + 12 ≤ K.R.locals) (d : decode cc pc = .ok (.invokespecial index, 3)) (hq : pc + 3 = q) (k : PF K X A Q ce sl q lv st a c I) : PF K X A Q ce sl pc lv (.ref x :: st) a c I := by
  subst hq; intro H locs ls hF hS hl
  refine W.objInit C.hx C.hb C.hown (C.aw hL) (C.aw tw_22) (C.aw tw_23) rfl (hl.1.trans (hlv.trans C.hn.symm)) rfl d hR.1 (by show 2 * 0 + _ + 12 ≤ _; rw [Nat.mul_zero, Nat.zero_add]; exact hR.2) ?_
  exact k H locs ls hF hS hl
theorem pf_get {C9 : String} {T : u_T} {N ci index i : Nat} {fs : List Value} {v : Value} (C : CX K X cc own w0 nL ret) (hin : ∀ w ∈ u_ws C9 T N, w ∈ w0 :: AW) (hi : I i) {xa : Nat} (hax : a i = xa) (he : c i = .inr (ci, fs)) (hc : vwCl[ci]? = some (C9, T, N)) (k : Nat) (hk : k < N) (hL : Cond.fieldLink own index C9 (T k).2.1 (T k).2.2.1 ∈ AW) (hsm : (T k).1 = C9) (hv : fs[k]? = some v) (d : decode cc pc = .ok (.getfield index, 3)) (hq : pc + 3 = q) (kk : PF K X A Q ce sl q lv (v :: st) a c I) : PF K X A Q ce sl pc lv (.ref xa :: st) a c I := by
  subst hq; subst hax; intro H locs ls hF hS hl
  obtain ⟨L, hn, hm, hP, hD⟩ := hF.ws
  obtain ⟨q0, hq0⟩ := List.getElem?_of_mem ((hm i).mpr hi)
  exact va_get (C := C9) C.hx C.hb C.hts hin C.hown C.hK hP q0 ((wI_at hq0).trans (by rw [he])) hc k hk (C.aw hL) (fun _ h9 => by rw [← hsm]; exact h9) hv d (kk H locs ls hF hS hl)
theorem pf_putF {C9 : String} {T : u_T} {N ci index i : Nat} {fs : List Value} {v : Value} {ty : FieldType} (C : CX K X cc own w0 nL ret) (hin : ∀ w ∈ u_ws C9 T N, w ∈ w0 :: AW) (ty0 : Nat → FieldType) (hty : ∀ k, k < N → parseFieldDescriptor (T k).2.2.1 = some (ty0 k)) (hnm : ∀ x, x < N → ∀ y, y < N → x ≠ y → (T x).2.1 ≠ (T y).2.1) (hi : I i) {xa : Nat} (hax : a i = xa) (he : c i = .inr (ci, fs)) (hc : vwCl[ci]? = some (C9, T, N)) (k : Nat) (hk : k < N) (hL : Cond.fieldLink own index C9 (T k).2.1 (T k).2.2.1 ∈ AW) (hsm : (T k).1 = C9) (hfin : (T k).2.2.2 = true) (hin2 : K.meth.name = "<init>") (hdecl : (T k).1 = own) (hd : parseFieldDescriptor (T k).2.2.1 = some ty) (hn : narrow ty v = v) (hfit : fits ty v = true) (hl9 : k < fs.length) (d : decode cc pc = .ok (.putfield index, 3)) (hq : pc + 3 = q) (kk : PF K X A Q ce sl q lv st a (va_up c i (.inr (ci, fs.set k v))) I) : PF K X A Q ce sl pc lv (v :: .ref xa :: st) a c I := by
  subst hq; subst hax; intro H locs ls hF hS hl
  obtain ⟨L, hnd, hm, hP, hD⟩ := hF.ws
  obtain ⟨q0, hq0⟩ := List.getElem?_of_mem ((hm i).mpr hi)
  refine va_putF (C := C9) (ref := C9) C.hx C.hb C.hts hin ty0 hty hnm C.hown C.hK hP hD hS q0 ((wI_at hq0).trans (by rw [he])) hc k hk (C.aw hL) (fun _ h9 => by rw [← hsm]; exact h9) hfin hin2 hdecl hd hn hfit hl9 d (fun H1 locs1 hP1 hD1 hS1 => ?_)
  rw [wI_set hnd hq0] at hP1 hD1
  exact kk H1 locs1 ls (FW.of hm hF.1 hP1 hD1) hS1 hl
theorem pf_put {C9 : String} {T : u_T} {N ci index i : Nat} {fs : List Value} {v : Value} {ty : FieldType} (C : CX K X cc own w0 nL ret) (hin : ∀ w ∈ u_ws C9 T N, w ∈ w0 :: AW) (ty0 : Nat → FieldType) (hty : ∀ k, k < N → parseFieldDescriptor (T k).2.2.1 = some (ty0 k)) (hnm : ∀ x, x < N → ∀ y, y < N → x ≠ y → (T x).2.1 ≠ (T y).2.1) (hi : I i) {xa : Nat} (hax : a i = xa) (he : c i = .inr (ci, fs)) (hc : vwCl[ci]? = some (C9, T, N)) (k : Nat) (hk : k < N) (hL : Cond.fieldLink own index C9 (T k).2.1 (T k).2.2.1 ∈ AW) (hsm : (T k).1 = C9) (hfin : (T k).2.2.2 = false) (hd : parseFieldDescriptor (T k).2.2.1 = some ty) (hn : narrow ty v = v) (hfit : fits ty v = true) (hl9 : k < fs.length) (d : decode cc pc = .ok (.putfield index, 3)) (hq : pc + 3 = q) (kk : PF K X A Q ce sl q lv st a (va_up c i (.inr (ci, fs.set k v))) I) : PF K X A Q ce sl pc lv (v :: .ref xa :: st) a c I := by
  subst hq; subst hax; intro H locs ls hF hS hl
  obtain ⟨L, hnd, hm, hP, hD⟩ := hF.ws
  obtain ⟨q0, hq0⟩ := List.getElem?_of_mem ((hm i).mpr hi)
  refine va_put (C := C9) (ref := C9) C.hx C.hb C.hts hin ty0 hty hnm C.hown C.hK hP hD hS q0 ((wI_at hq0).trans (by rw [he])) hc k hk (C.aw hL) (fun _ h9 => by rw [← hsm]; exact h9) hfin hd hn hfit hl9 d (fun H1 locs1 hP1 hD1 hS1 => ?_)
  rw [wI_set hnd hq0] at hP1 hD1
  exact kk H1 locs1 ls (FW.of hm hF.1 hP1 hD1) hS1 hl
theorem pf_alen {i t0 : Nat} {cA : ClassId} {x : vp_A} {ty : FieldType} (C : CX K X cc own w0 nL ret) (hi : I i) {xa : Nat} (hax : a i = xa) (he : c i = .inl (cA, x)) (ht : (gt X)[t0]? = some (cA, ty)) (d : decode cc pc = .ok (.arraylength, 1)) (hq : pc + 1 = q) (kk : PF K X A Q ce sl q lv (.int (nI x.1) :: st) a c I) : PF K X A Q ce sl pc lv (.ref xa :: st) a c I := by
  subst hq; subst hax; intro H locs ls hF hS hl
  obtain ⟨L, hnd, hm, hP, hD⟩ := hF.ws
  obtain ⟨q0, hq0⟩ := List.getElem?_of_mem ((hm i).mpr hi)
  exact va_alen C.hx C.hb C.hK hP q0 t0 ((wI_at hq0).trans (by rw [he])) ht rfl d (kk H locs ls hF hS hl)
theorem pf_iast {i n j : Nat} {f : Nat → Int32} {x y : Int32} (C : CX K X cc own w0 nL ret) (hi : I i) {xa : Nat} (hax : a i = xa) (he : c i = .inl (X.2.1 1, n, .inl f)) (hy : y = nI j) (hj : j < n) (hn : n < 2 ^ 31) (d : decode cc pc = .ok (.iastore, 1)) (hq : pc + 1 = q) (kk : PF K X A Q ce sl q lv st a (va_up c i (.inl (X.2.1 1, n, .inl (va_up f j x)))) I) : PF K X A Q ce sl pc lv (.int x :: .int y :: .ref xa :: st) a c I := by
  subst hq; subst hax; subst hy; intro H locs ls hF hS hl
  obtain ⟨L, hnd, hm, hP, hD⟩ := hF.ws
  obtain ⟨q0, hq0⟩ := List.getElem?_of_mem ((hm i).mpr hi)
  refine va_iast C.hx C.hb C.hK hP hD hS q0 1 ((wI_at hq0).trans (by rw [he])) rfl (vp_in_nI hj hn) d (fun H1 locs1 hP1 hD1 hS1 => ?_)
  rw [show (nI j).toNatClampNeg = j from ix_n (by omega), wI_set hnd hq0] at hP1 hD1
  exact kk H1 locs1 ls (FW.of hm hF.1 hP1 hD1) hS1 hl
theorem pf_aast {i j n k t0 ci : Nat} {cA : ClassId} {r : vw_C} {vs : List Value} {f : Nat → Option Nat} (C : CX K X cc own w0 nL ret) (hi : I i) {xa : Nat} (hax : a i = xa) (he : c i = .inl (cA, n, .inr (.inr (.inr (.inr f))))) (ht : (gt X)[t0]? = some (cA, .object r.1)) (hj : I j) {xb : Nat} (hbx : a j = xb) (hv : c j = .inr (ci, vs)) (hc : vwCl[ci]? = some r) (hk : k < n) (hn : n < 2 ^ 31) (d : decode cc pc = .ok (.aastore, 1)) (hq : pc + 1 = q) (kk : PF K X A Q ce sl q lv st a (va_up c i (.inl (cA, n, .inr (.inr (.inr (.inr (va_up f k (some xb))))))) ) I) : PF K X A Q ce sl pc lv (.ref xb :: .int (nI k) :: .ref xa :: st) a c I := by
  subst hq; subst hax; subst hbx; intro H locs ls hF hS hl
  obtain ⟨L, hnd, hm, hP, hD⟩ := hF.ws
  obtain ⟨q0, hq0⟩ := List.getElem?_of_mem ((hm i).mpr hi)
  obtain ⟨qk, hqk⟩ := List.getElem?_of_mem ((hm j).mpr hj)
  refine va_astq C.hx C.hb C.hK hP hD hS q0 t0 qk ci ((wI_at hq0).trans (by rw [he])) ht ((wI_at hqk).trans (by rw [hv])) hc (vp_in_nI hk hn) d (fun H1 locs1 hP1 hD1 hS1 => ?_)
  rw [show (nI k).toNatClampNeg = k from ix_n (by omega), wI_set hnd hq0] at hP1 hD1
  exact kk H1 locs1 ls (FW.of hm hF.1 hP1 hD1) hS1 hl
theorem FW.push {H H1 : Heap} {L : List Nat} {i h : Nat} {e : va_E} (hm : ∀ j, j ∈ L ↔ I j) (hb : ∀ j, I j → j < NN) (hi : ¬ I i) (hiN : i < NN) (hP : va_P X.1 vwCl (wI a c L ++ [(h, e)]) H1) (hD : va_D A (wI a c L ++ [(h, e)])) : FW X A (va_up a i h) (va_up c i e) (fun j => I j ∨ j = i) H1 := by
  have hiL : i ∉ L := fun z => hi ((hm i).mp z)
  rw [wI_push hiL] at hP hD
  refine FW.of (fun j => ?_) (fun j hj => hj.elim (hb j) (fun z => z ▸ hiN)) hP hD
  rw [List.mem_append, hm, List.mem_singleton]
theorem pf_new {C9 : String} {T : u_T} {N ci index i : Nat} {fs : List Value} (C : CX K X cc own w0 nL ret) (hA : ∀ q, K.s.heap.size ≤ q → A q) (hin : ∀ w ∈ u_ws C9 T N, w ∈ w0 :: AW) (ty : Nat → FieldType) (hty : ∀ k, k < N → parseFieldDescriptor (T k).2.2.1 = some (ty k)) (hl : Cond.classLink own index C9 ∈ AW) (hinst : Cond.instantiable C9 N ∈ AW) (hini : Cond.initialized C9 ∈ AW) (hc : vwCl[ci]? = some (C9, T, N)) (hfs : ∀ j, j < N → defaultValue (ty j) = vp_V fs j) (hi : ¬ I i) (hiN : i < NN) (hR : ce + 1 ≤ K.R.cells ∧ sl + N ≤ K.R.slots) (d : decode cc pc = .ok (.new index, 3)) (hq : pc + 3 = q) (kk : ∀ h : Nat, PF K X A Q (ce + 1) (sl + N) q lv (.ref h :: st) (va_up a i h) (va_up c i (.inr (ci, fs))) (fun j => I j ∨ j = i)) : PF K X A Q ce sl pc lv st a c I := by
  subst hq; intro H locs ls hF hS hl9
  obtain ⟨L, hnd, hm, hP, hD⟩ := hF.ws
  exact va_new (C := C9) C.hx C.hb C.hts hin ty hty C.hown (C.aw hl) (C.aw hinst) (C.aw hini) C.hK hP hD hS hA hc hfs hR.1 hR.2 d (fun h H1 hP1 hD1 hS1 => kk h H1 locs ls (FW.push (H := H) hm hF.1 hi hiN hP1 hD1) hS1 hl9)
theorem pf_newa {i n t0 : Nat} {atype : ArrayType} {ty : FieldType} {a0 : vp_A} {x : Int32} (C : CX K X cc own w0 nL ret) (hA : ∀ q, K.s.heap.size ≤ q → A q) (harr : Cond.arrayClass (newarray.typeOf atype) ∈ AW) (hty : newarray.typeOf atype = ty) {cA0 : ClassId} (ht : (gt X)[t0]? = some (cA0, ty)) (ha : ∀ cA : ClassId, vp_cell cA a0 = arrV cA n (fun _ => defaultValue ty)) (hx : x = nI n) (hn31 : n < 2 ^ 31) (hbytes : n * componentBytes ty ≤ 536870912) (hi : ¬ I i) (hiN : i < NN) (hR : ce + 1 ≤ K.R.cells ∧ sl + n ≤ K.R.slots) (d : decode cc pc = .ok (.newarray atype, 2)) (hq : pc + 2 = q) (kk : ∀ h : Nat, PF K X A Q (ce + 1) (sl + n) q lv (.ref h :: st) (va_up a i h) (va_up c i (.inl (cA0, a0))) (fun j => I j ∨ j = i)) : PF K X A Q ce sl pc lv (.int x :: st) a c I := by
  subst hq; subst hx; intro H locs ls hF hS hl9
  obtain ⟨L, hnd, hm, hP, hD⟩ := hF.ws
  refine va_newa C.hx C.hb (C.aw harr) hty C.hK hP hD hS hA ha (fun z => absurd (nI_pos' hn31) (Int32.not_le.mpr z)) (ix_n (by omega)) hbytes hR.1 hR.2 d (fun h cA H1 hK1 hP1 hD1 hS1 => ?_)
  have hcA : cA = cA0 := ra_inj (hK1.2 5 (cA, ty) rfl).2 (C.hK.2 t0 _ ht).2
  subst hcA
  exact kk h H1 locs ls (FW.push (H := H) hm hF.1 hi hiN hP1 hD1) hS1 hl9
theorem pf_newq {i n t0 index : Nat} {C9 : String} {x : Int32} (C : CX K X cc own w0 nL ret) (hA : ∀ q, K.s.heap.size ≤ q → A q) (hl : Cond.classLink own index C9 ∈ AW) (hov : va_AO C9 K.s) {cA0 : ClassId} (ht : (gt X)[t0]? = some (cA0, .object C9)) (hx : x = nI n) (hn31 : n < 2 ^ 20) (hi : ¬ I i) (hiN : i < NN) (hR : ce + 1 ≤ K.R.cells ∧ sl + n ≤ K.R.slots) (d : decode cc pc = .ok (.anewarray index, 3)) (hq : pc + 3 = q) (kk : ∀ h : Nat, PF K X A Q (ce + 1) (sl + n) q lv (.ref h :: st) (va_up a i h) (va_up c i (.inl (cA0, n, .inr (.inr (.inr (.inr (fun _ => none))))))) (fun j => I j ∨ j = i)) : PF K X A Q ce sl pc lv (.int x :: st) a c I := by
  subst hq; subst hx; intro H locs ls hF hS hl9
  obtain ⟨L, hnd, hm, hP, hD⟩ := hF.ws
  refine va_newq C.hx C.hb C.hown (C.aw hl) hov C.hK hP hD hS hA (fun z => absurd (nI_pos' (by omega)) (Int32.not_le.mpr z)) (ix_n (by omega)) (by omega) hR.1 hR.2 d (fun h cA H1 hK1 hP1 hD1 hS1 => ?_)
  have hcA : cA = cA0 := ra_inj (hK1.2 5 (cA, .object C9) rfl).2 (C.hK.2 t0 _ ht).2
  subst hcA
  exact kk h H1 locs ls (FW.push (H := H) hm hF.1 hi hiN hP1 hD1) hS1 hl9
theorem FW.join {A0 J : Nat → Prop} {H H1 : Heap} {i h : Nat} {e0 : va_E} {u : Nat → Nat} {cu : Nat → va_E} (hF : FW X A0 a c I H) (hi : I i) (hai : a i = h) (hJ : ∀ j, J j → j = i ∨ ¬ I j) (hJi : J i) (hk : ∀ q : Nat, q < H.size → ¬ va_A [(h, e0)] H.size q → H1[q]? = H[q]?) (hA : ∀ q, va_A [(h, e0)] H.size q → A0 q) (hF1 : FW X (va_A [(h, e0)] H.size) u cu J H1) {a2 : Nat → Nat} {c2 : Nat → va_E} (ha2 : ∀ j, J j → a2 j = u j) (ha3 : ∀ j, ¬ J j → a2 j = a j) (hc2 : ∀ j, J j → c2 j = cu j) (hc3 : ∀ j, ¬ J j → c2 j = c j) : FW X A0 a2 c2 (fun j => I j ∨ J j) H1 := by
  have apart : ∀ j, I j → ¬ J j → a j < H.size ∧ ¬ va_A [(h, e0)] H.size (a j) := fun j hj hnj => by
    have hlt := (hF.2.1 j hj).lt
    refine ⟨hlt, ?_⟩
    rintro (⟨k, e, z⟩ | z)
    · have : k = 0 := by
        have := (List.getElem?_eq_some_iff.mp z).1
        simp at this
        omega
      subst this
      cases z
      exact hnj (hF.2.2.1 j i hj hi hai.symm ▸ hJi)
    · exact absurd hlt (Nat.not_lt.mpr z)
  refine ⟨fun j hj => hj.elim (hF.1 j) (hF1.1 j), fun j hj => ?_, fun j k hj hk2 he => ?_, fun j hj => ?_⟩
  · by_cases hJj : J j
    · rw [ha2 j hJj, hc2 j hJj]; exact hF1.2.1 j hJj
    · have hIj := hj.resolve_right hJj
      rw [ha3 j hJj, hc3 j hJj]
      obtain ⟨g1, g2⟩ := apart j hIj hJj
      exact (hF.2.1 j hIj).kept (hk _ g1 g2)
  · by_cases hJj : J j <;> by_cases hJk : J k
    · rw [ha2 j hJj, ha2 k hJk] at he
      exact hF1.2.2.1 j k hJj hJk he
    · have hIk := hk2.resolve_right hJk
      rw [ha2 j hJj, ha3 k hJk] at he
      exact absurd (he ▸ hF1.2.2.2 j hJj) (apart k hIk hJk).2
    · have hIj := hj.resolve_right hJj
      rw [ha3 j hJj, ha2 k hJk] at he
      exact absurd (he ▸ hF1.2.2.2 k hJk) (apart j hIj hJj).2
    · rw [ha3 j hJj, ha3 k hJk] at he
      exact hF.2.2.1 j k (hj.resolve_right hJj) (hk2.resolve_right hJk) he
  · by_cases hJj : J j
    · rw [ha2 j hJj]; exact hA _ (hF1.2.2.2 j hJj)
    · rw [ha3 j hJj]; exact hF.2.2.2 j (hj.resolve_right hJj)
/-- the addresses, the contents behind the call of a maker -/
noncomputable def mA (J : Nat → Prop) (u a : Nat → Nat) : Nat → Nat := fun j => @ite _ (J j) (Classical.propDecidable _) (u j) (a j)
noncomputable def mC (J : Nat → Prop) (u c : Nat → va_E) : Nat → va_E := fun j => @ite _ (J j) (Classical.propDecidable _) (u j) (c j)
theorem mA_in {J : Nat → Prop} {u a : Nat → Nat} {j : Nat} (h : J j) : mA J u a j = u j := if_pos h
theorem mA_out {J : Nat → Prop} {u a : Nat → Nat} {j : Nat} (h : ¬ J j) : mA J u a j = a j := if_neg h
theorem mC_in {J : Nat → Prop} {u c : Nat → va_E} {j : Nat} (h : J j) : mC J u c j = u j := if_pos h
theorem mC_out {J : Nat → Prop} {u c : Nat → va_E} {j : Nat} (h : ¬ J j) : mC J u c j = c j := if_neg h
theorem pi_blind {av : List Value} {e0 : va_E} {h sz : Nat} : FrameBlind (va_Pc av (PreI X e0 h sz)) := fun b U g mk q => by
  obtain ⟨q0, q1, qP, qK, qI, qN⟩ := q
  exact ⟨q0, q1, qP, va_K.moved (u := U) (U := U.calling g mk b) (Vm.Alike.refl U.vm) qK, ⟨va_AO.moved (u := U) (U := U.calling g mk b) (Vm.Alike.refl U.vm) qI.1, va_AO.moved (u := U) (U := U.calling g mk b) (Vm.Alike.refl U.vm) qI.2.1, va_AO.moved (u := U) (U := U.calling g mk b) (Vm.Alike.refl U.vm) qI.2.2⟩, fun w hw => va_Nw.same (by simp only [ikw, List.mem_cons, List.not_mem_nil, or_false] at hw; rcases hw with rfl | rfl | rfl | rfl <;> rfl) (u := U) rfl (qN w hw)⟩
section PFC
variable {l : Launch} {y : MethodName} {bytes : ByteArray} {maxL mc ms index i : Nat} {rm : Room} {e0 : va_E} {J : Nat → Prop} {rest : List Value}
theorem pf_callI (C : CX K X cc own w0 nL ret) (hA : ∀ q, K.s.heap.size ≤ q → A q) (hIK : IK K.s) (hKl : K.2.1 = l) (hM : IG l X y bytes maxL rm e0 i J mc ms) (hL : Cond.methodLink own index y ∈ AW) (hw1 : Cond.code y bytes maxL none ∈ AW) (hw2 : Cond.instanceMethod y ∈ AW) (hw3 : Cond.initialized y.cls ∈ AW) (hy : y.name = "<init>") (hyc : y.cls ≠ "java/lang/invoke/MethodHandle" ∧ y.cls ≠ "java/lang/invoke/VarHandle" ∧ (parseMethodDescriptor y.desc).map (fun d => d.parameters.length) = some 0) (hrm : rm.cells = mc ∧ rm.slots = ms) (hR : rm.frames + 1 ≤ K.R.frames ∧ 8 + (maxL + 11) + rm.locals ≤ K.R.locals) (hcs : ce + mc ≤ K.R.cells ∧ sl + ms ≤ K.R.slots) (hi : I i) {xa : Nat} (hax : a i = xa) (hci : c i = e0) (hJi : J i) (hJ : ∀ j, J j → j = i ∨ ¬ I j) (hlv : lv.length = nL) (hsum : (rest.map fun v => v.category).sum ≤ 8) (d : decode cc pc = .ok (.invokespecial index, 3)) (hq : pc + 3 = q) (kk : ∀ u : Nat → Nat, u i = xa → PF K X A Q (ce + mc) (sl + ms) q lv rest (mA J u a) (mC J (bI X u) c) (fun j => I j ∨ J j)) : PF K X A Q ce sl pc lv (.ref xa :: rest) a c I := by
  subst hq; subst hKl; subst hax; intro H locs ls hF hS hl
  have hP1 : va_P X.1 vwCl [(a i, e0)] H := fun k x hx => by
    have : k = 0 := by
      have := (List.getElem?_eq_some_iff.mp hx).1
      simp at this
      omega
    subst this
    cases hx
    exact hci ▸ hF.2.1 i hi
  have hFr : ∀ z, va_A [(a i, e0)] H.size z → A z := by
    rintro z (⟨k, e, hz⟩ | hz)
    · have : k = 0 := by
        have := (List.getElem?_eq_some_iff.mp hz).1
        simp at this
        omega
      subst this
      cases hz
      exact hF.2.2.2 i hi
    · exact hA z (Nat.le_trans hS.1 hz)
  refine va_callv (va_runI (As := []) (rest := rest) (nL := nL) ⟨C.hx, C.hb, C.hn, C.hown, C.hts⟩ (hM (a i) H.size) (cwI 0 C.hts (gi_ws hw1) rfl hrm.1 hrm.2 (C.aw hw3) (C.aw hL) (C.aw hw2) hy hyc hR) ⟨pi_blind, fun U hU hW => ⟨rfl, by rw [hU], by rw [hU]; exact hP1, va_K.moved hW.alike C.hK, IK.warm hW hIK⟩⟩ rfl rfl (hl.1.trans hlv) rfl (lv_room hsum) d hcs) hS (fun z _ h => hFr z h) hFr (fun u t H1 locs1 ht hvm hw hB hz hk hS1 => ?_)
  refine kk u hw H1 locs1 ls (FW.join hF hi rfl hJ hJi hk hFr (ht ▸ hB.1) (fun j => mA_in) (fun j => mA_out) (fun j => mC_in) (fun j => mC_out)) hS1 hl
theorem pf_callIN {host : String} (C : CX K X cc own w0 nL ret) (hA : ∀ q, K.s.heap.size ≤ q → A q) (hIK : IK K.s) (hKl : K.2.1 = l) (hM : IG l X y bytes maxL rm e0 i J mc ms) (hN : va_Nw (.methodLinkNest own index y host) K.s) (hw1 : Cond.code y bytes maxL none ∈ AW) (hw2 : Cond.instanceMethod y ∈ AW) (hw3 : Cond.initialized y.cls ∈ AW) (hy : y.name = "<init>") (hyc : y.cls ≠ "java/lang/invoke/MethodHandle" ∧ y.cls ≠ "java/lang/invoke/VarHandle" ∧ (parseMethodDescriptor y.desc).map (fun d => d.parameters.length) = some 0) (hrm : rm.cells = mc ∧ rm.slots = ms) (hR : rm.frames + 1 ≤ K.R.frames ∧ 8 + (maxL + 11) + rm.locals ≤ K.R.locals) (hcs : ce + mc ≤ K.R.cells ∧ sl + ms ≤ K.R.slots) (hi : I i) {xa : Nat} (hax : a i = xa) (hci : c i = e0) (hJi : J i) (hJ : ∀ j, J j → j = i ∨ ¬ I j) (hlv : lv.length = nL) (hsum : (rest.map fun v => v.category).sum ≤ 8) (d : decode cc pc = .ok (.invokespecial index, 3)) (hq : pc + 3 = q) (kk : ∀ u : Nat → Nat, u i = xa → PF K X A Q (ce + mc) (sl + ms) q lv rest (mA J u a) (mC J (bI X u) c) (fun j => I j ∨ J j)) : PF K X A Q ce sl pc lv (.ref xa :: rest) a c I := by
  subst hq; subst hKl; subst hax; intro H locs ls hF hS hl
  have hP1 : va_P X.1 vwCl [(a i, e0)] H := fun k x hx => by
    have : k = 0 := by
      have := (List.getElem?_eq_some_iff.mp hx).1
      simp at this
      omega
    subst this
    cases hx
    exact hci ▸ hF.2.1 i hi
  have hFr : ∀ z, va_A [(a i, e0)] H.size z → A z := by
    rintro z (⟨k, e, hz⟩ | hz)
    · have : k = 0 := by
        have := (List.getElem?_eq_some_iff.mp hz).1
        simp at this
        omega
      subst this
      cases hz
      exact hF.2.2.2 i hi
    · exact hA z (Nat.le_trans hS.1 hz)
  refine va_callv (va_runIN (As := []) (rest := rest) (nL := nL) ⟨C.hx, C.hb, C.hn, C.hown, C.hts⟩ (hM (a i) H.size) ⟨va_cnB 0 C.hts (gi_ws hw1) rfl hrm.1 hrm.2 hN (C.aw hw3) hyc hR, hy, C.aw hw2⟩ ⟨pi_blind, fun U hU hW => ⟨rfl, by rw [hU], by rw [hU]; exact hP1, va_K.moved hW.alike C.hK, IK.warm hW hIK⟩⟩ rfl rfl (hl.1.trans hlv) rfl (lv_room hsum) d hcs) hS (fun z _ h => hFr z h) hFr (fun u t H1 locs1 ht hvm hw hB hz hk hS1 => ?_)
  refine kk u hw H1 locs1 ls (FW.join hF hi rfl hJ hJi hk hFr (ht ▸ hB.1) (fun j => mA_in) (fun j => mA_out) (fun j => mC_in) (fun j => mC_out)) hS1 hl
end PFC
theorem pf_vret {J : Nat → Prop} {B h mc ms : Nat} (C : CX K X cc own w0 nL none) (hJ : ∀ i, J i → I i) (hc : ∀ i, J i → qE X (c i) (bI X a i)) (hB : a B = h) (h1 : ce ≤ mc) (h2 : sl ≤ ms) (d : decode cc pc = .ok (.return_, 1)) : PF K X A (IQ K X A J B h mc ms) ce sl pc lv [] a c I := by
  refine PF_widen h1 h2 ?_
  intro H locs ls hF hS hl
  exact W.vret C.hx C.hb C.hr (fun t ht hW => ⟨⟨a, rfl, hB, by rw [ht]; exact (hF.iff hJ).re hc, va_K.moved hW.alike C.hK⟩, hS.F ht⟩) hS.2.2 d C.hlk
end PFR
