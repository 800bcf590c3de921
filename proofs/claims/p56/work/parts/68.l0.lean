/-! the law: what it calls, what it reads -/
def NC (U : State) : Prop := va_Nc eIAE eIOE U ∧ va_Nc eISE eIOE U ∧ va_Nc eISE eIAE U
theorem NC.moved {u U : State} (hvm : u.vm.Alike U.vm) (h : NC u) : NC U := ⟨va_Nc.moved hvm h.1, va_Nc.moved hvm h.2.1, va_Nc.moved hvm h.2.2⟩
def PreL (X : XT) (D : DT) (P : PT) (sz : Nat) (U : State) : Prop := PreZ X D P sz U ∧ NC U
theorem pl_blind {X : XT} {D : DT} {P : PT} {sz : Nat} {av : List Value} : FrameBlind (va_Pc av (PreL X D P sz)) := fun a U g mk q => by
  obtain ⟨q0, q1, q2⟩ := q
  have := pz_blind (X := X) (D := D) (P := P) (sz := sz) (av := av) a U g mk ⟨q0, q1⟩
  exact ⟨this.1, this.2, NC.moved (u := U) (U := U.calling g mk a) (Vm.Alike.refl U.vm) q2⟩
abbrev HT : Type := List (Nat × Nat × Nat × Nat)
/-- a method of the law over one object's pool: it throws nothing -/
def LM (l : Launch) (X : XT) (y : MethodName) (w0 : Cond) (rm : Room) (av : List Value) (Qc : QcT) (D : DT) (P : PT) (mc ms : Nat) : Prop := ∀ sz : Nat, vx_Met l y (w0 :: AW) rm (va_Pc av (PreL X D P sz)) (Qc sz) (XC X (fun _ _ _ => False) sz) mc ms (gA X sz)
theorem lm_ofH {l : Launch} {X : XT} {y : MethodName} {cc : ByteArray} {maxL : Nat} {ret : Option FieldType} {hh : HT} {rm : Room} {av : List Value} {Qc : QcT} {D : DT} {P : PT} {mc ms : Nat} (hy : plainName y.cls = true) (hlen : (lvX av).length ≤ maxL)
    (body : ∀ K : KT, K.2.1 = l → K.R = rm → CX K X cc y.cls (.codeWith y cc maxL ret hh) maxL ret → K.c.exceptionTable.toList = tableOf hh → ZX X K.s.heap.size K.s K.s.heap → NC K.s → PV K X (XK K X Qc (fun _ _ _ => False) mc ms) 0 0 0 (lvE av maxL) [] D P) : LM l X y (.codeWith y cc maxL ret hh) rm av Qc D P mc ms := by
  intro sz
  refine vx_ofWH (cc := cc) (maxL := maxL) (ret := ret) (hh := hh) hy rfl ?_
  intro p e s m args below meth c s₁ B hml hv
  obtain ⟨rfl, ⟨⟨hsz, hP, hK, hI⟩, hZ⟩, hN⟩ := hv
  subst hsz
  have hts : ∀ w ∈ Cond.codeWith y cc maxL ret hh :: AW, w.before av.toArray s = true := atoms_spec (ws := Cond.codeWith y cc maxL ret hh :: AW) B.pre
  rw [lg_entry_eq]
  exact body (p, l, e, rm, s, m, av.toArray, below, meth, c) rfl rfl ⟨B.exec, B.bytes, findClass_of_methodNamed B.named, hts, hK, hI, hml, B.notSynchronized, B.returns⟩ (vx_table (x := y) B (hts _ List.mem_cons_self)) hZ hN s.heap [] _ hP va_S.rf (lvh_E hlen)
theorem lm_of {l : Launch} {X : XT} {y : MethodName} {cc : ByteArray} {maxL : Nat} {ret : Option FieldType} {rm : Room} {av : List Value} {Qc : QcT} {D : DT} {P : PT} {mc ms : Nat} (hy : plainName y.cls = true) (hlen : (lvX av).length ≤ maxL)
    (body : ∀ K : KT, K.2.1 = l → K.R = rm → CX K X cc y.cls (.code y cc maxL ret) maxL ret → ZX X K.s.heap.size K.s K.s.heap → NC K.s → PV K X (XK K X Qc (fun _ _ _ => False) mc ms) 0 0 0 (lvE av maxL) [] D P) : LM l X y (.code y cc maxL ret) rm av Qc D P mc ms := by
  intro sz
  refine vx_ofW (cc := cc) (maxL := maxL) (ret := ret) hy rfl ?_
  intro p e s m args below meth c s₁ B hml htab hv
  obtain ⟨rfl, ⟨⟨hsz, hP, hK, hI⟩, hZ⟩, hN⟩ := hv
  subst hsz
  have hts : ∀ w ∈ Cond.code y cc maxL ret :: AW, w.before av.toArray s = true := atoms_spec (ws := Cond.code y cc maxL ret :: AW) B.pre
  rw [lg_entry_eq]
  exact body (p, l, e, rm, s, m, av.toArray, below, meth, c) rfl rfl ⟨B.exec, B.bytes, findClass_of_methodNamed B.named, hts, hK, hI, hml, B.notSynchronized, B.returns⟩ hZ hN s.heap [] _ hP va_S.rf (lvh_E hlen)
section LawRows
variable {K : KT} {X : XT} {cc : ByteArray} {own : String} {w0 : Cond} {nL : Nat} {rt : Option FieldType} {Q : State → Prop} {ce sl pc q mc ms index maxL n : Nat} {lv : List (Option Value)} {st rest As : List Value} {D : DT} {P : PT} {y : MethodName} {bytes : ByteArray} {ret : Option FieldType} {rm : Room} {l : Launch}
theorem pv_l2i {x : Int64} {v : Int32} (C : CX K X cc own w0 nL rt) (d : decode cc pc = .ok (.l2i, 1)) (hq : pc + 1 = q) (hv : x.toInt32 = v) (k : PV K X Q ce sl q lv (.int v :: st) D P) : PV K X Q ce sl pc lv (.long x :: st) D P := by
  subst hq; intro H locs ls hP hS hl; exact lv_l2i C.hx C.hb d hv (k H locs ls hP hS hl)
theorem pv_land {x y : Int64} (C : CX K X cc own w0 nL rt) (d : decode cc pc = .ok (.land, 1)) (hq : pc + 1 = q)  (k : PV K X Q ce sl q lv (.long (x &&& y) :: st) D P) : PV K X Q ce sl pc lv (.long y :: .long x :: st) D P := by
  subst hq; intro H locs ls hP hS hl; exact lv_land C.hx C.hb d (k H locs ls hP hS hl)
theorem pv_lshr {x v : Int64} {y : Int32} (C : CX K X cc own w0 nL rt) (d : decode cc pc = .ok (.lshr, 1)) (hq : pc + 1 = q) (hv : x >>> (y.toInt64 &&& 63) = v) (k : PV K X Q ce sl q lv (.long v :: st) D P) : PV K X Q ce sl pc lv (.int y :: .long x :: st) D P := by
  subst hq; intro H locs ls hP hS hl; exact lv_lshr C.hx C.hb d hv (k H locs ls hP hS hl)
theorem pv_ishr {x y : Int32} (C : CX K X cc own w0 nL rt) (d : decode cc pc = .ok (.ishr, 1)) (hq : pc + 1 = q)  (k : PV K X Q ce sl q lv (.int (x >>> (y &&& 31)) :: st) D P) : PV K X Q ce sl pc lv (.int y :: .int x :: st) D P := by
  subst hq; intro H locs ls hP hS hl; exact lv_ishr C.hx C.hb d (k H locs ls hP hS hl)
theorem pv_lrem {x y : Int64} (C : CX K X cc own w0 nL rt) (d : decode cc pc = .ok (.lrem, 1)) (hq : pc + 1 = q) (hne : ¬ y = 0) (k : PV K X Q ce sl q lv (.long (x - x / y * y) :: st) D P) : PV K X Q ce sl pc lv (.long y :: .long x :: st) D P := by
  subst hq; intro H locs ls hP hS hl; exact lv_lrem C.hx C.hb d hne (k H locs ls hP hS hl)
theorem pv_ldiv {x y : Int64} (C : CX K X cc own w0 nL rt) (d : decode cc pc = .ok (.ldiv, 1)) (hq : pc + 1 = q) (hne : ¬ y = 0) (k : PV K X Q ce sl q lv (.long (x / y) :: st) D P) : PV K X Q ce sl pc lv (.long y :: .long x :: st) D P := by
  subst hq; intro H locs ls hP hS hl; exact lv_ldiv C.hx C.hb d hne (k H locs ls hP hS hl)
theorem pv_callVixH {b ci : Nat} {cq : vw_C} {post : Int32 → DT → PT → Prop} {pc0 : String → DT → PT → Prop} (C : CX K X cc own w0 nL rt) (Z : ZX X K.s.heap.size K.s K.s.heap) (hKl : K.2.1 = l) (hM : XG l X y (.code y bytes maxL ret :: AW) rm (.ref (X.2.2 b) :: As) (qI X post) pc0 D P mc ms) (hL : Cond.methodLink own index y ∈ AW) (hk : kd b = ci) (hci : ci < 7) (hcq : vwCl[ci]? = some cq) (M : MM cq.1 y bytes maxL ret n) (hrm : rm.cells = mc ∧ rm.slots = ms) (hR : rm.frames + 1 ≤ K.R.frames ∧ 8 + (maxL + 11) + rm.locals ≤ K.R.locals) (hcs : ce + mc ≤ K.R.cells ∧ sl + ms ≤ K.R.slots) (hn : As.length = n) (hlv : lv.length = nL) (hst : st = As.reverse ++ .ref (X.2.2 b) :: rest) (hsum : (rest.map fun v => v.category).sum ≤ 8) (d : decode cc pc = .ok (.invokevirtual index, 3)) (hq : pc + 3 = q)
    (kx : ∀ (E : String) (D' : DT) (P' : PT), pc0 E D' P' → ∃ (pre : List ExceptionTableEntry) (x : ExceptionTableEntry) (suf : List ExceptionTableEntry), K.c.exceptionTable.toList = pre ++ x :: suf ∧ (∀ z ∈ pre, covers z pc = false ∨ (z.catchType ≠ 0 ∧ ∃ nm : String, Cond.classLink own z.catchType nm ∈ AW ∧ va_Nc E nm K.s)) ∧ covers x pc = true ∧ x.catchType ≠ 0 ∧ Cond.classLink own x.catchType E ∈ AW ∧ va_Nw (.castable E E) K.s ∧ ∀ q9 : Nat, PV K X Q (ce + mc) (sl + ms) x.handlerPc lv [.ref q9] D' P')
    (k : ∀ (r : Int32) (D' : DT) (P' : PT), post r D' P' → PV K X Q (ce + mc) (sl + ms) q lv (.int r :: rest) D' P') : PV K X Q ce sl pc lv st D P := by
  subst hq; subst hst; subst hKl; intro H locs ls hP hS hl
  obtain ⟨fs, hfs⟩ := gc_obj (X := X) (D := D) (P := P) hk hci
  exact vx_calli (vx_runV (As := As) (rest := rest) (nL := nL) ⟨C.hx, C.hb, C.hn, C.hown, C.hts⟩ (hM H.size) (cwV n C.hts (gi_V hL M) rfl hrm.1 hrm.2 ⟨M.2.2.2.2.1, by rw [M.2.2.2.2.1]; exact M.2.2.2.2.2.1.1, by rw [M.2.2.2.2.1]; exact M.2.2.2.2.2.1.2, M.2.2.2.2.2.2⟩ hR) ⟨pz_blind, va_recv C.hK hP (ci := ci) (q0 := pl b) hcq ((gw_at (kd_lv hk (by omega))).trans (congrArg (fun e => some (X.2.2 b, e)) hfs)), fun U hU hW => ⟨rfl, ⟨by rw [hU], by rw [hU]; exact hP, va_K.moved hW.alike C.hK, C.hI⟩, by rw [hU]; exact Z.go hW hS⟩⟩ rfl hn (hl.1.trans hlv) rfl (lv_room hsum) d hcs) hS (fun q _ h => gA_mono hS.1 h) (fun q h => gA_mono hS.1 h) (fun q _ h => gA_mono hS.1 h) (fun E ce9 q9 u t H1 locs1 ht hvm _ hB hz hk hS1 hc9 hv9 hcl9 => by
    obtain ⟨pre, x, suf, e1, e2, e3, e4, e5, e6, e7⟩ := kx E u.1 u.2 hB.1
    exact vx_catch C.hown pre x suf e1 (fun z hz => (e2 z hz).imp id (fun g => ⟨g.1, g.2.choose, C.aw g.2.choose_spec.1, g.2.choose_spec.2⟩)) e3 e4 (C.aw e5) (va_Nw.use rfl e6) hc9 hv9 hcl9 (e7 q9 H1 locs1 ls (by rw [← ht]; exact hB.2.1) hS1 hl)) (fun r u t H1 locs1 ht hvm hw hB hz hk hS1 => k r u.1 u.2 hw H1 locs1 ls (ht ▸ hB.1) hS1 hl)
def MSW (y : MethodName) (bytes : ByteArray) (maxL : Nat) (ret : Option FieldType) (hh : HT) (n : Nat) : Prop := Cond.static y ∈ AW ∧ Cond.initialized y.cls ∈ AW ∧ Cond.codeWith y bytes maxL ret hh ∈ AW ∧ (y.cls ≠ "java/lang/invoke/MethodHandle" ∧ y.cls ≠ "java/lang/invoke/VarHandle") ∧ (parseMethodDescriptor y.desc).map (fun d => d.parameters.length) = some n
theorem gi_SW {hh : HT} (hL : Cond.methodLink own index y ∈ AW) (M : MSW y bytes maxL ret hh n) : GoodIn (w0 :: AW) (va_wsS own index y (.codeWith y bytes maxL ret hh :: AW)) := by
  refine gi_AW fun w hw => ?_
  simp only [va_wsS, List.mem_append, List.mem_cons, List.not_mem_nil, or_false] at hw
  rcases hw with (rfl | rfl | rfl) | (rfl | hw)
  · exact hL
  · exact M.1
  · exact M.2.1
  · exact M.2.2.1
  · exact hw
/-- the call of a method of the law: with a table of handlers, without -/
theorem pv_callLl {post : Int64 → DT → PT → Prop} {hh : HT} (C : CX K X cc own w0 nL rt) (Z : ZX X K.s.heap.size K.s K.s.heap) (N : NC K.s) (hKl : K.2.1 = l) (hM : LM l X y (.codeWith y bytes maxL ret hh) rm As (qL X post) D P mc ms) (hL : Cond.methodLink own index y ∈ AW) (M : MSW y bytes maxL ret hh n) (hrm : rm.cells = mc ∧ rm.slots = ms) (hR : rm.frames + 1 ≤ K.R.frames ∧ 8 + (maxL + 11) + rm.locals ≤ K.R.locals) (hcs : ce + mc ≤ K.R.cells ∧ sl + ms ≤ K.R.slots) (hn : As.length = n) (hlv : lv.length = nL) (hst : st = As.reverse ++ rest) (hsum : (rest.map fun v => v.category).sum ≤ 8) (d : decode cc pc = .ok (.invokestatic index, 3)) (hq : pc + 3 = q) (k : ∀ (r : Int64) (D' : DT) (P' : PT), post r D' P' → PV K X Q (ce + mc) (sl + ms) q lv (.long r :: rest) D' P') : PV K X Q ce sl pc lv st D P := by
  subst hq; subst hst; subst hKl; intro H locs ls hP hS hl
  exact vx_calll (vx_runSX (hh := hh) (As := As) (rest := rest) (nL := nL) ⟨C.hx, C.hb, C.hn, C.hown, C.hts⟩ (hM H.size) (vx_cwSW n C.hts (gi_SW hL M) rfl hrm.1 hrm.2 ⟨M.2.2.2.1.1, M.2.2.2.1.2, M.2.2.2.2⟩ hR) ⟨pl_blind, fun U hU hW => ⟨rfl, ⟨⟨by rw [hU], by rw [hU]; exact hP, va_K.moved hW.alike C.hK, C.hI⟩, by rw [hU]; exact Z.go hW hS⟩, N.moved hW.alike⟩⟩ rfl hn (hl.1.trans hlv) rfl (lv_room hsum) d hcs) hS (fun q _ h => gA_mono hS.1 h) (fun q h => gA_mono hS.1 h) (fun q _ h => gA_mono hS.1 h) (fun E ce9 q9 u t H1 locs1 ht hvm _ hB hz hk hS1 hc9 hv9 hcl9 => absurd hB.1 id) (fun r u t H1 locs1 ht hvm hw hB hz hk hS1 => k r u.1 u.2 hw H1 locs1 ls (ht ▸ hB.1) hS1 hl)
theorem pv_callMl {post : Int64 → DT → PT → Prop} (C : CX K X cc own w0 nL rt) (Z : ZX X K.s.heap.size K.s K.s.heap) (N : NC K.s) (hKl : K.2.1 = l) (hM : LM l X y (.code y bytes maxL ret) rm As (qL X post) D P mc ms) (hL : Cond.methodLink own index y ∈ AW) (M : MS y bytes maxL ret n) (hrm : rm.cells = mc ∧ rm.slots = ms) (hR : rm.frames + 1 ≤ K.R.frames ∧ 8 + (maxL + 11) + rm.locals ≤ K.R.locals) (hcs : ce + mc ≤ K.R.cells ∧ sl + ms ≤ K.R.slots) (hn : As.length = n) (hlv : lv.length = nL) (hst : st = As.reverse ++ rest) (hsum : (rest.map fun v => v.category).sum ≤ 8) (d : decode cc pc = .ok (.invokestatic index, 3)) (hq : pc + 3 = q) (k : ∀ (r : Int64) (D' : DT) (P' : PT), post r D' P' → PV K X Q (ce + mc) (sl + ms) q lv (.long r :: rest) D' P') : PV K X Q ce sl pc lv st D P := by
  subst hq; subst hst; subst hKl; intro H locs ls hP hS hl
  exact vx_calll (vx_runS (As := As) (rest := rest) (nL := nL) ⟨C.hx, C.hb, C.hn, C.hown, C.hts⟩ (hM H.size) (va_cwS n C.hts (gi_S hL M) rfl hrm.1 hrm.2 ⟨M.2.2.2.1.1, M.2.2.2.1.2, M.2.2.2.2⟩ hR) ⟨pl_blind, fun U hU hW => ⟨rfl, ⟨⟨by rw [hU], by rw [hU]; exact hP, va_K.moved hW.alike C.hK, C.hI⟩, by rw [hU]; exact Z.go hW hS⟩, N.moved hW.alike⟩⟩ rfl hn (hl.1.trans hlv) rfl (lv_room hsum) d hcs) hS (fun q _ h => gA_mono hS.1 h) (fun q h => gA_mono hS.1 h) (fun q _ h => gA_mono hS.1 h) (fun E ce9 q9 u t H1 locs1 ht hvm _ hB hz hk hS1 hc9 hv9 hcl9 => absurd hB.1 id) (fun r u t H1 locs1 ht hvm hw hB hz hk hS1 => k r u.1 u.2 hw H1 locs1 ls (ht ▸ hB.1) hS1 hl)
/-- the call of a method of the law: with a table of handlers, without -/
theorem pv_callLi {post : Int32 → DT → PT → Prop} {hh : HT} (C : CX K X cc own w0 nL rt) (Z : ZX X K.s.heap.size K.s K.s.heap) (N : NC K.s) (hKl : K.2.1 = l) (hM : LM l X y (.codeWith y bytes maxL ret hh) rm As (qI X post) D P mc ms) (hL : Cond.methodLink own index y ∈ AW) (M : MSW y bytes maxL ret hh n) (hrm : rm.cells = mc ∧ rm.slots = ms) (hR : rm.frames + 1 ≤ K.R.frames ∧ 8 + (maxL + 11) + rm.locals ≤ K.R.locals) (hcs : ce + mc ≤ K.R.cells ∧ sl + ms ≤ K.R.slots) (hn : As.length = n) (hlv : lv.length = nL) (hst : st = As.reverse ++ rest) (hsum : (rest.map fun v => v.category).sum ≤ 8) (d : decode cc pc = .ok (.invokestatic index, 3)) (hq : pc + 3 = q) (k : ∀ (r : Int32) (D' : DT) (P' : PT), post r D' P' → PV K X Q (ce + mc) (sl + ms) q lv (.int r :: rest) D' P') : PV K X Q ce sl pc lv st D P := by
  subst hq; subst hst; subst hKl; intro H locs ls hP hS hl
  exact vx_calli (vx_runSX (hh := hh) (As := As) (rest := rest) (nL := nL) ⟨C.hx, C.hb, C.hn, C.hown, C.hts⟩ (hM H.size) (vx_cwSW n C.hts (gi_SW hL M) rfl hrm.1 hrm.2 ⟨M.2.2.2.1.1, M.2.2.2.1.2, M.2.2.2.2⟩ hR) ⟨pl_blind, fun U hU hW => ⟨rfl, ⟨⟨by rw [hU], by rw [hU]; exact hP, va_K.moved hW.alike C.hK, C.hI⟩, by rw [hU]; exact Z.go hW hS⟩, N.moved hW.alike⟩⟩ rfl hn (hl.1.trans hlv) rfl (lv_room hsum) d hcs) hS (fun q _ h => gA_mono hS.1 h) (fun q h => gA_mono hS.1 h) (fun q _ h => gA_mono hS.1 h) (fun E ce9 q9 u t H1 locs1 ht hvm _ hB hz hk hS1 hc9 hv9 hcl9 => absurd hB.1 id) (fun r u t H1 locs1 ht hvm hw hB hz hk hS1 => k r u.1 u.2 hw H1 locs1 ls (ht ▸ hB.1) hS1 hl)
theorem pv_callMi {post : Int32 → DT → PT → Prop} (C : CX K X cc own w0 nL rt) (Z : ZX X K.s.heap.size K.s K.s.heap) (N : NC K.s) (hKl : K.2.1 = l) (hM : LM l X y (.code y bytes maxL ret) rm As (qI X post) D P mc ms) (hL : Cond.methodLink own index y ∈ AW) (M : MS y bytes maxL ret n) (hrm : rm.cells = mc ∧ rm.slots = ms) (hR : rm.frames + 1 ≤ K.R.frames ∧ 8 + (maxL + 11) + rm.locals ≤ K.R.locals) (hcs : ce + mc ≤ K.R.cells ∧ sl + ms ≤ K.R.slots) (hn : As.length = n) (hlv : lv.length = nL) (hst : st = As.reverse ++ rest) (hsum : (rest.map fun v => v.category).sum ≤ 8) (d : decode cc pc = .ok (.invokestatic index, 3)) (hq : pc + 3 = q) (k : ∀ (r : Int32) (D' : DT) (P' : PT), post r D' P' → PV K X Q (ce + mc) (sl + ms) q lv (.int r :: rest) D' P') : PV K X Q ce sl pc lv st D P := by
  subst hq; subst hst; subst hKl; intro H locs ls hP hS hl
  exact vx_calli (vx_runS (As := As) (rest := rest) (nL := nL) ⟨C.hx, C.hb, C.hn, C.hown, C.hts⟩ (hM H.size) (va_cwS n C.hts (gi_S hL M) rfl hrm.1 hrm.2 ⟨M.2.2.2.1.1, M.2.2.2.1.2, M.2.2.2.2⟩ hR) ⟨pl_blind, fun U hU hW => ⟨rfl, ⟨⟨by rw [hU], by rw [hU]; exact hP, va_K.moved hW.alike C.hK, C.hI⟩, by rw [hU]; exact Z.go hW hS⟩, N.moved hW.alike⟩⟩ rfl hn (hl.1.trans hlv) rfl (lv_room hsum) d hcs) hS (fun q _ h => gA_mono hS.1 h) (fun q h => gA_mono hS.1 h) (fun q _ h => gA_mono hS.1 h) (fun E ce9 q9 u t H1 locs1 ht hvm _ hB hz hk hS1 hc9 hv9 hcl9 => absurd hB.1 id) (fun r u t H1 locs1 ht hvm hw hB hz hk hS1 => k r u.1 u.2 hw H1 locs1 ls (ht ▸ hB.1) hS1 hl)
/-- a call that never throws, though it might by its class's code -/
theorem pv_callVlF {b ci : Nat} {cq : vw_C} {post : Int64 → DT → PT → Prop} (C : CX K X cc own w0 nL rt) (Z : ZX X K.s.heap.size K.s K.s.heap) (hKl : K.2.1 = l) (hM : XG l X y (.code y bytes maxL ret :: AW) rm (.ref (X.2.2 b) :: As) (qL X post) (fun _ _ _ => False) D P mc ms) (hL : Cond.methodLink own index y ∈ AW) (hk : kd b = ci) (hci : ci < 7) (hcq : vwCl[ci]? = some cq) (M : MM cq.1 y bytes maxL ret n) (hrm : rm.cells = mc ∧ rm.slots = ms) (hR : rm.frames + 1 ≤ K.R.frames ∧ 8 + (maxL + 11) + rm.locals ≤ K.R.locals) (hcs : ce + mc ≤ K.R.cells ∧ sl + ms ≤ K.R.slots) (hn : As.length = n) (hlv : lv.length = nL) (hst : st = As.reverse ++ .ref (X.2.2 b) :: rest) (hsum : (rest.map fun v => v.category).sum ≤ 8) (d : decode cc pc = .ok (.invokevirtual index, 3)) (hq : pc + 3 = q) (k : ∀ (r : Int64) (D' : DT) (P' : PT), post r D' P' → PV K X Q (ce + mc) (sl + ms) q lv (.long r :: rest) D' P') : PV K X Q ce sl pc lv st D P := by
  subst hq; subst hst; subst hKl; intro H locs ls hP hS hl
  obtain ⟨fs, hfs⟩ := gc_obj (X := X) (D := D) (P := P) hk hci
  exact vx_calll (vx_runV (As := As) (rest := rest) (nL := nL) ⟨C.hx, C.hb, C.hn, C.hown, C.hts⟩ (hM H.size) (cwV n C.hts (gi_V hL M) rfl hrm.1 hrm.2 ⟨M.2.2.2.2.1, by rw [M.2.2.2.2.1]; exact M.2.2.2.2.2.1.1, by rw [M.2.2.2.2.1]; exact M.2.2.2.2.2.1.2, M.2.2.2.2.2.2⟩ hR) ⟨pz_blind, va_recv C.hK hP (ci := ci) (q0 := pl b) hcq ((gw_at (kd_lv hk (by omega))).trans (congrArg (fun e => some (X.2.2 b, e)) hfs)), fun U hU hW => ⟨rfl, ⟨by rw [hU], by rw [hU]; exact hP, va_K.moved hW.alike C.hK, C.hI⟩, by rw [hU]; exact Z.go hW hS⟩⟩ rfl hn (hl.1.trans hlv) rfl (lv_room hsum) d hcs) hS (fun q _ h => gA_mono hS.1 h) (fun q h => gA_mono hS.1 h) (fun q _ h => gA_mono hS.1 h) (fun E ce9 q9 u t H1 locs1 ht hvm _ hB hz hk hS1 hc9 hv9 hcl9 => absurd hB.1 id) (fun r u t H1 locs1 ht hvm hw hB hz hk hS1 => k r u.1 u.2 hw H1 locs1 ls (ht ▸ hB.1) hS1 hl)
end LawRows
theorem FX_Fs {D D' : DT} (h : Fs D D') : FX D D' := fun i a b => h i (by omega)
theorem RI_P {D : DT} {P P2 : PT} {M : DT} {W : Nat} (h : RI D P M W) (hP : P2.1 = P.1) : RI D P2 M W := RI_M h hP rfl rfl rfl rfl rfl rfl rfl
theorem kNi1 {p : Prop} [Decidable p] (h : (if p then (1 : Nat) else 0) = 1) : (if p then (1 : Int32) else 0) = 1 := by
  by_cases q : p
  · rw [if_pos q]
  · rw [if_neg q] at h; exact absurd h (by decide)
theorem kNi0 {p : Prop} [Decidable p] (h : (if p then (1 : Nat) else 0) = 0) : (if p then (1 : Int32) else 0) = 0 := by
  by_cases q : p
  · rw [if_pos q] at h; exact absurd h (by decide)
  · rw [if_neg q]
theorem NG_c {X : XT} {sz : Nat} {U : State} {Hp : Heap} (Z : ZX X sz U Hp) {w : Cond} (h : w ∈ ngw) : va_Nw w U := Z.2 w h
/-- what a wrapper's call says: a look, a change -/
def wv (kk : Int32) (V : Int64) (cs : Int32 → Int64) : Int64 := if kk = 0 then V else cs kk
def we (kk : Int32) (E M : DT) : DT := if kk = 0 then E else M
def cIXS (k : Int32) : Int64 := if k = 1 then -9000000000000000001 else if k = 2 then -9000000000000000002 else -9000000000000000003
def cIS (k : Int32) : Int64 := if k = 1 then -9000000000000000001 else -9000000000000000003
def cIX (k : Int32) : Int64 := if k = 1 then -9000000000000000001 else -9000000000000000002
def cI (_ : Int32) : Int64 := -9000000000000000001
def cX (_ : Int32) : Int64 := -9000000000000000002
def cS (_ : Int32) : Int64 := -9000000000000000003
def cXS (k : Int32) : Int64 := if k = 1 then -9000000000000000002 else -9000000000000000003
/-- a look: the pool keeps telling M, within the same bound -/
def QK (v : Int64) (M : DT) (W : Nat) (r : Int64) (D' : DT) (P' : PT) : Prop := r = v ∧ RI D' P' M W
theorem QK_ok {D D' : DT} {P P' : PT} {M : DT} {W : Nat} {kk : Int32} {V r : Int64} {cs : Int32 → Int64} (h : RI D P M W) (hK : kk = 0) (hF : Fs D D') (hP : P = P') (hr : r = V) : QK (wv kk V cs) M W r D' P' := ⟨by unfold wv; rw [if_pos hK]; exact hr, hP ▸ RI_Fs h hF⟩
theorem QK_no {D D' : DT} {P P' : PT} {M : DT} {W : Nat} {kk k : Int32} {V r : Int64} {cs : Int32 → Int64} (h : RI D P M W) (hK : kk = k) (hk : ¬ k = 0) (hF : Fs D D') (hP : P = P') (hr : r = cs k) : QK (wv kk V cs) M W r D' P' := ⟨by unfold wv; rw [hK, if_neg hk]; exact hr, hP ▸ RI_Fs h hF⟩
/-- a change -/
def QE (kk : Int32) (V : Int64) (cs : Int32 → Int64) (E M : DT) (W : Nat) (r : Int64) (D' : DT) (P' : PT) : Prop := r = wv kk V cs ∧ (kk = 0 → RI D' P' E (W + 130)) ∧ (¬ kk = 0 → RI D' P' M W)
theorem QE_ok {D' : DT} {P' : PT} {M E : DT} {W : Nat} {kk : Int32} {V r : Int64} {cs : Int32 → Int64} (h : RI D' P' E (W + 130)) (hK : kk = 0) (hr : r = V) : QE kk V cs E M W r D' P' := ⟨by unfold wv; rw [if_pos hK]; exact hr, fun _ => h, fun z => absurd hK z⟩
theorem QE_no {D D' : DT} {P P' : PT} {M E : DT} {W : Nat} {kk k : Int32} {V r : Int64} {cs : Int32 → Int64} (h : RI D P M W) (hK : kk = k) (hk : ¬ k = 0) (hF : Fs D D') (hP : P = P') (hr : r = cs k) : QE kk V cs E M W r D' P' := ⟨by unfold wv; rw [hK, if_neg hk]; exact hr, fun z => absurd (hK.symm.trans z) hk, fun _ => hP ▸ RI_Fs h hF⟩
theorem QE_no2 {D' : DT} {P' : PT} {M E : DT} {W : Nat} {kk k : Int32} {V r : Int64} {cs : Int32 → Int64} (h : RI D' P' M W) (hK : kk = k) (hk : ¬ k = 0) (hr : r = cs k) : QE kk V cs E M W r D' P' := ⟨by unfold wv; rw [hK, if_neg hk]; exact hr, fun z => absurd (hK.symm.trans z) hk, fun _ => h⟩
theorem wv_0 {kk : Int32} {V : Int64} {cs : Int32 → Int64} (h : kk = 0) : wv kk V cs = V := if_pos h
theorem wv_k {kk k : Int32} {V : Int64} {cs : Int32 → Int64} (h : kk = k) (hk : ¬ k = 0) : wv kk V cs = cs k := by unfold wv; rw [h, if_neg hk]
theorem QE.ok {D' : DT} {P' : PT} {M E : DT} {W : Nat} {kk : Int32} {V r : Int64} {cs : Int32 → Int64} (h : QE kk V cs E M W r D' P') (hK : kk = 0) : r = V ∧ RI D' P' E (W + 130) := ⟨h.1.trans (wv_0 hK), h.2.1 hK⟩
theorem QE.no {D' : DT} {P' : PT} {M E : DT} {W : Nat} {kk k : Int32} {V r : Int64} {cs : Int32 → Int64} (h : QE kk V cs E M W r D' P') (hK : kk = k) (hk : ¬ k = 0) : r = cs k ∧ RI D' P' M W := ⟨h.1.trans (wv_k hK hk), h.2.2 (by rw [hK]; exact hk)⟩
theorem QE.toE {D' : DT} {P' : PT} {M E : DT} {W : Nat} {kk : Int32} {V r : Int64} {cs : Int32 → Int64} (h : QE kk V cs E M W r D' P') : r = wv kk V cs ∧ RI D' P' (we kk E M) (W + 130) := by
  refine ⟨h.1, ?_⟩
  show RI D' P' (if kk = 0 then E else M) (W + 130)
  by_cases e : kk = 0
  · rw [if_pos e]; exact h.2.1 e
  · rw [if_neg e]; exact RI_W (h.2.2 e) (by omega)
/-- what holds all through a method of the law -/
def LK (l : Launch) (K : KT) (X : XT) (cc : ByteArray) (own : String) (w0 : Cond) (nL : Nat) (rt : Option FieldType) (rm : Room) : Prop := K.2.1 = l ∧ K.R = rm ∧ CX K X cc own w0 nL rt ∧ ZX X K.s.heap.size K.s K.s.heap ∧ NC K.s ∧ l.stackTraces = false
theorem rg_p {p : Nat} (hp : p < 16) : rg (nI p) 0 15 := rg_of (n := 15) (by omega) rfl (by omega)
theorem rg_v {v : Nat} (hv : v < 3) : rg (nI v) 0 2 := rg_of (n := 2) (by omega) rfl (by omega)
theorem rg_g {g : Nat} (hg : g < 4) : rg (nI g) 0 3 := rg_of (n := 3) (by omega) rfl (by omega)
theorem kView_0 {v : Nat} (hv : v < 3) : kView (nI v) = 0 := if_pos (rg_v hv)
theorem kGr_0 {v g : Nat} (hv : v < 3) (hg : g < 4) : kGr (nI v) (nI g) = 0 := by unfold kGr; rw [if_pos ⟨rg_v hv, rg_g hg⟩]
theorem kAm_0n {row : Nat → Int32} {v g : Nat} (hv : v < 3) (hg : g < 4) (h : ¬ VN row v g = 0) : kAm row (nI v) (nI g) = 0 := by unfold kAm; rw [if_pos ⟨rg_v hv, rg_g hg⟩, ix_n (by omega), ix_n (by omega), if_neg h]
theorem kAm_2 {row : Nat → Int32} {v g : Nat} (hv : v < 3) (hg : g < 4) (h : VN row v g = 0) : kAm row (nI v) (nI g) = 2 := by unfold kAm; rw [if_pos ⟨rg_v hv, rg_g hg⟩, ix_n (by omega), ix_n (by omega), if_pos h]
theorem kAt_0n {row : Nat → Int32} {v g : Nat} (hv : v < 3) (hg : g < 4) (h : ¬ TN row v g = 0) : kAt row (nI v) (nI g) = 0 := by unfold kAt; rw [if_pos ⟨rg_v hv, rg_g hg⟩, ix_n (by omega), ix_n (by omega), if_neg h]
theorem kAt_2 {row : Nat → Int32} {v g : Nat} (hv : v < 3) (hg : g < 4) (h : TN row v g = 0) : kAt row (nI v) (nI g) = 2 := by unfold kAt; rw [if_pos ⟨rg_v hv, rg_g hg⟩, ix_n (by omega), ix_n (by omega), if_pos h]
theorem kRk_0n {v g : Nat} {a : Int32} (hv : v < 3) (hg : g < 4) (ha : rg a (-99) 99) : kRk (nI v) (nI g) a = 0 := by unfold kRk; rw [if_pos ⟨rg_v hv, rg_g hg⟩, if_pos ha]
theorem kRow_0 {row : Nat → Int32} {p : Nat} (hp : p < 16) (h : ¬ row p = 0) : kRow row (nI p) = 0 := by unfold kRow; rw [if_pos (rg_p hp), ix_n (by omega), if_neg h]
theorem kRow_2 {row : Nat → Int32} {p : Nat} (hp : p < 16) (h : row p = 0) : kRow row (nI p) = 2 := by unfold kRow; rw [if_pos (rg_p hp), ix_n (by omega), if_pos h]
theorem kP_0 {p : Nat} (hp : p < 16) : kRg (nI p) 0 15 = 0 := by unfold kRg; rw [if_pos (rg_p hp)]
