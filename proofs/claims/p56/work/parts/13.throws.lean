def nmX : List String := ["java/lang/RuntimeException", "java/lang/Exception"]
def eISE : String := "java/lang/IllegalStateException"
set_option maxRecDepth 100000 in
theorem atISE_g : ∀ w ∈ (vx_atS RX6 76 eISE nmX).filter goodWord, w ∈ AW := by
  have h : ((vx_atS RX6 76 eISE nmX).filter goodWord).all (fun w => decide (w ∈ AW)) = true := by decide +kernel
  exact fun w hw => of_decide_eq_true (List.all_eq_true.mp h w hw)
set_option maxRecDepth 100000 in
theorem atISE_n : ∀ w ∈ (vx_atS RX6 76 eISE nmX).filter (fun w => !goodWord w), w ∈ ngw := by decide +kernel
set_option maxRecDepth 100000 in
theorem atISE_o : ∀ w ∈ Cond.classLink RX6 72 eISE :: Cond.initialized eISE :: vx_atS RX6 76 eISE nmX, vx_ot w = true := by decide +kernel
def eIAE : String := "java/lang/IllegalArgumentException"
set_option maxRecDepth 100000 in
theorem atIAE_g : ∀ w ∈ (vx_atS RX6 160 eIAE nmX).filter goodWord, w ∈ AW := by
  have h : ((vx_atS RX6 160 eIAE nmX).filter goodWord).all (fun w => decide (w ∈ AW)) = true := by decide +kernel
  exact fun w hw => of_decide_eq_true (List.all_eq_true.mp h w hw)
set_option maxRecDepth 100000 in
theorem atIAE_n : ∀ w ∈ (vx_atS RX6 160 eIAE nmX).filter (fun w => !goodWord w), w ∈ ngw := by decide +kernel
set_option maxRecDepth 100000 in
theorem atIAE_o : ∀ w ∈ Cond.classLink RX6 156 eIAE :: Cond.initialized eIAE :: vx_atS RX6 160 eIAE nmX, vx_ot w = true := by decide +kernel
def eIOE : String := "java/lang/IndexOutOfBoundsException"
set_option maxRecDepth 100000 in
theorem atIOE_g : ∀ w ∈ (vx_atS RX6 389 eIOE nmX).filter goodWord, w ∈ AW := by
  have h : ((vx_atS RX6 389 eIOE nmX).filter goodWord).all (fun w => decide (w ∈ AW)) = true := by decide +kernel
  exact fun w hw => of_decide_eq_true (List.all_eq_true.mp h w hw)
set_option maxRecDepth 100000 in
theorem atIOE_n : ∀ w ∈ (vx_atS RX6 389 eIOE nmX).filter (fun w => !goodWord w), w ∈ ngw := by decide +kernel
set_option maxRecDepth 100000 in
theorem atIOE_o : ∀ w ∈ Cond.classLink RX6 385 eIOE :: Cond.initialized eIOE :: vx_atS RX6 389 eIOE nmX, vx_ot w = true := by decide +kernel
theorem ngw_t : ∀ w ∈ ngw, w.onTables = true := by decide +kernel
section Throws
variable {K : KT} {X : XT} {cc : ByteArray} {w0 : Cond} {nL : Nat} {rt : Option FieldType} {ce sl pc : Nat} {lv : List (Option Value)} {st : List Value} {D : DT} {P : PT} {px : String → DT → PT → Prop} {Qc : QcT} {mc ms : Nat}
theorem pv_throwISE {is : Nat} {text : String} (C : CX K X cc RX6 w0 nL rt) (Z : ZX X K.s.heap.size K.s K.s.heap) (ht0 : ∀ x ∈ K.c.exceptionTable.toList, False) (hfl : K.2.1.stackTraces = false) (hstr : (is, text) ∈ strs) (hpx : px eISE D P) (hlv : lv.length = nL) (hR : 5 < K.R.frames ∧ (st.map fun v => v.category).sum + 82 ≤ K.R.locals) (hcs : ce + 1 ≤ K.R.cells ∧ sl + 6 ≤ K.R.slots) (hm : ce + 1 ≤ mc ∧ sl + 6 ≤ ms) (d0 : decode cc pc = .ok (.new 72, 3)) (d3 : decode cc (pc + 3) = .ok (.dup, 1)) (d4 : decode cc (pc + 4) = .ok (.ldc is, 2)) (d6 : decode cc (pc + 6) = .ok (.invokespecial 76, 3)) (d9 : decode cc (pc + 9) = .ok (.athrow, 1)) : PV K X (XK K X Qc px mc ms) ce sl pc lv st D P := by
  intro H locs ls hP hS hl
  obtain ⟨sa, hsa⟩ := Z.1.2.2 _ hstr
  refine vx_throwS (own := RX6) (cls := eISE) (names := nmX) (text := text) C.hx C.hb hfl C.hown (by decide +kernel) (by decide +kernel) (C.aw tw_276) (C.aw tw_13) hsa (vx_hat (fun w hw => C.aw (atISE_g w hw)) atISE_n (fun w hw => va_Nw.use (ngw_t w hw) (Z.2 w hw))) atISE_o Z.1.1 Z.1.2.1 hS (hl.1.trans (hlv.trans C.hn.symm)) d0 d3 d4 d6 d9 (fun x hx => absurd (ht0 x hx) id) hR.1 hR.2 hcs.1 hcs.2 C.hlk (fun t hvm hz hq => ?_) hS.2.2 hm.1 hm.2
  exact ⟨(D, P), trivial, ⟨hpx, hP.kept (fun k q hk => hq q.1 (hP k q hk).lt), va_K.moved hvm C.hK⟩, Nat.le_trans hS.1 hz, fun q h1 h2 => (hq q (Nat.lt_of_lt_of_le h1 hS.1)).trans (hS.2.1 q h1 h2)⟩
theorem pv_throwISEW {is : Nat} {text : String} (C : CX K X cc RX6 w0 nL rt) (Z : ZX X K.s.heap.size K.s K.s.heap) (ht0 : ∀ x ∈ K.c.exceptionTable.toList, False) (hfl : K.2.1.stackTraces = false) (hstr : (is, text) ∈ strs) (hpx : px eISE D P) (hlv : lv.length = nL) (hR : 5 < K.R.frames ∧ (st.map fun v => v.category).sum + 82 ≤ K.R.locals) (hcs : ce + 1 ≤ K.R.cells ∧ sl + 6 ≤ K.R.slots) (hm : ce + 1 ≤ mc ∧ sl + 6 ≤ ms) (d0 : decode cc pc = .ok (.new 72, 3)) (d3 : decode cc (pc + 3) = .ok (.dup, 1)) (d4 : decode cc (pc + 4) = .ok (.ldc_w is, 3)) (d6 : decode cc (pc + 7) = .ok (.invokespecial 76, 3)) (d9 : decode cc (pc + 10) = .ok (.athrow, 1)) : PV K X (XK K X Qc px mc ms) ce sl pc lv st D P := by
  intro H locs ls hP hS hl
  obtain ⟨sa, hsa⟩ := Z.1.2.2 _ hstr
  refine vx_throwSW (own := RX6) (cls := eISE) (names := nmX) (text := text) C.hx C.hb hfl C.hown (by decide +kernel) (by decide +kernel) (C.aw tw_276) (C.aw tw_13) hsa (vx_hat (fun w hw => C.aw (atISE_g w hw)) atISE_n (fun w hw => va_Nw.use (ngw_t w hw) (Z.2 w hw))) atISE_o Z.1.1 Z.1.2.1 hS (hl.1.trans (hlv.trans C.hn.symm)) d0 d3 d4 d6 d9 (fun x hx => absurd (ht0 x hx) id) hR.1 hR.2 hcs.1 hcs.2 C.hlk (fun t hvm hz hq => ?_) hS.2.2 hm.1 hm.2
  exact ⟨(D, P), trivial, ⟨hpx, hP.kept (fun k q hk => hq q.1 (hP k q hk).lt), va_K.moved hvm C.hK⟩, Nat.le_trans hS.1 hz, fun q h1 h2 => (hq q (Nat.lt_of_lt_of_le h1 hS.1)).trans (hS.2.1 q h1 h2)⟩
theorem pv_throwIAE {is : Nat} {text : String} (C : CX K X cc RX6 w0 nL rt) (Z : ZX X K.s.heap.size K.s K.s.heap) (ht0 : ∀ x ∈ K.c.exceptionTable.toList, False) (hfl : K.2.1.stackTraces = false) (hstr : (is, text) ∈ strs) (hpx : px eIAE D P) (hlv : lv.length = nL) (hR : 5 < K.R.frames ∧ (st.map fun v => v.category).sum + 82 ≤ K.R.locals) (hcs : ce + 1 ≤ K.R.cells ∧ sl + 6 ≤ K.R.slots) (hm : ce + 1 ≤ mc ∧ sl + 6 ≤ ms) (d0 : decode cc pc = .ok (.new 156, 3)) (d3 : decode cc (pc + 3) = .ok (.dup, 1)) (d4 : decode cc (pc + 4) = .ok (.ldc is, 2)) (d6 : decode cc (pc + 6) = .ok (.invokespecial 160, 3)) (d9 : decode cc (pc + 9) = .ok (.athrow, 1)) : PV K X (XK K X Qc px mc ms) ce sl pc lv st D P := by
  intro H locs ls hP hS hl
  obtain ⟨sa, hsa⟩ := Z.1.2.2 _ hstr
  refine vx_throwS (own := RX6) (cls := eIAE) (names := nmX) (text := text) C.hx C.hb hfl C.hown (by decide +kernel) (by decide +kernel) (C.aw tw_610) (C.aw tw_15) hsa (vx_hat (fun w hw => C.aw (atIAE_g w hw)) atIAE_n (fun w hw => va_Nw.use (ngw_t w hw) (Z.2 w hw))) atIAE_o Z.1.1 Z.1.2.1 hS (hl.1.trans (hlv.trans C.hn.symm)) d0 d3 d4 d6 d9 (fun x hx => absurd (ht0 x hx) id) hR.1 hR.2 hcs.1 hcs.2 C.hlk (fun t hvm hz hq => ?_) hS.2.2 hm.1 hm.2
  exact ⟨(D, P), trivial, ⟨hpx, hP.kept (fun k q hk => hq q.1 (hP k q hk).lt), va_K.moved hvm C.hK⟩, Nat.le_trans hS.1 hz, fun q h1 h2 => (hq q (Nat.lt_of_lt_of_le h1 hS.1)).trans (hS.2.1 q h1 h2)⟩
theorem pv_throwIAEW {is : Nat} {text : String} (C : CX K X cc RX6 w0 nL rt) (Z : ZX X K.s.heap.size K.s K.s.heap) (ht0 : ∀ x ∈ K.c.exceptionTable.toList, False) (hfl : K.2.1.stackTraces = false) (hstr : (is, text) ∈ strs) (hpx : px eIAE D P) (hlv : lv.length = nL) (hR : 5 < K.R.frames ∧ (st.map fun v => v.category).sum + 82 ≤ K.R.locals) (hcs : ce + 1 ≤ K.R.cells ∧ sl + 6 ≤ K.R.slots) (hm : ce + 1 ≤ mc ∧ sl + 6 ≤ ms) (d0 : decode cc pc = .ok (.new 156, 3)) (d3 : decode cc (pc + 3) = .ok (.dup, 1)) (d4 : decode cc (pc + 4) = .ok (.ldc_w is, 3)) (d6 : decode cc (pc + 7) = .ok (.invokespecial 160, 3)) (d9 : decode cc (pc + 10) = .ok (.athrow, 1)) : PV K X (XK K X Qc px mc ms) ce sl pc lv st D P := by
  intro H locs ls hP hS hl
  obtain ⟨sa, hsa⟩ := Z.1.2.2 _ hstr
  refine vx_throwSW (own := RX6) (cls := eIAE) (names := nmX) (text := text) C.hx C.hb hfl C.hown (by decide +kernel) (by decide +kernel) (C.aw tw_610) (C.aw tw_15) hsa (vx_hat (fun w hw => C.aw (atIAE_g w hw)) atIAE_n (fun w hw => va_Nw.use (ngw_t w hw) (Z.2 w hw))) atIAE_o Z.1.1 Z.1.2.1 hS (hl.1.trans (hlv.trans C.hn.symm)) d0 d3 d4 d6 d9 (fun x hx => absurd (ht0 x hx) id) hR.1 hR.2 hcs.1 hcs.2 C.hlk (fun t hvm hz hq => ?_) hS.2.2 hm.1 hm.2
  exact ⟨(D, P), trivial, ⟨hpx, hP.kept (fun k q hk => hq q.1 (hP k q hk).lt), va_K.moved hvm C.hK⟩, Nat.le_trans hS.1 hz, fun q h1 h2 => (hq q (Nat.lt_of_lt_of_le h1 hS.1)).trans (hS.2.1 q h1 h2)⟩
theorem pv_throwIOE {is : Nat} {text : String} (C : CX K X cc RX6 w0 nL rt) (Z : ZX X K.s.heap.size K.s K.s.heap) (ht0 : ∀ x ∈ K.c.exceptionTable.toList, False) (hfl : K.2.1.stackTraces = false) (hstr : (is, text) ∈ strs) (hpx : px eIOE D P) (hlv : lv.length = nL) (hR : 5 < K.R.frames ∧ (st.map fun v => v.category).sum + 82 ≤ K.R.locals) (hcs : ce + 1 ≤ K.R.cells ∧ sl + 6 ≤ K.R.slots) (hm : ce + 1 ≤ mc ∧ sl + 6 ≤ ms) (d0 : decode cc pc = .ok (.new 385, 3)) (d3 : decode cc (pc + 3) = .ok (.dup, 1)) (d4 : decode cc (pc + 4) = .ok (.ldc is, 2)) (d6 : decode cc (pc + 6) = .ok (.invokespecial 389, 3)) (d9 : decode cc (pc + 9) = .ok (.athrow, 1)) : PV K X (XK K X Qc px mc ms) ce sl pc lv st D P := by
  intro H locs ls hP hS hl
  obtain ⟨sa, hsa⟩ := Z.1.2.2 _ hstr
  refine vx_throwS (own := RX6) (cls := eIOE) (names := nmX) (text := text) C.hx C.hb hfl C.hown (by decide +kernel) (by decide +kernel) (C.aw tw_416) (C.aw tw_12) hsa (vx_hat (fun w hw => C.aw (atIOE_g w hw)) atIOE_n (fun w hw => va_Nw.use (ngw_t w hw) (Z.2 w hw))) atIOE_o Z.1.1 Z.1.2.1 hS (hl.1.trans (hlv.trans C.hn.symm)) d0 d3 d4 d6 d9 (fun x hx => absurd (ht0 x hx) id) hR.1 hR.2 hcs.1 hcs.2 C.hlk (fun t hvm hz hq => ?_) hS.2.2 hm.1 hm.2
  exact ⟨(D, P), trivial, ⟨hpx, hP.kept (fun k q hk => hq q.1 (hP k q hk).lt), va_K.moved hvm C.hK⟩, Nat.le_trans hS.1 hz, fun q h1 h2 => (hq q (Nat.lt_of_lt_of_le h1 hS.1)).trans (hS.2.1 q h1 h2)⟩
theorem pv_throwIOEW {is : Nat} {text : String} (C : CX K X cc RX6 w0 nL rt) (Z : ZX X K.s.heap.size K.s K.s.heap) (ht0 : ∀ x ∈ K.c.exceptionTable.toList, False) (hfl : K.2.1.stackTraces = false) (hstr : (is, text) ∈ strs) (hpx : px eIOE D P) (hlv : lv.length = nL) (hR : 5 < K.R.frames ∧ (st.map fun v => v.category).sum + 82 ≤ K.R.locals) (hcs : ce + 1 ≤ K.R.cells ∧ sl + 6 ≤ K.R.slots) (hm : ce + 1 ≤ mc ∧ sl + 6 ≤ ms) (d0 : decode cc pc = .ok (.new 385, 3)) (d3 : decode cc (pc + 3) = .ok (.dup, 1)) (d4 : decode cc (pc + 4) = .ok (.ldc_w is, 3)) (d6 : decode cc (pc + 7) = .ok (.invokespecial 389, 3)) (d9 : decode cc (pc + 10) = .ok (.athrow, 1)) : PV K X (XK K X Qc px mc ms) ce sl pc lv st D P := by
  intro H locs ls hP hS hl
  obtain ⟨sa, hsa⟩ := Z.1.2.2 _ hstr
  refine vx_throwSW (own := RX6) (cls := eIOE) (names := nmX) (text := text) C.hx C.hb hfl C.hown (by decide +kernel) (by decide +kernel) (C.aw tw_416) (C.aw tw_12) hsa (vx_hat (fun w hw => C.aw (atIOE_g w hw)) atIOE_n (fun w hw => va_Nw.use (ngw_t w hw) (Z.2 w hw))) atIOE_o Z.1.1 Z.1.2.1 hS (hl.1.trans (hlv.trans C.hn.symm)) d0 d3 d4 d6 d9 (fun x hx => absurd (ht0 x hx) id) hR.1 hR.2 hcs.1 hcs.2 C.hlk (fun t hvm hz hq => ?_) hS.2.2 hm.1 hm.2
  exact ⟨(D, P), trivial, ⟨hpx, hP.kept (fun k q hk => hq q.1 (hP k q hk).lt), va_K.moved hvm C.hK⟩, Nat.le_trans hS.1 hz, fun q h1 h2 => (hq q (Nat.lt_of_lt_of_le h1 hS.1)).trans (hS.2.1 q h1 h2)⟩
end Throws
