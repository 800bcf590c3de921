/-- a walk over the pool: from here, whatever the heap is that holds it, the machine comes to Q -/
def PV (K : KT) (X : XT) (Q : State → Prop) (ce sl : Nat) (pc : Nat) (lv : List (Option Value)) (st : List Value) (D : DT) (P : PT) : Prop := ∀ (H : Heap) (locs : List Loc) (ls : Array Slot), va_P X.1 vwCl (gw X D P) H → va_S (gA X K.s.heap.size) K.s.heap H locs → lvh ls lv → WK K H locs ce sl Q (F0 K.m pc ls st)
section Rows
variable {K : KT} {X : XT} {cc : ByteArray} {own : String} {w0 : Cond} {nL : Nat} {ret : Option FieldType} {Q : State → Prop} {ce sl pc q : Nat} {lv : List (Option Value)} {st : List Value} {D : DT} {P : PT}
theorem PV_lv {lv' : List (Option Value)} (h : lv = lv') (k : PV K X Q ce sl pc lv' st D P) : PV K X Q ce sl pc lv st D P := h ▸ k
theorem PV_st {st' : List Value} (h : st = st') (k : PV K X Q ce sl pc lv st' D P) : PV K X Q ce sl pc lv st D P := h ▸ k
theorem PV_D {D' : DT} (h : D = D') (k : PV K X Q ce sl pc lv st D' P) : PV K X Q ce sl pc lv st D P := h ▸ k
theorem PV_widen {ce' sl' : Nat} (h1 : ce ≤ ce') (h2 : sl ≤ sl') (k : PV K X Q ce' sl' pc lv st D P) : PV K X Q ce sl pc lv st D P := fun H locs ls hP hS hl => W.widen h1 h2 (k H locs ls hP hS hl)
theorem PV_drop {lv' : List (Option Value)} (hl : lv'.length = lv.length) (hk : ∀ (k : Nat) (v : Value), lv'[k]? = some (some v) → lv[k]? = some (some v)) (k : PV K X Q ce sl pc lv' st D P) : PV K X Q ce sl pc lv st D P := fun H locs ls hP hS h => k H locs ls hP hS (lvh_mono h hl hk)
theorem pv_iconst {n : Int} {v : Int32} (C : CX K X cc own w0 nL ret) (d : decode cc pc = .ok (.iconst n, 1)) (hq : pc + 1 = q) (hv : Int32.ofInt n = v) (k : PV K X Q ce sl q lv (.int v :: st) D P) : PV K X Q ce sl pc lv (st) D P := by
  subst hq; intro H locs ls hP hS hl; exact lv_iconst C.hx C.hb d hv (k H locs ls hP hS hl)
theorem pv_bipush {n : Int} {v : Int32} (C : CX K X cc own w0 nL ret) (d : decode cc pc = .ok (.bipush n, 2)) (hq : pc + 2 = q) (hv : (Int8.ofInt n).toInt32 = v) (k : PV K X Q ce sl q lv (.int v :: st) D P) : PV K X Q ce sl pc lv (st) D P := by
  subst hq; intro H locs ls hP hS hl; exact lv_bipush C.hx C.hb d hv (k H locs ls hP hS hl)
theorem pv_sipush {n : Int} {v : Int32} (C : CX K X cc own w0 nL ret) (d : decode cc pc = .ok (.sipush n, 3)) (hq : pc + 3 = q) (hv : (Int16.ofInt n).toInt32 = v) (k : PV K X Q ce sl q lv (.int v :: st) D P) : PV K X Q ce sl pc lv (st) D P := by
  subst hq; intro H locs ls hP hS hl; exact lv_sipush C.hx C.hb d hv (k H locs ls hP hS hl)
theorem pv_lconst {n : Fin 2} {v : Int64} (C : CX K X cc own w0 nL ret) (d : decode cc pc = .ok (.lconst n, 1)) (hq : pc + 1 = q) (hv : Int64.ofNat (n : Nat) = v) (k : PV K X Q ce sl q lv (.long v :: st) D P) : PV K X Q ce sl pc lv (st) D P := by
  subst hq; intro H locs ls hP hS hl; exact lv_lconst C.hx C.hb d hv (k H locs ls hP hS hl)
theorem pv_iload_n {j : Fin 4} {i : Nat} {x : Int32} (C : CX K X cc own w0 nL ret) (d : decode cc pc = .ok (.iload_n j, 1)) (hq : pc + 1 = q) (hj : (j : Nat) = i) (hx : lv[i]? = some (some (.int x))) (k : PV K X Q ce sl q lv (.int x :: st) D P) : PV K X Q ce sl pc lv (st) D P := by
  subst hq; intro H locs ls hP hS hl; exact lv_iload_n C.hx C.hb d hj (lvh_at hl hx) (k H locs ls hP hS hl)
theorem pv_iload {i : Nat} {x : Int32} (C : CX K X cc own w0 nL ret) (d : decode cc pc = .ok (.iload i, 2)) (hq : pc + 2 = q) (hx : lv[i]? = some (some (.int x))) (k : PV K X Q ce sl q lv (.int x :: st) D P) : PV K X Q ce sl pc lv (st) D P := by
  subst hq; intro H locs ls hP hS hl; exact lv_iload C.hx C.hb d (lvh_at hl hx) (k H locs ls hP hS hl)
theorem pv_istore_n {j : Fin 4} {i : Nat} {x : Int32} (C : CX K X cc own w0 nL ret) (d : decode cc pc = .ok (.istore_n j, 1)) (hq : pc + 1 = q) (hj : (j : Nat) = i) (hi : i < lv.length) (ho : lvok lv i = true) (k : PV K X Q ce sl q (lv.set i (some (.int x))) st D P) : PV K X Q ce sl pc lv (.int x :: st) D P := by
  subst hq; intro H locs ls hP hS hl; exact lv_istore_n C.hx C.hb d hj hl hi rfl (fun ls' hl' => k H locs ls' hP hS (lvh_st1 ho hl'))
theorem pv_istore {i : Nat} {x : Int32} (C : CX K X cc own w0 nL ret) (d : decode cc pc = .ok (.istore i, 2)) (hq : pc + 2 = q) (hi : i < lv.length) (ho : lvok lv i = true) (k : PV K X Q ce sl q (lv.set i (some (.int x))) st D P) : PV K X Q ce sl pc lv (.int x :: st) D P := by
  subst hq; intro H locs ls hP hS hl; exact lv_istore C.hx C.hb d hl hi rfl (fun ls' hl' => k H locs ls' hP hS (lvh_st1 ho hl'))
theorem pv_lload_n {j : Fin 4} {i : Nat} {x : Int64} (C : CX K X cc own w0 nL ret) (d : decode cc pc = .ok (.lload_n j, 1)) (hq : pc + 1 = q) (hj : (j : Nat) = i) (hx : lv[i]? = some (some (.long x))) (k : PV K X Q ce sl q lv (.long x :: st) D P) : PV K X Q ce sl pc lv (st) D P := by
  subst hq; intro H locs ls hP hS hl; exact lv_lload_n C.hx C.hb d hj (lvh_at hl hx) (k H locs ls hP hS hl)
theorem pv_lload {i : Nat} {x : Int64} (C : CX K X cc own w0 nL ret) (d : decode cc pc = .ok (.lload i, 2)) (hq : pc + 2 = q) (hx : lv[i]? = some (some (.long x))) (k : PV K X Q ce sl q lv (.long x :: st) D P) : PV K X Q ce sl pc lv (st) D P := by
  subst hq; intro H locs ls hP hS hl; exact lv_lload C.hx C.hb d (lvh_at hl hx) (k H locs ls hP hS hl)
theorem pv_lstore_n {j : Fin 4} {i : Nat} {x : Int64} (C : CX K X cc own w0 nL ret) (d : decode cc pc = .ok (.lstore_n j, 1)) (hq : pc + 1 = q) (hj : (j : Nat) = i) (hi : i + 1 < lv.length) (ho : lvok lv i = true) (k : PV K X Q ce sl q ((lv.set i (some (.long x))).set (i + 1) none) st D P) : PV K X Q ce sl pc lv (.long x :: st) D P := by
  subst hq; intro H locs ls hP hS hl; exact lv_lstore_n C.hx C.hb d hj hl hi rfl (fun ls' hl' => k H locs ls' hP hS (lvh_st2 ho hl'))
theorem pv_lstore {i : Nat} {x : Int64} (C : CX K X cc own w0 nL ret) (d : decode cc pc = .ok (.lstore i, 2)) (hq : pc + 2 = q) (hi : i + 1 < lv.length) (ho : lvok lv i = true) (k : PV K X Q ce sl q ((lv.set i (some (.long x))).set (i + 1) none) st D P) : PV K X Q ce sl pc lv (.long x :: st) D P := by
  subst hq; intro H locs ls hP hS hl; exact lv_lstore C.hx C.hb d hl hi rfl (fun ls' hl' => k H locs ls' hP hS (lvh_st2 ho hl'))
theorem pv_aload_n {j : Fin 4} {i : Nat} {x : Nat} (C : CX K X cc own w0 nL ret) (d : decode cc pc = .ok (.aload_n j, 1)) (hq : pc + 1 = q) (hj : (j : Nat) = i) (hx : lv[i]? = some (some (.ref x))) (k : PV K X Q ce sl q lv (.ref x :: st) D P) : PV K X Q ce sl pc lv (st) D P := by
  subst hq; intro H locs ls hP hS hl; exact lv_aload_n C.hx C.hb d hj (lvh_at hl hx) (k H locs ls hP hS hl)
theorem pv_aload {i : Nat} {x : Nat} (C : CX K X cc own w0 nL ret) (d : decode cc pc = .ok (.aload i, 2)) (hq : pc + 2 = q) (hx : lv[i]? = some (some (.ref x))) (k : PV K X Q ce sl q lv (.ref x :: st) D P) : PV K X Q ce sl pc lv (st) D P := by
  subst hq; intro H locs ls hP hS hl; exact lv_aload C.hx C.hb d (lvh_at hl hx) (k H locs ls hP hS hl)
theorem pv_astore_n {j : Fin 4} {i : Nat} {x : Nat} (C : CX K X cc own w0 nL ret) (d : decode cc pc = .ok (.astore_n j, 1)) (hq : pc + 1 = q) (hj : (j : Nat) = i) (hi : i < lv.length) (ho : lvok lv i = true) (k : PV K X Q ce sl q (lv.set i (some (.ref x))) st D P) : PV K X Q ce sl pc lv (.ref x :: st) D P := by
  subst hq; intro H locs ls hP hS hl; exact lv_astore_n C.hx C.hb d hj hl hi rfl (fun ls' hl' => k H locs ls' hP hS (lvh_st1 ho hl'))
theorem pv_astore {i : Nat} {x : Nat} (C : CX K X cc own w0 nL ret) (d : decode cc pc = .ok (.astore i, 2)) (hq : pc + 2 = q) (hi : i < lv.length) (ho : lvok lv i = true) (k : PV K X Q ce sl q (lv.set i (some (.ref x))) st D P) : PV K X Q ce sl pc lv (.ref x :: st) D P := by
  subst hq; intro H locs ls hP hS hl; exact lv_astore C.hx C.hb d hl hi rfl (fun ls' hl' => k H locs ls' hP hS (lvh_st1 ho hl'))
theorem pv_dload_n {j : Fin 4} {i : Nat} {x : UInt64} (C : CX K X cc own w0 nL ret) (d : decode cc pc = .ok (.dload_n j, 1)) (hq : pc + 1 = q) (hj : (j : Nat) = i) (hx : lv[i]? = some (some (.double x))) (k : PV K X Q ce sl q lv (.double x :: st) D P) : PV K X Q ce sl pc lv (st) D P := by
  subst hq; intro H locs ls hP hS hl; exact lv_dload_n C.hx C.hb d hj (lvh_at hl hx) (k H locs ls hP hS hl)
theorem pv_dload {i : Nat} {x : UInt64} (C : CX K X cc own w0 nL ret) (d : decode cc pc = .ok (.dload i, 2)) (hq : pc + 2 = q) (hx : lv[i]? = some (some (.double x))) (k : PV K X Q ce sl q lv (.double x :: st) D P) : PV K X Q ce sl pc lv (st) D P := by
  subst hq; intro H locs ls hP hS hl; exact lv_dload C.hx C.hb d (lvh_at hl hx) (k H locs ls hP hS hl)
theorem pv_dstore_n {j : Fin 4} {i : Nat} {x : UInt64} (C : CX K X cc own w0 nL ret) (d : decode cc pc = .ok (.dstore_n j, 1)) (hq : pc + 1 = q) (hj : (j : Nat) = i) (hi : i + 1 < lv.length) (ho : lvok lv i = true) (k : PV K X Q ce sl q ((lv.set i (some (.double x))).set (i + 1) none) st D P) : PV K X Q ce sl pc lv (.double x :: st) D P := by
  subst hq; intro H locs ls hP hS hl; exact lv_dstore_n C.hx C.hb d hj hl hi rfl (fun ls' hl' => k H locs ls' hP hS (lvh_st2 ho hl'))
theorem pv_dstore {i : Nat} {x : UInt64} (C : CX K X cc own w0 nL ret) (d : decode cc pc = .ok (.dstore i, 2)) (hq : pc + 2 = q) (hi : i + 1 < lv.length) (ho : lvok lv i = true) (k : PV K X Q ce sl q ((lv.set i (some (.double x))).set (i + 1) none) st D P) : PV K X Q ce sl pc lv (.double x :: st) D P := by
  subst hq; intro H locs ls hP hS hl; exact lv_dstore C.hx C.hb d hl hi rfl (fun ls' hl' => k H locs ls' hP hS (lvh_st2 ho hl'))
theorem lvA_get {lv : List (Option Value)} {n i : Nat} {v : Value} (h : lv[i]? = some (some v)) : ∃ k : Nat, (lvA n lv)[k]? = some (n + i, v) := List.getElem?_of_mem (lvA_mem lv n i v h)
theorem pv_iinc {i : Nat} {n : Int} {x v : Int32} (C : CX K X cc own w0 nL ret) (d : decode cc pc = .ok (.iinc i n, 3)) (hq : pc + 3 = q) (hx : lv[i]? = some (some (.int x))) (hv : x + Int32.ofInt n = v) (ho : lvok lv i = true) (k : PV K X Q ce sl q (lv.set i (some (.int v))) st D P) : PV K X Q ce sl pc lv st D P := by
  subst hq; intro H locs ls hP hS hl
  obtain ⟨k0, hk0⟩ := lvA_get (n := 0) hx
  rw [Nat.zero_add] at hk0
  exact lv_iinc C.hx C.hb d hl hk0 hv (List.getElem?_eq_some_iff.mp hx).1 rfl (fun ls' hl' => k H locs ls' hP hS (lvh_st1 ho hl'))
theorem pv_iadd {x y : Int32} (C : CX K X cc own w0 nL ret) (d : decode cc pc = .ok (.iadd, 1)) (hq : pc + 1 = q)  (k : PV K X Q ce sl q lv (.int (x + y) :: st) D P) : PV K X Q ce sl pc lv (.int y :: .int x :: st) D P := by
  subst hq; intro H locs ls hP hS hl; exact lv_iadd C.hx C.hb d (k H locs ls hP hS hl)
theorem pv_isub {x y : Int32} (C : CX K X cc own w0 nL ret) (d : decode cc pc = .ok (.isub, 1)) (hq : pc + 1 = q)  (k : PV K X Q ce sl q lv (.int (x - y) :: st) D P) : PV K X Q ce sl pc lv (.int y :: .int x :: st) D P := by
  subst hq; intro H locs ls hP hS hl; exact lv_isub C.hx C.hb d (k H locs ls hP hS hl)
theorem pv_imul {x y : Int32} (C : CX K X cc own w0 nL ret) (d : decode cc pc = .ok (.imul, 1)) (hq : pc + 1 = q)  (k : PV K X Q ce sl q lv (.int (x * y) :: st) D P) : PV K X Q ce sl pc lv (.int y :: .int x :: st) D P := by
  subst hq; intro H locs ls hP hS hl; exact lv_imul C.hx C.hb d (k H locs ls hP hS hl)
theorem pv_iand {x y : Int32} (C : CX K X cc own w0 nL ret) (d : decode cc pc = .ok (.iand, 1)) (hq : pc + 1 = q)  (k : PV K X Q ce sl q lv (.int (x &&& y) :: st) D P) : PV K X Q ce sl pc lv (.int y :: .int x :: st) D P := by
  subst hq; intro H locs ls hP hS hl; exact lv_iand C.hx C.hb d (k H locs ls hP hS hl)
theorem pv_ior {x y : Int32} (C : CX K X cc own w0 nL ret) (d : decode cc pc = .ok (.ior, 1)) (hq : pc + 1 = q)  (k : PV K X Q ce sl q lv (.int (x ||| y) :: st) D P) : PV K X Q ce sl pc lv (.int y :: .int x :: st) D P := by
  subst hq; intro H locs ls hP hS hl; exact lv_ior C.hx C.hb d (k H locs ls hP hS hl)
theorem pv_ineg {x : Int32} (C : CX K X cc own w0 nL ret) (d : decode cc pc = .ok (.ineg, 1)) (hq : pc + 1 = q)  (k : PV K X Q ce sl q lv (.int (-x) :: st) D P) : PV K X Q ce sl pc lv (.int x :: st) D P := by
  subst hq; intro H locs ls hP hS hl; exact lv_ineg C.hx C.hb d (k H locs ls hP hS hl)
theorem pv_idiv {x y : Int32} (C : CX K X cc own w0 nL ret) (d : decode cc pc = .ok (.idiv, 1)) (hq : pc + 1 = q) (hne : ¬ y = 0) (k : PV K X Q ce sl q lv (.int (x / y) :: st) D P) : PV K X Q ce sl pc lv (.int y :: .int x :: st) D P := by
  subst hq; intro H locs ls hP hS hl; exact lv_idiv C.hx C.hb d hne (k H locs ls hP hS hl)
theorem pv_irem {x y : Int32} (C : CX K X cc own w0 nL ret) (d : decode cc pc = .ok (.irem, 1)) (hq : pc + 1 = q) (hne : ¬ y = 0) (k : PV K X Q ce sl q lv (.int (x - x / y * y) :: st) D P) : PV K X Q ce sl pc lv (.int y :: .int x :: st) D P := by
  subst hq; intro H locs ls hP hS hl; exact lv_irem C.hx C.hb d hne (k H locs ls hP hS hl)
theorem pv_ishl {x y : Int32} (C : CX K X cc own w0 nL ret) (d : decode cc pc = .ok (.ishl, 1)) (hq : pc + 1 = q)  (k : PV K X Q ce sl q lv (.int (x <<< (y &&& 31)) :: st) D P) : PV K X Q ce sl pc lv (.int y :: .int x :: st) D P := by
  subst hq; intro H locs ls hP hS hl; exact lv_ishl C.hx C.hb d (k H locs ls hP hS hl)
theorem pv_ladd {x y : Int64} (C : CX K X cc own w0 nL ret) (d : decode cc pc = .ok (.ladd, 1)) (hq : pc + 1 = q)  (k : PV K X Q ce sl q lv (.long (x + y) :: st) D P) : PV K X Q ce sl pc lv (.long y :: .long x :: st) D P := by
  subst hq; intro H locs ls hP hS hl; exact lv_ladd C.hx C.hb d (k H locs ls hP hS hl)
theorem pv_lsub {x y : Int64} (C : CX K X cc own w0 nL ret) (d : decode cc pc = .ok (.lsub, 1)) (hq : pc + 1 = q)  (k : PV K X Q ce sl q lv (.long (x - y) :: st) D P) : PV K X Q ce sl pc lv (.long y :: .long x :: st) D P := by
  subst hq; intro H locs ls hP hS hl; exact lv_lsub C.hx C.hb d (k H locs ls hP hS hl)
theorem pv_lmul {x y : Int64} (C : CX K X cc own w0 nL ret) (d : decode cc pc = .ok (.lmul, 1)) (hq : pc + 1 = q)  (k : PV K X Q ce sl q lv (.long (x * y) :: st) D P) : PV K X Q ce sl pc lv (.long y :: .long x :: st) D P := by
  subst hq; intro H locs ls hP hS hl; exact lv_lmul C.hx C.hb d (k H locs ls hP hS hl)
theorem pv_lshl {x v : Int64} {y : Int32} (C : CX K X cc own w0 nL ret) (d : decode cc pc = .ok (.lshl, 1)) (hq : pc + 1 = q) (hv : x <<< (y.toInt64 &&& 63) = v) (k : PV K X Q ce sl q lv (.long v :: st) D P) : PV K X Q ce sl pc lv (.int y :: .long x :: st) D P := by
  subst hq; intro H locs ls hP hS hl; exact lv_lshl C.hx C.hb d hv (k H locs ls hP hS hl)
theorem pv_i2l {x : Int32} (C : CX K X cc own w0 nL ret) (d : decode cc pc = .ok (.i2l, 1)) (hq : pc + 1 = q)  (k : PV K X Q ce sl q lv (.long x.toInt64 :: st) D P) : PV K X Q ce sl pc lv (.int x :: st) D P := by
  subst hq; intro H locs ls hP hS hl; exact lv_i2l C.hx C.hb d rfl (k H locs ls hP hS hl)
theorem pv_i2c {x v : Int32} (C : CX K X cc own w0 nL ret) (d : decode cc pc = .ok (.i2c, 1)) (hq : pc + 1 = q) (hv : (x.toUInt32 % 65536).toInt32 = v) (k : PV K X Q ce sl q lv (.int v :: st) D P) : PV K X Q ce sl pc lv (.int x :: st) D P := by
  subst hq; intro H locs ls hP hS hl; exact lv_i2c C.hx C.hb d hv (k H locs ls hP hS hl)
theorem pv_i2d {x : Int32} (C : CX K X cc own w0 nL ret) (d : decode cc pc = .ok (.i2d, 1)) (hq : pc + 1 = q)  (k : PV K X Q ce sl q lv (.double (FP.i2d x) :: st) D P) : PV K X Q ce sl pc lv (.int x :: st) D P := by
  subst hq; intro H locs ls hP hS hl; exact lv_i2d C.hx C.hb d (k H locs ls hP hS hl)
theorem pv_d2l {x : UInt64} (C : CX K X cc own w0 nL ret) (d : decode cc pc = .ok (.d2l, 1)) (hq : pc + 1 = q)  (k : PV K X Q ce sl q lv (.long (FP.d2l x) :: st) D P) : PV K X Q ce sl pc lv (.double x :: st) D P := by
  subst hq; intro H locs ls hP hS hl; exact lv_d2l C.hx C.hb d (k H locs ls hP hS hl)
theorem pv_ddiv {x y : UInt64} (C : CX K X cc own w0 nL ret) (d : decode cc pc = .ok (.ddiv, 1)) (hq : pc + 1 = q) (hne : vf_n64 (FP.ddiv x y)) (k : PV K X Q ce sl q lv (.double (FP.ddiv x y) :: st) D P) : PV K X Q ce sl pc lv (.double y :: .double x :: st) D P := by
  subst hq; intro H locs ls hP hS hl; exact lv_ddiv C.hx C.hb d hne (k H locs ls hP hS hl)
theorem pv_dmul {x y : UInt64} (C : CX K X cc own w0 nL ret) (d : decode cc pc = .ok (.dmul, 1)) (hq : pc + 1 = q) (hne : vf_n64 (FP.dmul x y)) (k : PV K X Q ce sl q lv (.double (FP.dmul x y) :: st) D P) : PV K X Q ce sl pc lv (.double y :: .double x :: st) D P := by
  subst hq; intro H locs ls hP hS hl; exact lv_dmul C.hx C.hb d hne (k H locs ls hP hS hl)
theorem pv_dsub {x y : UInt64} (C : CX K X cc own w0 nL ret) (d : decode cc pc = .ok (.dsub, 1)) (hq : pc + 1 = q) (hne : vf_n64 (FP.dsub x y)) (k : PV K X Q ce sl q lv (.double (FP.dsub x y) :: st) D P) : PV K X Q ce sl pc lv (.double y :: .double x :: st) D P := by
  subst hq; intro H locs ls hP hS hl; exact lv_dsub C.hx C.hb d hne (k H locs ls hP hS hl)
theorem pv_dcmp {x y : UInt64} {op : CmpOp} (C : CX K X cc own w0 nL ret) (d : decode cc pc = .ok (.dcmp op, 1)) (hq : pc + 1 = q)  (k : PV K X Q ce sl q lv (.int (Op.cmpValue (FP.dcmp x y) op) :: st) D P) : PV K X Q ce sl pc lv (.double y :: .double x :: st) D P := by
  subst hq; intro H locs ls hP hS hl; exact lv_dcmp C.hx C.hb d (k H locs ls hP hS hl)
theorem pv_lcmp {x y : Int64} (C : CX K X cc own w0 nL ret) (d : decode cc pc = .ok (.lcmp, 1)) (hq : pc + 1 = q)  (k : PV K X Q ce sl q lv (.int (lg_cmp x y) :: st) D P) : PV K X Q ce sl pc lv (.long y :: .long x :: st) D P := by
  subst hq; intro H locs ls hP hS hl; exact W.lcmp C.hx C.hb d (k H locs ls hP hS hl)
theorem pv_pop {v : Value} (C : CX K X cc own w0 nL ret) (d : decode cc pc = .ok (.pop, 1)) (hq : pc + 1 = q) (hv : v.category = 1) (k : PV K X Q ce sl q lv (st) D P) : PV K X Q ce sl pc lv (v :: st) D P := by
  subst hq; intro H locs ls hP hS hl; exact lv_pop C.hx C.hb d hv (k H locs ls hP hS hl)
theorem pv_dup {v : Value} (C : CX K X cc own w0 nL ret) (d : decode cc pc = .ok (.dup, 1)) (hq : pc + 1 = q) (hv : v.category = 1) (k : PV K X Q ce sl q lv (v :: v :: st) D P) : PV K X Q ce sl pc lv (v :: st) D P := by
  subst hq; intro H locs ls hP hS hl; exact lv_dup C.hx C.hb d hv (k H locs ls hP hS hl)
theorem pv_dup2 {v w : Value} (C : CX K X cc own w0 nL ret) (d : decode cc pc = .ok (.dup2, 1)) (hq : pc + 1 = q) (hv : v.category = 1) (hw : w.category = 1) (k : PV K X Q ce sl q lv (v :: w :: v :: w :: st) D P) : PV K X Q ce sl pc lv (v :: w :: st) D P := by
  subst hq; intro H locs ls hP hS hl; exact lv_dup2_11 C.hx C.hb d hv hw (k H locs ls hP hS hl)
theorem pv_ldc2 {index : Nat} {v : Int64} (C : CX K X cc own w0 nL ret) (d : decode cc pc = .ok (.ldc2_w index, 3)) (hq : pc + 3 = q) (hc : Jvm.Cond.constantLong own index v ∈ AW) (k : PV K X Q ce sl q lv (.long v :: st) D P) : PV K X Q ce sl pc lv (st) D P := by
  subst hq; intro H locs ls hP hS hl; exact lv_ldc2 C.hx C.hb C.hown (C.aw hc) d (k H locs ls hP hS hl)
theorem pv_ldc2d {index : Nat} {v : UInt64} (C : CX K X cc own w0 nL ret) (d : decode cc pc = .ok (.ldc2_w index, 3)) (hq : pc + 3 = q) (hc : Jvm.Cond.constantDouble own index v ∈ AW) (k : PV K X Q ce sl q lv (.double v :: st) D P) : PV K X Q ce sl pc lv (st) D P := by
  subst hq; intro H locs ls hP hS hl; exact lv_ldc2d C.hx C.hb C.hown (C.aw hc) d (k H locs ls hP hS hl)
theorem pv_dconst0  (C : CX K X cc own w0 nL ret) (d : decode cc pc = .ok (.dconst 0, 1)) (hq : pc + 1 = q)  (k : PV K X Q ce sl q lv (.double 0 :: st) D P) : PV K X Q ce sl pc lv (st) D P := by
  subst hq; intro H locs ls hP hS hl; exact lv_dconst0 C.hx C.hb d (k H locs ls hP hS hl)
theorem pv_dconst1  (C : CX K X cc own w0 nL ret) (d : decode cc pc = .ok (.dconst 1, 1)) (hq : pc + 1 = q)  (k : PV K X Q ce sl q lv (.double 0x3ff0000000000000 :: st) D P) : PV K X Q ce sl pc lv (st) D P := by
  subst hq; intro H locs ls hP hS hl; exact lv_dconst1 C.hx C.hb d (k H locs ls hP hS hl)
theorem pv_if_eq {x : Int32} {off : Int} {tgt : Nat} (C : CX K X cc own w0 nL ret) (d : decode cc pc = .ok (.ifCond .eq off, 3)) (ht : (pc : Int) + off = (tgt : Int)) (hq : pc + 3 = q) (kt : x = 0 → PV K X Q ce sl tgt lv st D P) (kf : ¬ x = 0 → PV K X Q ce sl q lv st D P) : PV K X Q ce sl pc lv (.int x :: st) D P := by
  subst hq; intro H locs ls hP hS hl; exact lv_if_eq C.hx C.hb d ht (fun h => kt h H locs ls hP hS hl) (fun h => kf h H locs ls hP hS hl)
theorem pv_icmp_eq {x y : Int32} {off : Int} {tgt : Nat} (C : CX K X cc own w0 nL ret) (d : decode cc pc = .ok (.if_icmp .eq off, 3)) (ht : (pc : Int) + off = (tgt : Int)) (hq : pc + 3 = q) (kt : x = y → PV K X Q ce sl tgt lv st D P) (kf : ¬ x = y → PV K X Q ce sl q lv st D P) : PV K X Q ce sl pc lv (.int y :: .int x :: st) D P := by
  subst hq; intro H locs ls hP hS hl; exact lv_icmp_eq C.hx C.hb d ht (fun h => kt h H locs ls hP hS hl) (fun h => kf h H locs ls hP hS hl)
theorem pv_if_ne {x : Int32} {off : Int} {tgt : Nat} (C : CX K X cc own w0 nL ret) (d : decode cc pc = .ok (.ifCond .ne off, 3)) (ht : (pc : Int) + off = (tgt : Int)) (hq : pc + 3 = q) (kt : ¬ x = 0 → PV K X Q ce sl tgt lv st D P) (kf : x = 0 → PV K X Q ce sl q lv st D P) : PV K X Q ce sl pc lv (.int x :: st) D P := by
  subst hq; intro H locs ls hP hS hl; exact lv_if_ne C.hx C.hb d ht (fun h => kt h H locs ls hP hS hl) (fun h => kf h H locs ls hP hS hl)
theorem pv_icmp_ne {x y : Int32} {off : Int} {tgt : Nat} (C : CX K X cc own w0 nL ret) (d : decode cc pc = .ok (.if_icmp .ne off, 3)) (ht : (pc : Int) + off = (tgt : Int)) (hq : pc + 3 = q) (kt : ¬ x = y → PV K X Q ce sl tgt lv st D P) (kf : x = y → PV K X Q ce sl q lv st D P) : PV K X Q ce sl pc lv (.int y :: .int x :: st) D P := by
  subst hq; intro H locs ls hP hS hl; exact lv_icmp_ne C.hx C.hb d ht (fun h => kt h H locs ls hP hS hl) (fun h => kf h H locs ls hP hS hl)
theorem pv_if_lt {x : Int32} {off : Int} {tgt : Nat} (C : CX K X cc own w0 nL ret) (d : decode cc pc = .ok (.ifCond .lt off, 3)) (ht : (pc : Int) + off = (tgt : Int)) (hq : pc + 3 = q) (kt : x < 0 → PV K X Q ce sl tgt lv st D P) (kf : ¬ x < 0 → PV K X Q ce sl q lv st D P) : PV K X Q ce sl pc lv (.int x :: st) D P := by
  subst hq; intro H locs ls hP hS hl; exact lv_if_lt C.hx C.hb d ht (fun h => kt h H locs ls hP hS hl) (fun h => kf h H locs ls hP hS hl)
theorem pv_icmp_lt {x y : Int32} {off : Int} {tgt : Nat} (C : CX K X cc own w0 nL ret) (d : decode cc pc = .ok (.if_icmp .lt off, 3)) (ht : (pc : Int) + off = (tgt : Int)) (hq : pc + 3 = q) (kt : x < y → PV K X Q ce sl tgt lv st D P) (kf : ¬ x < y → PV K X Q ce sl q lv st D P) : PV K X Q ce sl pc lv (.int y :: .int x :: st) D P := by
  subst hq; intro H locs ls hP hS hl; exact lv_icmp_lt C.hx C.hb d ht (fun h => kt h H locs ls hP hS hl) (fun h => kf h H locs ls hP hS hl)
theorem pv_if_ge {x : Int32} {off : Int} {tgt : Nat} (C : CX K X cc own w0 nL ret) (d : decode cc pc = .ok (.ifCond .ge off, 3)) (ht : (pc : Int) + off = (tgt : Int)) (hq : pc + 3 = q) (kt : 0 ≤ x → PV K X Q ce sl tgt lv st D P) (kf : ¬ 0 ≤ x → PV K X Q ce sl q lv st D P) : PV K X Q ce sl pc lv (.int x :: st) D P := by
  subst hq; intro H locs ls hP hS hl; exact lv_if_ge C.hx C.hb d ht (fun h => kt h H locs ls hP hS hl) (fun h => kf h H locs ls hP hS hl)
theorem pv_icmp_ge {x y : Int32} {off : Int} {tgt : Nat} (C : CX K X cc own w0 nL ret) (d : decode cc pc = .ok (.if_icmp .ge off, 3)) (ht : (pc : Int) + off = (tgt : Int)) (hq : pc + 3 = q) (kt : y ≤ x → PV K X Q ce sl tgt lv st D P) (kf : ¬ y ≤ x → PV K X Q ce sl q lv st D P) : PV K X Q ce sl pc lv (.int y :: .int x :: st) D P := by
  subst hq; intro H locs ls hP hS hl; exact lv_icmp_ge C.hx C.hb d ht (fun h => kt h H locs ls hP hS hl) (fun h => kf h H locs ls hP hS hl)
theorem pv_if_gt {x : Int32} {off : Int} {tgt : Nat} (C : CX K X cc own w0 nL ret) (d : decode cc pc = .ok (.ifCond .gt off, 3)) (ht : (pc : Int) + off = (tgt : Int)) (hq : pc + 3 = q) (kt : 0 < x → PV K X Q ce sl tgt lv st D P) (kf : ¬ 0 < x → PV K X Q ce sl q lv st D P) : PV K X Q ce sl pc lv (.int x :: st) D P := by
  subst hq; intro H locs ls hP hS hl; exact lv_if_gt C.hx C.hb d ht (fun h => kt h H locs ls hP hS hl) (fun h => kf h H locs ls hP hS hl)
theorem pv_icmp_gt {x y : Int32} {off : Int} {tgt : Nat} (C : CX K X cc own w0 nL ret) (d : decode cc pc = .ok (.if_icmp .gt off, 3)) (ht : (pc : Int) + off = (tgt : Int)) (hq : pc + 3 = q) (kt : y < x → PV K X Q ce sl tgt lv st D P) (kf : ¬ y < x → PV K X Q ce sl q lv st D P) : PV K X Q ce sl pc lv (.int y :: .int x :: st) D P := by
  subst hq; intro H locs ls hP hS hl; exact lv_icmp_gt C.hx C.hb d ht (fun h => kt h H locs ls hP hS hl) (fun h => kf h H locs ls hP hS hl)
theorem pv_if_le {x : Int32} {off : Int} {tgt : Nat} (C : CX K X cc own w0 nL ret) (d : decode cc pc = .ok (.ifCond .le off, 3)) (ht : (pc : Int) + off = (tgt : Int)) (hq : pc + 3 = q) (kt : x ≤ 0 → PV K X Q ce sl tgt lv st D P) (kf : ¬ x ≤ 0 → PV K X Q ce sl q lv st D P) : PV K X Q ce sl pc lv (.int x :: st) D P := by
  subst hq; intro H locs ls hP hS hl; exact lv_if_le C.hx C.hb d ht (fun h => kt h H locs ls hP hS hl) (fun h => kf h H locs ls hP hS hl)
theorem pv_icmp_le {x y : Int32} {off : Int} {tgt : Nat} (C : CX K X cc own w0 nL ret) (d : decode cc pc = .ok (.if_icmp .le off, 3)) (ht : (pc : Int) + off = (tgt : Int)) (hq : pc + 3 = q) (kt : x ≤ y → PV K X Q ce sl tgt lv st D P) (kf : ¬ x ≤ y → PV K X Q ce sl q lv st D P) : PV K X Q ce sl pc lv (.int y :: .int x :: st) D P := by
  subst hq; intro H locs ls hP hS hl; exact lv_icmp_le C.hx C.hb d ht (fun h => kt h H locs ls hP hS hl) (fun h => kf h H locs ls hP hS hl)
theorem pv_goto {off : Int} {tgt : Nat} (C : CX K X cc own w0 nL ret) (d : decode cc pc = .ok (.goto off, 3)) (ht : (pc : Int) + off = (tgt : Int)) (k : PV K X Q ce sl tgt lv st D P) : PV K X Q ce sl pc lv st D P := by
  intro H locs ls hP hS hl; exact lv_goto C.hx C.hb d ht (k H locs ls hP hS hl)
theorem pv_lookup {dflt : Int} {ps : Array (Int × Int)} {len : Nat} {x : Int32} {off : Int} {tgt : Nat} (C : CX K X cc own w0 nL ret) (d : decode cc pc = .ok (.lookupswitch dflt ps, len)) (hp : (ps.toList.zip (ps.toList.drop 1)).all (fun (a, next) => a.1 < next.1) = true) (ho : Op.lookupswitch.offset ps.toList dflt x.toInt = off) (ht : (pc : Int) + off = (tgt : Int)) (k : PV K X Q ce sl tgt lv st D P) : PV K X Q ce sl pc lv (.int x :: st) D P := by
  intro H locs ls hP hS hl; exact lv_lookup C.hx C.hb d hp ho ht (k H locs ls hP hS hl)
theorem pv_tableIn {dflt lo hi : Int} {offs : Array Int} {len : Nat} {x : Int32} {off : Int} {tgt : Nat} (C : CX K X cc own w0 nL ret) (d : decode cc pc = .ok (.tableswitch dflt lo hi offs, len)) (h1 : ¬ x.toInt < lo) (h2 : ¬ hi < x.toInt) (ho : offs[(x.toInt - lo).toNat]? = some off) (ht : (pc : Int) + off = (tgt : Int)) (k : PV K X Q ce sl tgt lv st D P) : PV K X Q ce sl pc lv (.int x :: st) D P := by
  intro H locs ls hP hS hl; exact lv_tableIn C.hx C.hb d h1 h2 ho ht (k H locs ls hP hS hl)
theorem pv_tableOut {dflt lo hi : Int} {offs : Array Int} {len : Nat} {x : Int32} {tgt : Nat} (C : CX K X cc own w0 nL ret) (d : decode cc pc = .ok (.tableswitch dflt lo hi offs, len)) (h : x.toInt < lo ∨ hi < x.toInt) (ht : (pc : Int) + dflt = (tgt : Int)) (k : PV K X Q ce sl tgt lv st D P) : PV K X Q ce sl pc lv (.int x :: st) D P := by
  intro H locs ls hP hS hl; exact lv_tableOut C.hx C.hb d h ht (k H locs ls hP hS hl)
end Rows
theorem gc_0 {X : XT} {D : DT} {P : PT} {i : Nat} (h : kd i = 0) : gc X D P i = gcK X D P i 0 := by unfold gc; rw [h]
theorem gc_1 {X : XT} {D : DT} {P : PT} {i : Nat} (h : kd i = 1) : gc X D P i = gcK X D P i 1 := by unfold gc; rw [h]
theorem gc_2 {X : XT} {D : DT} {P : PT} {i : Nat} (h : kd i = 2) : gc X D P i = gcK X D P i 2 := by unfold gc; rw [h]
theorem gc_3 {X : XT} {D : DT} {P : PT} {i : Nat} (h : kd i = 3) : gc X D P i = gcK X D P i 3 := by unfold gc; rw [h]
theorem gc_4 {X : XT} {D : DT} {P : PT} {i : Nat} (h : kd i = 4) : gc X D P i = gcK X D P i 4 := by unfold gc; rw [h]
theorem gc_5 {X : XT} {D : DT} {P : PT} {i : Nat} (h : kd i = 5) : gc X D P i = gcK X D P i 5 := by unfold gc; rw [h]
theorem gc_6 {X : XT} {D : DT} {P : PT} {i : Nat} (h : kd i = 6) : gc X D P i = gcK X D P i 6 := by unfold gc; rw [h]
theorem iln_9 {i : Nat} (h : kd i = 9) : iln (kd i) = some 16 := by rw [h]; rfl
theorem iln_14 {i : Nat} (h : kd i = 14) : iln (kd i) = some 64 := by rw [h]; rfl
theorem gc_I {X : XT} {D : DT} {P : PT} {i n : Nat} (h : iln (kd i) = some n) : gc X D P i = .inl (X.2.1 1, n, .inl (D i)) := by
  unfold gc
  generalize kd i = k at h
  unfold iln at h
  split at h
  · rename_i e; subst e; cases h; rfl
  · split at h
    · rename_i e; subst e; cases h; rfl
    · cases h
theorem iln_lt {i n : Nat} (h : iln (kd i) = some n) : Lv i ∧ n ≤ 920 := by
  have h2 : n ≤ 920 ∧ kd i < 99 := by
    generalize kd i = k at h
    unfold iln at h
    repeat' split at h
    all_goals first | (cases h; done) | (cases h; omega)
  exact ⟨kd_lv rfl h2.2, h2.1⟩
theorem gc_8 {X : XT} {D : DT} {P : PT} {i : Nat} (h : kd i = 8) : gc X D P i = gcK X D P i 8 := by unfold gc; rw [h]
theorem gc_10 {X : XT} {D : DT} {P : PT} {i : Nat} (h : kd i = 10) : gc X D P i = gcK X D P i 10 := by unfold gc; rw [h]
theorem gc_11 {X : XT} {D : DT} {P : PT} {i : Nat} (h : kd i = 11) : gc X D P i = gcK X D P i 11 := by unfold gc; rw [h]
theorem gc_12 {X : XT} {D : DT} {P : PT} {i : Nat} (h : kd i = 12) : gc X D P i = gcK X D P i 12 := by unfold gc; rw [h]
theorem kd_0_0f : ∀ i, i < 297 → kd i = 0 → kd (i + 1) = 9 := by decide +kernel
theorem kd_0_0 {i : Nat} (h : kd i = 0) : kd (i + 1) = 9 := kd_0_0f i (kd_lt h (by decide)) h
theorem kd_1_0f : ∀ i, i < 297 → kd i = 1 → kd (i + 1) = 14 := by decide +kernel
theorem kd_1_0 {i : Nat} (h : kd i = 1) : kd (i + 1) = 14 := kd_1_0f i (kd_lt h (by decide)) h
theorem kd_1_1f : ∀ i, i < 297 → kd i = 1 → kd (i + 2) = 14 := by decide +kernel
theorem kd_1_1 {i : Nat} (h : kd i = 1) : kd (i + 2) = 14 := kd_1_1f i (kd_lt h (by decide)) h
theorem kd_1_2f : ∀ i, i < 297 → kd i = 1 → kd (i + 3) = 14 := by decide +kernel
theorem kd_1_2 {i : Nat} (h : kd i = 1) : kd (i + 3) = 14 := kd_1_2f i (kd_lt h (by decide)) h
theorem kd_2_0f : ∀ i, i < 297 → kd i = 2 → kd (i + 1) = 8 := by decide +kernel
theorem kd_2_0 {i : Nat} (h : kd i = 2) : kd (i + 1) = 8 := kd_2_0f i (kd_lt h (by decide)) h
theorem kd_3_0f : ∀ i, i < 297 → kd i = 3 → kd (i + 1) = 4 := by decide +kernel
theorem kd_3_0 {i : Nat} (h : kd i = 3) : kd (i + 1) = 4 := kd_3_0f i (kd_lt h (by decide)) h
theorem kd_3_1f : ∀ i, i < 297 → kd i = 3 → kd (i + 4) = 1 := by decide +kernel
theorem kd_3_1 {i : Nat} (h : kd i = 3) : kd (i + 4) = 1 := kd_3_1f i (kd_lt h (by decide)) h
theorem kd_3_2f : ∀ i, i < 297 → kd i = 3 → kd (i + 8) = 12 := by decide +kernel
theorem kd_3_2 {i : Nat} (h : kd i = 3) : kd (i + 8) = 12 := kd_3_2f i (kd_lt h (by decide)) h
theorem kd_4_0f : ∀ i, i < 297 → kd i = 4 → kd (i + 1) = 9 := by decide +kernel
theorem kd_4_0 {i : Nat} (h : kd i = 4) : kd (i + 1) = 9 := kd_4_0f i (kd_lt h (by decide)) h
theorem kd_4_1f : ∀ i, i < 297 → kd i = 4 → kd (i + 2) = 9 := by decide +kernel
theorem kd_4_1 {i : Nat} (h : kd i = 4) : kd (i + 2) = 9 := kd_4_1f i (kd_lt h (by decide)) h
theorem kd_5_0f : ∀ i, i < 297 → kd i = 5 → kd (i + 1) = 10 := by decide +kernel
theorem kd_5_0 {i : Nat} (h : kd i = 5) : kd (i + 1) = 10 := kd_5_0f i (kd_lt h (by decide)) h
theorem kd_6_0 {i : Nat} (_ : kd i = 6) : kd 24 = 3 := by decide +kernel
theorem kd_6_1 {i : Nat} (_ : kd i = 6) : kd 1 = 11 := by decide +kernel
theorem kd_6_3 {i : Nat} (_ : kd i = 6) : kd 258 = 3 := by decide +kernel
theorem kd_6_5 {i : Nat} (_ : kd i = 6) : kd 2 = 2 := by decide +kernel
theorem kd_6_6 {i : Nat} (_ : kd i = 6) : kd 4 = 0 := by decide +kernel
theorem kd_6_7 {i : Nat} (_ : kd i = 6) : kd 14 = 5 := by decide +kernel
theorem kd_10_jf : ∀ i, i < 297 → kd i = 10 → ∀ j, j < 4 → kd (i + 1 + 2 * j) = 0 := by decide +kernel
theorem kd_10_j {i j : Nat} (h : kd i = 10) (hj : j < 4) : kd (i + 1 + 2 * j) = 0 := kd_10_jf i (kd_lt h (by decide)) h j hj
theorem kd_12_jf : ∀ i, i < 297 → kd i = 12 → ∀ j, j < 3 → kd (i + 1 + 10 * j) = 5 := by decide +kernel
theorem kd_12_j {i j : Nat} (h : kd i = 12) (hj : j < 3) : kd (i + 1 + 10 * j) = 5 := kd_12_jf i (kd_lt h (by decide)) h j hj
theorem kd_6_0f : ∀ i, i < 297 → kd i = 6 → i = 0 := by decide +kernel
theorem inX0 : ∀ w ∈ u_ws RX0 TX0 2, w ∈ AW := List.forall_mem_cons.mpr ⟨tw_91, List.forall_mem_cons.mpr ⟨tw_93, fun _ h => nomatch h⟩⟩
theorem inX0c {w0 : Cond} : ∀ w ∈ u_ws RX0 TX0 2, w ∈ w0 :: AW := fun w h => List.mem_cons_of_mem _ (inX0 w h)
theorem inX1 : ∀ w ∈ u_ws RX1 TX1 4, w ∈ AW := List.forall_mem_cons.mpr ⟨tw_65, List.forall_mem_cons.mpr ⟨tw_67, List.forall_mem_cons.mpr ⟨tw_69, List.forall_mem_cons.mpr ⟨tw_71, fun _ h => nomatch h⟩⟩⟩⟩
theorem inX1c {w0 : Cond} : ∀ w ∈ u_ws RX1 TX1 4, w ∈ w0 :: AW := fun w h => List.mem_cons_of_mem _ (inX1 w h)
theorem inX2 : ∀ w ∈ u_ws RX2 TX2 7, w ∈ AW := List.forall_mem_cons.mpr ⟨tw_181, List.forall_mem_cons.mpr ⟨tw_183, List.forall_mem_cons.mpr ⟨tw_185, List.forall_mem_cons.mpr ⟨tw_187, List.forall_mem_cons.mpr ⟨tw_189, List.forall_mem_cons.mpr ⟨tw_191, List.forall_mem_cons.mpr ⟨tw_193, fun _ h => nomatch h⟩⟩⟩⟩⟩⟩⟩
theorem inX2c {w0 : Cond} : ∀ w ∈ u_ws RX2 TX2 7, w ∈ w0 :: AW := fun w h => List.mem_cons_of_mem _ (inX2 w h)
theorem inX3 : ∀ w ∈ u_ws RX3 TX3 8, w ∈ AW := List.forall_mem_cons.mpr ⟨tw_144, List.forall_mem_cons.mpr ⟨tw_146, List.forall_mem_cons.mpr ⟨tw_148, List.forall_mem_cons.mpr ⟨tw_150, List.forall_mem_cons.mpr ⟨tw_152, List.forall_mem_cons.mpr ⟨tw_154, List.forall_mem_cons.mpr ⟨tw_156, List.forall_mem_cons.mpr ⟨tw_158, fun _ h => nomatch h⟩⟩⟩⟩⟩⟩⟩⟩
theorem inX3c {w0 : Cond} : ∀ w ∈ u_ws RX3 TX3 8, w ∈ w0 :: AW := fun w h => List.mem_cons_of_mem _ (inX3 w h)
theorem inX4 : ∀ w ∈ u_ws RX4 TX4 2, w ∈ AW := List.forall_mem_cons.mpr ⟨tw_44, List.forall_mem_cons.mpr ⟨tw_46, fun _ h => nomatch h⟩⟩
theorem inX4c {w0 : Cond} : ∀ w ∈ u_ws RX4 TX4 2, w ∈ w0 :: AW := fun w h => List.mem_cons_of_mem _ (inX4 w h)
theorem inX5 : ∀ w ∈ u_ws RX5 TX5 7, w ∈ AW := List.forall_mem_cons.mpr ⟨tw_113, List.forall_mem_cons.mpr ⟨tw_115, List.forall_mem_cons.mpr ⟨tw_117, List.forall_mem_cons.mpr ⟨tw_119, List.forall_mem_cons.mpr ⟨tw_121, List.forall_mem_cons.mpr ⟨tw_123, List.forall_mem_cons.mpr ⟨tw_125, fun _ h => nomatch h⟩⟩⟩⟩⟩⟩⟩
theorem inX5c {w0 : Cond} : ∀ w ∈ u_ws RX5 TX5 7, w ∈ w0 :: AW := fun w h => List.mem_cons_of_mem _ (inX5 w h)
theorem inX6 : ∀ w ∈ u_ws RX6 TX6 8, w ∈ AW := List.forall_mem_cons.mpr ⟨tw_209, List.forall_mem_cons.mpr ⟨tw_211, List.forall_mem_cons.mpr ⟨tw_213, List.forall_mem_cons.mpr ⟨tw_215, List.forall_mem_cons.mpr ⟨tw_217, List.forall_mem_cons.mpr ⟨tw_219, List.forall_mem_cons.mpr ⟨tw_221, List.forall_mem_cons.mpr ⟨tw_223, fun _ h => nomatch h⟩⟩⟩⟩⟩⟩⟩⟩
theorem inX6c {w0 : Cond} : ∀ w ∈ u_ws RX6 TX6 8, w ∈ w0 :: AW := fun w h => List.mem_cons_of_mem _ (inX6 w h)
section Rows
variable {K : KT} {X : XT} {cc : ByteArray} {own : String} {w0 : Cond} {nL : Nat} {ret : Option FieldType} {Q : State → Prop} {ce sl pc q : Nat} {lv : List (Option Value)} {st : List Value} {D : DT} {P : PT}
theorem pg_0_0 {i index : Nat} (C : CX K X cc own w0 nL ret) (hk : kd i = 0) (hL : Cond.fieldLink own index RX0 "bySize" "[I" ∈ AW) (d : decode cc pc = .ok (.getfield index, 3)) (hq : pc + 3 = q) (k : kd (i + 1) = 9 → PV K X Q ce sl q lv (.ref (X.2.2 (i + 1)) :: st) D P) : PV K X Q ce sl pc lv (.ref (X.2.2 i) :: st) D P := by
  subst hq; intro H locs ls hP hS hl
  exact va_get (C := RX0) (T := TX0) (N := 2) (ci := 0) C.hx C.hb C.hts inX0c C.hown C.hK hP (pl i) ((gw_at (kd_lv hk (by decide))).trans (congrArg (fun e => some (X.2.2 i, e)) (gc_0 hk))) rfl 0 (by decide) (C.aw hL) (fun _ h9 => h9) rfl d (k (kd_0_0 hk) H locs ls hP hS hl)
theorem pg_0_1 {i index : Nat} (C : CX K X cc own w0 nL ret) (hk : kd i = 0) (hL : Cond.fieldLink own index RX0 "count" "I" ∈ AW) (d : decode cc pc = .ok (.getfield index, 3)) (hq : pc + 3 = q) (k : PV K X Q ce sl q lv (.int (D i 1) :: st) D P) : PV K X Q ce sl pc lv (.ref (X.2.2 i) :: st) D P := by
  subst hq; intro H locs ls hP hS hl
  exact va_get (C := RX0) (T := TX0) (N := 2) (ci := 0) C.hx C.hb C.hts inX0c C.hown C.hK hP (pl i) ((gw_at (kd_lv hk (by decide))).trans (congrArg (fun e => some (X.2.2 i, e)) (gc_0 hk))) rfl 1 (by decide) (C.aw hL) (fun _ h9 => h9) rfl d (k H locs ls hP hS hl)
theorem pp_0_1 {i index : Nat} {v : Int32} (C : CX K X cc own w0 nL ret) (hk : kd i = 0) (hL : Cond.fieldLink own index RX0 "count" "I" ∈ AW) (d : decode cc pc = .ok (.putfield index, 3)) (hq : pc + 3 = q) (k : ∀ D' : DT, D' = up2 D i 1 v → PV K X Q ce sl q lv st D' P) : PV K X Q ce sl pc lv (.int v :: .ref (X.2.2 i) :: st) D P := by
  subst hq; intro H locs ls hP hS hl
  refine va_put (C := RX0) (T := TX0) (N := 2) (ci := 0) (ty := .int) C.hx C.hb C.hts inX0c tyX0 tyX0_ok nmX0 C.hown C.hK hP (gw_D C.hI D P _) hS (pl i) ((gw_at (kd_lv hk (by decide))).trans (congrArg (fun e => some (X.2.2 i, e)) (gc_0 hk))) rfl 1 (by decide) (C.aw hL) (fun _ h9 => h9) rfl (tyX0_ok 1 (by decide)) rfl rfl (Nat.le_of_ble_eq_true rfl) d (fun H1 locs1 hP1 _ hS1 => ?_)
  rw [gw_set (D' := up2 D i 1 v) (P' := P) (kd_lv hk (by decide)) (by rw [gc_0 hk]; simp [gcK, up2_self, up2, va_up]) (fun j _ hj => gc_ne hj)] at hP1
  exact k _ rfl H1 locs1 ls hP1 hS1 hl
theorem pg_1_0 {i index : Nat} (C : CX K X cc own w0 nL ret) (hk : kd i = 1) (hL : Cond.fieldLink own index RX1 "groups" "[I" ∈ AW) (d : decode cc pc = .ok (.getfield index, 3)) (hq : pc + 3 = q) (k : kd (i + 1) = 14 → PV K X Q ce sl q lv (.ref (X.2.2 (i + 1)) :: st) D P) : PV K X Q ce sl pc lv (.ref (X.2.2 i) :: st) D P := by
  subst hq; intro H locs ls hP hS hl
  exact va_get (C := RX1) (T := TX1) (N := 4) (ci := 1) C.hx C.hb C.hts inX1c C.hown C.hK hP (pl i) ((gw_at (kd_lv hk (by decide))).trans (congrArg (fun e => some (X.2.2 i, e)) (gc_1 hk))) rfl 0 (by decide) (C.aw hL) (fun _ h9 => h9) rfl d (k (kd_1_0 hk) H locs ls hP hS hl)
theorem pg_1_1 {i index : Nat} (C : CX K X cc own w0 nL ret) (hk : kd i = 1) (hL : Cond.fieldLink own index RX1 "amounts" "[I" ∈ AW) (d : decode cc pc = .ok (.getfield index, 3)) (hq : pc + 3 = q) (k : kd (i + 2) = 14 → PV K X Q ce sl q lv (.ref (X.2.2 (i + 2)) :: st) D P) : PV K X Q ce sl pc lv (.ref (X.2.2 i) :: st) D P := by
  subst hq; intro H locs ls hP hS hl
  exact va_get (C := RX1) (T := TX1) (N := 4) (ci := 1) C.hx C.hb C.hts inX1c C.hown C.hK hP (pl i) ((gw_at (kd_lv hk (by decide))).trans (congrArg (fun e => some (X.2.2 i, e)) (gc_1 hk))) rfl 1 (by decide) (C.aw hL) (fun _ h9 => h9) rfl d (k (kd_1_1 hk) H locs ls hP hS hl)
theorem pg_1_2 {i index : Nat} (C : CX K X cc own w0 nL ret) (hk : kd i = 1) (hL : Cond.fieldLink own index RX1 "steps" "[I" ∈ AW) (d : decode cc pc = .ok (.getfield index, 3)) (hq : pc + 3 = q) (k : kd (i + 3) = 14 → PV K X Q ce sl q lv (.ref (X.2.2 (i + 3)) :: st) D P) : PV K X Q ce sl pc lv (.ref (X.2.2 i) :: st) D P := by
  subst hq; intro H locs ls hP hS hl
  exact va_get (C := RX1) (T := TX1) (N := 4) (ci := 1) C.hx C.hb C.hts inX1c C.hown C.hK hP (pl i) ((gw_at (kd_lv hk (by decide))).trans (congrArg (fun e => some (X.2.2 i, e)) (gc_1 hk))) rfl 2 (by decide) (C.aw hL) (fun _ h9 => h9) rfl d (k (kd_1_2 hk) H locs ls hP hS hl)
theorem pg_1_3 {i index : Nat} (C : CX K X cc own w0 nL ret) (hk : kd i = 1) (hL : Cond.fieldLink own index RX1 "written" "I" ∈ AW) (d : decode cc pc = .ok (.getfield index, 3)) (hq : pc + 3 = q) (k : PV K X Q ce sl q lv (.int (D i 3) :: st) D P) : PV K X Q ce sl pc lv (.ref (X.2.2 i) :: st) D P := by
  subst hq; intro H locs ls hP hS hl
  exact va_get (C := RX1) (T := TX1) (N := 4) (ci := 1) C.hx C.hb C.hts inX1c C.hown C.hK hP (pl i) ((gw_at (kd_lv hk (by decide))).trans (congrArg (fun e => some (X.2.2 i, e)) (gc_1 hk))) rfl 3 (by decide) (C.aw hL) (fun _ h9 => h9) rfl d (k H locs ls hP hS hl)
theorem pp_1_3 {i index : Nat} {v : Int32} (C : CX K X cc own w0 nL ret) (hk : kd i = 1) (hL : Cond.fieldLink own index RX1 "written" "I" ∈ AW) (d : decode cc pc = .ok (.putfield index, 3)) (hq : pc + 3 = q) (k : ∀ D' : DT, D' = up2 D i 3 v → PV K X Q ce sl q lv st D' P) : PV K X Q ce sl pc lv (.int v :: .ref (X.2.2 i) :: st) D P := by
  subst hq; intro H locs ls hP hS hl
  refine va_put (C := RX1) (T := TX1) (N := 4) (ci := 1) (ty := .int) C.hx C.hb C.hts inX1c tyX1 tyX1_ok nmX1 C.hown C.hK hP (gw_D C.hI D P _) hS (pl i) ((gw_at (kd_lv hk (by decide))).trans (congrArg (fun e => some (X.2.2 i, e)) (gc_1 hk))) rfl 3 (by decide) (C.aw hL) (fun _ h9 => h9) rfl (tyX1_ok 3 (by decide)) rfl rfl (Nat.le_of_ble_eq_true rfl) d (fun H1 locs1 hP1 _ hS1 => ?_)
  rw [gw_set (D' := up2 D i 3 v) (P' := P) (kd_lv hk (by decide)) (by rw [gc_1 hk]; simp [gcK, up2_self, up2, va_up]) (fun j _ hj => gc_ne hj)] at hP1
  exact k _ rfl H1 locs1 ls hP1 hS1 hl
theorem pg_2_0 {i index : Nat} (C : CX K X cc own w0 nL ret) (hk : kd i = 2) (hL : Cond.fieldLink own index RX2 "signs" "[C" ∈ AW) (d : decode cc pc = .ok (.getfield index, 3)) (hq : pc + 3 = q) (k : kd (i + 1) = 8 → PV K X Q ce sl q lv (.ref (X.2.2 (i + 1)) :: st) D P) : PV K X Q ce sl pc lv (.ref (X.2.2 i) :: st) D P := by
  subst hq; intro H locs ls hP hS hl
  exact va_get (C := RX2) (T := TX2) (N := 7) (ci := 2) C.hx C.hb C.hts inX2c C.hown C.hK hP (pl i) ((gw_at (kd_lv hk (by decide))).trans (congrArg (fun e => some (X.2.2 i, e)) (gc_2 hk))) rfl 0 (by decide) (C.aw hL) (fun _ h9 => h9) rfl d (k (kd_2_0 hk) H locs ls hP hS hl)
theorem pg_2_1 {i index : Nat} (C : CX K X cc own w0 nL ret) (hk : kd i = 2) (hL : Cond.fieldLink own index RX2 "length" "I" ∈ AW) (d : decode cc pc = .ok (.getfield index, 3)) (hq : pc + 3 = q) (k : PV K X Q ce sl q lv (.int (D i 1) :: st) D P) : PV K X Q ce sl pc lv (.ref (X.2.2 i) :: st) D P := by
  subst hq; intro H locs ls hP hS hl
  exact va_get (C := RX2) (T := TX2) (N := 7) (ci := 2) C.hx C.hb C.hts inX2c C.hown C.hK hP (pl i) ((gw_at (kd_lv hk (by decide))).trans (congrArg (fun e => some (X.2.2 i, e)) (gc_2 hk))) rfl 1 (by decide) (C.aw hL) (fun _ h9 => h9) rfl d (k H locs ls hP hS hl)
theorem pp_2_1 {i index : Nat} {v : Int32} (C : CX K X cc own w0 nL ret) (hk : kd i = 2) (hL : Cond.fieldLink own index RX2 "length" "I" ∈ AW) (d : decode cc pc = .ok (.putfield index, 3)) (hq : pc + 3 = q) (k : ∀ D' : DT, D' = up2 D i 1 v → PV K X Q ce sl q lv st D' P) : PV K X Q ce sl pc lv (.int v :: .ref (X.2.2 i) :: st) D P := by
  subst hq; intro H locs ls hP hS hl
  refine va_put (C := RX2) (T := TX2) (N := 7) (ci := 2) (ty := .int) C.hx C.hb C.hts inX2c tyX2 tyX2_ok nmX2 C.hown C.hK hP (gw_D C.hI D P _) hS (pl i) ((gw_at (kd_lv hk (by decide))).trans (congrArg (fun e => some (X.2.2 i, e)) (gc_2 hk))) rfl 1 (by decide) (C.aw hL) (fun _ h9 => h9) rfl (tyX2_ok 1 (by decide)) rfl rfl (Nat.le_of_ble_eq_true rfl) d (fun H1 locs1 hP1 _ hS1 => ?_)
  rw [gw_set (D' := up2 D i 1 v) (P' := P) (kd_lv hk (by decide)) (by rw [gc_2 hk]; simp [gcK, up2_self, up2, va_up]) (fun j _ hj => gc_ne hj)] at hP1
  exact k _ rfl H1 locs1 ls hP1 hS1 hl
theorem pg_2_2 {i index : Nat} (C : CX K X cc own w0 nL ret) (hk : kd i = 2) (hL : Cond.fieldLink own index RX2 "at" "I" ∈ AW) (d : decode cc pc = .ok (.getfield index, 3)) (hq : pc + 3 = q) (k : PV K X Q ce sl q lv (.int (D i 2) :: st) D P) : PV K X Q ce sl pc lv (.ref (X.2.2 i) :: st) D P := by
  subst hq; intro H locs ls hP hS hl
  exact va_get (C := RX2) (T := TX2) (N := 7) (ci := 2) C.hx C.hb C.hts inX2c C.hown C.hK hP (pl i) ((gw_at (kd_lv hk (by decide))).trans (congrArg (fun e => some (X.2.2 i, e)) (gc_2 hk))) rfl 2 (by decide) (C.aw hL) (fun _ h9 => h9) rfl d (k H locs ls hP hS hl)
theorem pp_2_2 {i index : Nat} {v : Int32} (C : CX K X cc own w0 nL ret) (hk : kd i = 2) (hL : Cond.fieldLink own index RX2 "at" "I" ∈ AW) (d : decode cc pc = .ok (.putfield index, 3)) (hq : pc + 3 = q) (k : ∀ D' : DT, D' = up2 D i 2 v → PV K X Q ce sl q lv st D' P) : PV K X Q ce sl pc lv (.int v :: .ref (X.2.2 i) :: st) D P := by
  subst hq; intro H locs ls hP hS hl
  refine va_put (C := RX2) (T := TX2) (N := 7) (ci := 2) (ty := .int) C.hx C.hb C.hts inX2c tyX2 tyX2_ok nmX2 C.hown C.hK hP (gw_D C.hI D P _) hS (pl i) ((gw_at (kd_lv hk (by decide))).trans (congrArg (fun e => some (X.2.2 i, e)) (gc_2 hk))) rfl 2 (by decide) (C.aw hL) (fun _ h9 => h9) rfl (tyX2_ok 2 (by decide)) rfl rfl (Nat.le_of_ble_eq_true rfl) d (fun H1 locs1 hP1 _ hS1 => ?_)
  rw [gw_set (D' := up2 D i 2 v) (P' := P) (kd_lv hk (by decide)) (by rw [gc_2 hk]; simp [gcK, up2_self, up2, va_up]) (fun j _ hj => gc_ne hj)] at hP1
  exact k _ rfl H1 locs1 ls hP1 hS1 hl
theorem pg_2_3 {i index : Nat} (C : CX K X cc own w0 nL ret) (hk : kd i = 2) (hL : Cond.fieldLink own index RX2 "kind" "I" ∈ AW) (d : decode cc pc = .ok (.getfield index, 3)) (hq : pc + 3 = q) (k : PV K X Q ce sl q lv (.int (D i 3) :: st) D P) : PV K X Q ce sl pc lv (.ref (X.2.2 i) :: st) D P := by
  subst hq; intro H locs ls hP hS hl
  exact va_get (C := RX2) (T := TX2) (N := 7) (ci := 2) C.hx C.hb C.hts inX2c C.hown C.hK hP (pl i) ((gw_at (kd_lv hk (by decide))).trans (congrArg (fun e => some (X.2.2 i, e)) (gc_2 hk))) rfl 3 (by decide) (C.aw hL) (fun _ h9 => h9) rfl d (k H locs ls hP hS hl)
theorem pp_2_3 {i index : Nat} {v : Int32} (C : CX K X cc own w0 nL ret) (hk : kd i = 2) (hL : Cond.fieldLink own index RX2 "kind" "I" ∈ AW) (d : decode cc pc = .ok (.putfield index, 3)) (hq : pc + 3 = q) (k : ∀ D' : DT, D' = up2 D i 3 v → PV K X Q ce sl q lv st D' P) : PV K X Q ce sl pc lv (.int v :: .ref (X.2.2 i) :: st) D P := by
  subst hq; intro H locs ls hP hS hl
  refine va_put (C := RX2) (T := TX2) (N := 7) (ci := 2) (ty := .int) C.hx C.hb C.hts inX2c tyX2 tyX2_ok nmX2 C.hown C.hK hP (gw_D C.hI D P _) hS (pl i) ((gw_at (kd_lv hk (by decide))).trans (congrArg (fun e => some (X.2.2 i, e)) (gc_2 hk))) rfl 3 (by decide) (C.aw hL) (fun _ h9 => h9) rfl (tyX2_ok 3 (by decide)) rfl rfl (Nat.le_of_ble_eq_true rfl) d (fun H1 locs1 hP1 _ hS1 => ?_)
  rw [gw_set (D' := up2 D i 3 v) (P' := P) (kd_lv hk (by decide)) (by rw [gc_2 hk]; simp [gcK, up2_self, up2, va_up]) (fun j _ hj => gc_ne hj)] at hP1
  exact k _ rfl H1 locs1 ls hP1 hS1 hl
theorem pg_2_4 {i index : Nat} (C : CX K X cc own w0 nL ret) (hk : kd i = 2) (hL : Cond.fieldLink own index RX2 "number" "I" ∈ AW) (d : decode cc pc = .ok (.getfield index, 3)) (hq : pc + 3 = q) (k : PV K X Q ce sl q lv (.int (D i 4) :: st) D P) : PV K X Q ce sl pc lv (.ref (X.2.2 i) :: st) D P := by
  subst hq; intro H locs ls hP hS hl
  exact va_get (C := RX2) (T := TX2) (N := 7) (ci := 2) C.hx C.hb C.hts inX2c C.hown C.hK hP (pl i) ((gw_at (kd_lv hk (by decide))).trans (congrArg (fun e => some (X.2.2 i, e)) (gc_2 hk))) rfl 4 (by decide) (C.aw hL) (fun _ h9 => h9) rfl d (k H locs ls hP hS hl)
theorem pp_2_4 {i index : Nat} {v : Int32} (C : CX K X cc own w0 nL ret) (hk : kd i = 2) (hL : Cond.fieldLink own index RX2 "number" "I" ∈ AW) (d : decode cc pc = .ok (.putfield index, 3)) (hq : pc + 3 = q) (k : ∀ D' : DT, D' = up2 D i 4 v → PV K X Q ce sl q lv st D' P) : PV K X Q ce sl pc lv (.int v :: .ref (X.2.2 i) :: st) D P := by
  subst hq; intro H locs ls hP hS hl
  refine va_put (C := RX2) (T := TX2) (N := 7) (ci := 2) (ty := .int) C.hx C.hb C.hts inX2c tyX2 tyX2_ok nmX2 C.hown C.hK hP (gw_D C.hI D P _) hS (pl i) ((gw_at (kd_lv hk (by decide))).trans (congrArg (fun e => some (X.2.2 i, e)) (gc_2 hk))) rfl 4 (by decide) (C.aw hL) (fun _ h9 => h9) rfl (tyX2_ok 4 (by decide)) rfl rfl (Nat.le_of_ble_eq_true rfl) d (fun H1 locs1 hP1 _ hS1 => ?_)
  rw [gw_set (D' := up2 D i 4 v) (P' := P) (kd_lv hk (by decide)) (by rw [gc_2 hk]; simp [gcK, up2_self, up2, va_up]) (fun j _ hj => gc_ne hj)] at hP1
  exact k _ rfl H1 locs1 ls hP1 hS1 hl
theorem pg_2_5 {i index : Nat} (C : CX K X cc own w0 nL ret) (hk : kd i = 2) (hL : Cond.fieldLink own index RX2 "group" "I" ∈ AW) (d : decode cc pc = .ok (.getfield index, 3)) (hq : pc + 3 = q) (k : PV K X Q ce sl q lv (.int (D i 5) :: st) D P) : PV K X Q ce sl pc lv (.ref (X.2.2 i) :: st) D P := by
  subst hq; intro H locs ls hP hS hl
  exact va_get (C := RX2) (T := TX2) (N := 7) (ci := 2) C.hx C.hb C.hts inX2c C.hown C.hK hP (pl i) ((gw_at (kd_lv hk (by decide))).trans (congrArg (fun e => some (X.2.2 i, e)) (gc_2 hk))) rfl 5 (by decide) (C.aw hL) (fun _ h9 => h9) rfl d (k H locs ls hP hS hl)
theorem pp_2_5 {i index : Nat} {v : Int32} (C : CX K X cc own w0 nL ret) (hk : kd i = 2) (hL : Cond.fieldLink own index RX2 "group" "I" ∈ AW) (d : decode cc pc = .ok (.putfield index, 3)) (hq : pc + 3 = q) (k : ∀ D' : DT, D' = up2 D i 5 v → PV K X Q ce sl q lv st D' P) : PV K X Q ce sl pc lv (.int v :: .ref (X.2.2 i) :: st) D P := by
  subst hq; intro H locs ls hP hS hl
  refine va_put (C := RX2) (T := TX2) (N := 7) (ci := 2) (ty := .int) C.hx C.hb C.hts inX2c tyX2 tyX2_ok nmX2 C.hown C.hK hP (gw_D C.hI D P _) hS (pl i) ((gw_at (kd_lv hk (by decide))).trans (congrArg (fun e => some (X.2.2 i, e)) (gc_2 hk))) rfl 5 (by decide) (C.aw hL) (fun _ h9 => h9) rfl (tyX2_ok 5 (by decide)) rfl rfl (Nat.le_of_ble_eq_true rfl) d (fun H1 locs1 hP1 _ hS1 => ?_)
  rw [gw_set (D' := up2 D i 5 v) (P' := P) (kd_lv hk (by decide)) (by rw [gc_2 hk]; simp [gcK, up2_self, up2, va_up]) (fun j _ hj => gc_ne hj)] at hP1
  exact k _ rfl H1 locs1 ls hP1 hS1 hl
theorem pg_2_6 {i index : Nat} (C : CX K X cc own w0 nL ret) (hk : kd i = 2) (hL : Cond.fieldLink own index RX2 "amount" "I" ∈ AW) (d : decode cc pc = .ok (.getfield index, 3)) (hq : pc + 3 = q) (k : PV K X Q ce sl q lv (.int (D i 6) :: st) D P) : PV K X Q ce sl pc lv (.ref (X.2.2 i) :: st) D P := by
  subst hq; intro H locs ls hP hS hl
  exact va_get (C := RX2) (T := TX2) (N := 7) (ci := 2) C.hx C.hb C.hts inX2c C.hown C.hK hP (pl i) ((gw_at (kd_lv hk (by decide))).trans (congrArg (fun e => some (X.2.2 i, e)) (gc_2 hk))) rfl 6 (by decide) (C.aw hL) (fun _ h9 => h9) rfl d (k H locs ls hP hS hl)
theorem pp_2_6 {i index : Nat} {v : Int32} (C : CX K X cc own w0 nL ret) (hk : kd i = 2) (hL : Cond.fieldLink own index RX2 "amount" "I" ∈ AW) (d : decode cc pc = .ok (.putfield index, 3)) (hq : pc + 3 = q) (k : ∀ D' : DT, D' = up2 D i 6 v → PV K X Q ce sl q lv st D' P) : PV K X Q ce sl pc lv (.int v :: .ref (X.2.2 i) :: st) D P := by
  subst hq; intro H locs ls hP hS hl
  refine va_put (C := RX2) (T := TX2) (N := 7) (ci := 2) (ty := .int) C.hx C.hb C.hts inX2c tyX2 tyX2_ok nmX2 C.hown C.hK hP (gw_D C.hI D P _) hS (pl i) ((gw_at (kd_lv hk (by decide))).trans (congrArg (fun e => some (X.2.2 i, e)) (gc_2 hk))) rfl 6 (by decide) (C.aw hL) (fun _ h9 => h9) rfl (tyX2_ok 6 (by decide)) rfl rfl (Nat.le_of_ble_eq_true rfl) d (fun H1 locs1 hP1 _ hS1 => ?_)
  rw [gw_set (D' := up2 D i 6 v) (P' := P) (kd_lv hk (by decide)) (by rw [gc_2 hk]; simp [gcK, up2_self, up2, va_up]) (fun j _ hj => gc_ne hj)] at hP1
  exact k _ rfl H1 locs1 ls hP1 hS1 hl
theorem pg_3_0 {i index : Nat} (C : CX K X cc own w0 nL ret) (hk : kd i = 3) (hL : Cond.fieldLink own index RX3 "table" "LNappingViews$Table;" ∈ AW) (d : decode cc pc = .ok (.getfield index, 3)) (hq : pc + 3 = q) (k : kd (i + 1) = 4 → PV K X Q ce sl q lv (.ref (X.2.2 (i + 1)) :: st) D P) : PV K X Q ce sl pc lv (.ref (X.2.2 i) :: st) D P := by
  subst hq; intro H locs ls hP hS hl
  exact va_get (C := RX3) (T := TX3) (N := 8) (ci := 3) C.hx C.hb C.hts inX3c C.hown C.hK hP (pl i) ((gw_at (kd_lv hk (by decide))).trans (congrArg (fun e => some (X.2.2 i, e)) (gc_3 hk))) rfl 0 (by decide) (C.aw hL) (fun _ h9 => h9) rfl d (k (kd_3_0 hk) H locs ls hP hS hl)
theorem pg_3_1 {i index : Nat} (C : CX K X cc own w0 nL ret) (hk : kd i = 3) (hL : Cond.fieldLink own index RX3 "log" "LNappingViews$Log;" ∈ AW) (d : decode cc pc = .ok (.getfield index, 3)) (hq : pc + 3 = q) (k : kd (i + 4) = 1 → PV K X Q ce sl q lv (.ref (X.2.2 (i + 4)) :: st) D P) : PV K X Q ce sl pc lv (.ref (X.2.2 i) :: st) D P := by
  subst hq; intro H locs ls hP hS hl
  exact va_get (C := RX3) (T := TX3) (N := 8) (ci := 3) C.hx C.hb C.hts inX3c C.hown C.hK hP (pl i) ((gw_at (kd_lv hk (by decide))).trans (congrArg (fun e => some (X.2.2 i, e)) (gc_3 hk))) rfl 1 (by decide) (C.aw hL) (fun _ h9 => h9) rfl d (k (kd_3_1 hk) H locs ls hP hS hl)
theorem pg_3_2 {i index : Nat} (C : CX K X cc own w0 nL ret) (hk : kd i = 3) (hL : Cond.fieldLink own index RX3 "views" "[LNappingViews$View;" ∈ AW) (d : decode cc pc = .ok (.getfield index, 3)) (hq : pc + 3 = q) (k : kd (i + 8) = 12 → PV K X Q ce sl q lv (.ref (X.2.2 (i + 8)) :: st) D P) : PV K X Q ce sl pc lv (.ref (X.2.2 i) :: st) D P := by
  subst hq; intro H locs ls hP hS hl
  exact va_get (C := RX3) (T := TX3) (N := 8) (ci := 3) C.hx C.hb C.hts inX3c C.hown C.hK hP (pl i) ((gw_at (kd_lv hk (by decide))).trans (congrArg (fun e => some (X.2.2 i, e)) (gc_3 hk))) rfl 2 (by decide) (C.aw hL) (fun _ h9 => h9) rfl d (k (kd_3_2 hk) H locs ls hP hS hl)
theorem pg_3_3 {i index : Nat} (C : CX K X cc own w0 nL ret) (hk : kd i = 3) (hL : Cond.fieldLink own index RX3 "ticksPassed" "I" ∈ AW) (d : decode cc pc = .ok (.getfield index, 3)) (hq : pc + 3 = q) (k : PV K X Q ce sl q lv (.int (D i 3) :: st) D P) : PV K X Q ce sl pc lv (.ref (X.2.2 i) :: st) D P := by
  subst hq; intro H locs ls hP hS hl
  exact va_get (C := RX3) (T := TX3) (N := 8) (ci := 3) C.hx C.hb C.hts inX3c C.hown C.hK hP (pl i) ((gw_at (kd_lv hk (by decide))).trans (congrArg (fun e => some (X.2.2 i, e)) (gc_3 hk))) rfl 3 (by decide) (C.aw hL) (fun _ h9 => h9) rfl d (k H locs ls hP hS hl)
theorem pp_3_3 {i index : Nat} {v : Int32} (C : CX K X cc own w0 nL ret) (hk : kd i = 3) (hL : Cond.fieldLink own index RX3 "ticksPassed" "I" ∈ AW) (d : decode cc pc = .ok (.putfield index, 3)) (hq : pc + 3 = q) (k : ∀ D' : DT, D' = up2 D i 3 v → PV K X Q ce sl q lv st D' P) : PV K X Q ce sl pc lv (.int v :: .ref (X.2.2 i) :: st) D P := by
  subst hq; intro H locs ls hP hS hl
  refine va_put (C := RX3) (T := TX3) (N := 8) (ci := 3) (ty := .int) C.hx C.hb C.hts inX3c tyX3 tyX3_ok nmX3 C.hown C.hK hP (gw_D C.hI D P _) hS (pl i) ((gw_at (kd_lv hk (by decide))).trans (congrArg (fun e => some (X.2.2 i, e)) (gc_3 hk))) rfl 3 (by decide) (C.aw hL) (fun _ h9 => h9) rfl (tyX3_ok 3 (by decide)) rfl rfl (Nat.le_of_ble_eq_true rfl) d (fun H1 locs1 hP1 _ hS1 => ?_)
  rw [gw_set (D' := up2 D i 3 v) (P' := P) (kd_lv hk (by decide)) (by rw [gc_3 hk]; simp [gcK, up2_self, up2, va_up]) (fun j _ hj => gc_ne hj)] at hP1
  exact k _ rfl H1 locs1 ls hP1 hS1 hl
theorem pg_3_4 {i index : Nat} (C : CX K X cc own w0 nL ret) (hk : kd i = 3) (hL : Cond.fieldLink own index RX3 "wakingCount" "I" ∈ AW) (d : decode cc pc = .ok (.getfield index, 3)) (hq : pc + 3 = q) (k : PV K X Q ce sl q lv (.int (D i 4) :: st) D P) : PV K X Q ce sl pc lv (.ref (X.2.2 i) :: st) D P := by
  subst hq; intro H locs ls hP hS hl
  exact va_get (C := RX3) (T := TX3) (N := 8) (ci := 3) C.hx C.hb C.hts inX3c C.hown C.hK hP (pl i) ((gw_at (kd_lv hk (by decide))).trans (congrArg (fun e => some (X.2.2 i, e)) (gc_3 hk))) rfl 4 (by decide) (C.aw hL) (fun _ h9 => h9) rfl d (k H locs ls hP hS hl)
theorem pp_3_4 {i index : Nat} {v : Int32} (C : CX K X cc own w0 nL ret) (hk : kd i = 3) (hL : Cond.fieldLink own index RX3 "wakingCount" "I" ∈ AW) (d : decode cc pc = .ok (.putfield index, 3)) (hq : pc + 3 = q) (k : ∀ D' : DT, D' = up2 D i 4 v → PV K X Q ce sl q lv st D' P) : PV K X Q ce sl pc lv (.int v :: .ref (X.2.2 i) :: st) D P := by
  subst hq; intro H locs ls hP hS hl
  refine va_put (C := RX3) (T := TX3) (N := 8) (ci := 3) (ty := .int) C.hx C.hb C.hts inX3c tyX3 tyX3_ok nmX3 C.hown C.hK hP (gw_D C.hI D P _) hS (pl i) ((gw_at (kd_lv hk (by decide))).trans (congrArg (fun e => some (X.2.2 i, e)) (gc_3 hk))) rfl 4 (by decide) (C.aw hL) (fun _ h9 => h9) rfl (tyX3_ok 4 (by decide)) rfl rfl (Nat.le_of_ble_eq_true rfl) d (fun H1 locs1 hP1 _ hS1 => ?_)
  rw [gw_set (D' := up2 D i 4 v) (P' := P) (kd_lv hk (by decide)) (by rw [gc_3 hk]; simp [gcK, up2_self, up2, va_up]) (fun j _ hj => gc_ne hj)] at hP1
  exact k _ rfl H1 locs1 ls hP1 hS1 hl
theorem pg_3_5 {i index : Nat} (C : CX K X cc own w0 nL ret) (hk : kd i = 3) (hL : Cond.fieldLink own index RX3 "ownWakingCount" "I" ∈ AW) (d : decode cc pc = .ok (.getfield index, 3)) (hq : pc + 3 = q) (k : PV K X Q ce sl q lv (.int (D i 5) :: st) D P) : PV K X Q ce sl pc lv (.ref (X.2.2 i) :: st) D P := by
  subst hq; intro H locs ls hP hS hl
  exact va_get (C := RX3) (T := TX3) (N := 8) (ci := 3) C.hx C.hb C.hts inX3c C.hown C.hK hP (pl i) ((gw_at (kd_lv hk (by decide))).trans (congrArg (fun e => some (X.2.2 i, e)) (gc_3 hk))) rfl 5 (by decide) (C.aw hL) (fun _ h9 => h9) rfl d (k H locs ls hP hS hl)
theorem pp_3_5 {i index : Nat} {v : Int32} (C : CX K X cc own w0 nL ret) (hk : kd i = 3) (hL : Cond.fieldLink own index RX3 "ownWakingCount" "I" ∈ AW) (d : decode cc pc = .ok (.putfield index, 3)) (hq : pc + 3 = q) (k : ∀ D' : DT, D' = up2 D i 5 v → PV K X Q ce sl q lv st D' P) : PV K X Q ce sl pc lv (.int v :: .ref (X.2.2 i) :: st) D P := by
  subst hq; intro H locs ls hP hS hl
  refine va_put (C := RX3) (T := TX3) (N := 8) (ci := 3) (ty := .int) C.hx C.hb C.hts inX3c tyX3 tyX3_ok nmX3 C.hown C.hK hP (gw_D C.hI D P _) hS (pl i) ((gw_at (kd_lv hk (by decide))).trans (congrArg (fun e => some (X.2.2 i, e)) (gc_3 hk))) rfl 5 (by decide) (C.aw hL) (fun _ h9 => h9) rfl (tyX3_ok 5 (by decide)) rfl rfl (Nat.le_of_ble_eq_true rfl) d (fun H1 locs1 hP1 _ hS1 => ?_)
  rw [gw_set (D' := up2 D i 5 v) (P' := P) (kd_lv hk (by decide)) (by rw [gc_3 hk]; simp [gcK, up2_self, up2, va_up]) (fun j _ hj => gc_ne hj)] at hP1
  exact k _ rfl H1 locs1 ls hP1 hS1 hl
theorem pg_3_6 {i index : Nat} (C : CX K X cc own w0 nL ret) (hk : kd i = 3) (hL : Cond.fieldLink own index RX3 "refreshCount" "I" ∈ AW) (d : decode cc pc = .ok (.getfield index, 3)) (hq : pc + 3 = q) (k : PV K X Q ce sl q lv (.int (D i 6) :: st) D P) : PV K X Q ce sl pc lv (.ref (X.2.2 i) :: st) D P := by
  subst hq; intro H locs ls hP hS hl
  exact va_get (C := RX3) (T := TX3) (N := 8) (ci := 3) C.hx C.hb C.hts inX3c C.hown C.hK hP (pl i) ((gw_at (kd_lv hk (by decide))).trans (congrArg (fun e => some (X.2.2 i, e)) (gc_3 hk))) rfl 6 (by decide) (C.aw hL) (fun _ h9 => h9) rfl d (k H locs ls hP hS hl)
theorem pp_3_6 {i index : Nat} {v : Int32} (C : CX K X cc own w0 nL ret) (hk : kd i = 3) (hL : Cond.fieldLink own index RX3 "refreshCount" "I" ∈ AW) (d : decode cc pc = .ok (.putfield index, 3)) (hq : pc + 3 = q) (k : ∀ D' : DT, D' = up2 D i 6 v → PV K X Q ce sl q lv st D' P) : PV K X Q ce sl pc lv (.int v :: .ref (X.2.2 i) :: st) D P := by
  subst hq; intro H locs ls hP hS hl
  refine va_put (C := RX3) (T := TX3) (N := 8) (ci := 3) (ty := .int) C.hx C.hb C.hts inX3c tyX3 tyX3_ok nmX3 C.hown C.hK hP (gw_D C.hI D P _) hS (pl i) ((gw_at (kd_lv hk (by decide))).trans (congrArg (fun e => some (X.2.2 i, e)) (gc_3 hk))) rfl 6 (by decide) (C.aw hL) (fun _ h9 => h9) rfl (tyX3_ok 6 (by decide)) rfl rfl (Nat.le_of_ble_eq_true rfl) d (fun H1 locs1 hP1 _ hS1 => ?_)
  rw [gw_set (D' := up2 D i 6 v) (P' := P) (kd_lv hk (by decide)) (by rw [gc_3 hk]; simp [gcK, up2_self, up2, va_up]) (fun j _ hj => gc_ne hj)] at hP1
  exact k _ rfl H1 locs1 ls hP1 hS1 hl
theorem pg_3_7 {i index : Nat} (C : CX K X cc own w0 nL ret) (hk : kd i = 3) (hL : Cond.fieldLink own index RX3 "stoppedAt" "I" ∈ AW) (d : decode cc pc = .ok (.getfield index, 3)) (hq : pc + 3 = q) (k : PV K X Q ce sl q lv (.int (D i 7) :: st) D P) : PV K X Q ce sl pc lv (.ref (X.2.2 i) :: st) D P := by
  subst hq; intro H locs ls hP hS hl
  exact va_get (C := RX3) (T := TX3) (N := 8) (ci := 3) C.hx C.hb C.hts inX3c C.hown C.hK hP (pl i) ((gw_at (kd_lv hk (by decide))).trans (congrArg (fun e => some (X.2.2 i, e)) (gc_3 hk))) rfl 7 (by decide) (C.aw hL) (fun _ h9 => h9) rfl d (k H locs ls hP hS hl)
theorem pp_3_7 {i index : Nat} {v : Int32} (C : CX K X cc own w0 nL ret) (hk : kd i = 3) (hL : Cond.fieldLink own index RX3 "stoppedAt" "I" ∈ AW) (d : decode cc pc = .ok (.putfield index, 3)) (hq : pc + 3 = q) (k : ∀ D' : DT, D' = up2 D i 7 v → PV K X Q ce sl q lv st D' P) : PV K X Q ce sl pc lv (.int v :: .ref (X.2.2 i) :: st) D P := by
  subst hq; intro H locs ls hP hS hl
  refine va_put (C := RX3) (T := TX3) (N := 8) (ci := 3) (ty := .int) C.hx C.hb C.hts inX3c tyX3 tyX3_ok nmX3 C.hown C.hK hP (gw_D C.hI D P _) hS (pl i) ((gw_at (kd_lv hk (by decide))).trans (congrArg (fun e => some (X.2.2 i, e)) (gc_3 hk))) rfl 7 (by decide) (C.aw hL) (fun _ h9 => h9) rfl (tyX3_ok 7 (by decide)) rfl rfl (Nat.le_of_ble_eq_true rfl) d (fun H1 locs1 hP1 _ hS1 => ?_)
  rw [gw_set (D' := up2 D i 7 v) (P' := P) (kd_lv hk (by decide)) (by rw [gc_3 hk]; simp [gcK, up2_self, up2, va_up]) (fun j _ hj => gc_ne hj)] at hP1
  exact k _ rfl H1 locs1 ls hP1 hS1 hl
theorem pg_4_0 {i index : Nat} (C : CX K X cc own w0 nL ret) (hk : kd i = 4) (hL : Cond.fieldLink own index RX4 "groups" "[I" ∈ AW) (d : decode cc pc = .ok (.getfield index, 3)) (hq : pc + 3 = q) (k : kd (i + 1) = 9 → PV K X Q ce sl q lv (.ref (X.2.2 (i + 1)) :: st) D P) : PV K X Q ce sl pc lv (.ref (X.2.2 i) :: st) D P := by
  subst hq; intro H locs ls hP hS hl
  exact va_get (C := RX4) (T := TX4) (N := 2) (ci := 4) C.hx C.hb C.hts inX4c C.hown C.hK hP (pl i) ((gw_at (kd_lv hk (by decide))).trans (congrArg (fun e => some (X.2.2 i, e)) (gc_4 hk))) rfl 0 (by decide) (C.aw hL) (fun _ h9 => h9) rfl d (k (kd_4_0 hk) H locs ls hP hS hl)
theorem pg_4_1 {i index : Nat} (C : CX K X cc own w0 nL ret) (hk : kd i = 4) (hL : Cond.fieldLink own index RX4 "amounts" "[I" ∈ AW) (d : decode cc pc = .ok (.getfield index, 3)) (hq : pc + 3 = q) (k : kd (i + 2) = 9 → PV K X Q ce sl q lv (.ref (X.2.2 (i + 2)) :: st) D P) : PV K X Q ce sl pc lv (.ref (X.2.2 i) :: st) D P := by
  subst hq; intro H locs ls hP hS hl
  exact va_get (C := RX4) (T := TX4) (N := 2) (ci := 4) C.hx C.hb C.hts inX4c C.hown C.hK hP (pl i) ((gw_at (kd_lv hk (by decide))).trans (congrArg (fun e => some (X.2.2 i, e)) (gc_4 hk))) rfl 1 (by decide) (C.aw hL) (fun _ h9 => h9) rfl d (k (kd_4_1 hk) H locs ls hP hS hl)
theorem pg_5_0 {i index : Nat} (C : CX K X cc own w0 nL ret) (hk : kd i = 5) (hL : Cond.fieldLink own index RX5 "held" "[LNappingViews$Amounts;" ∈ AW) (d : decode cc pc = .ok (.getfield index, 3)) (hq : pc + 3 = q) (k : kd (i + 1) = 10 → PV K X Q ce sl q lv (.ref (X.2.2 (i + 1)) :: st) D P) : PV K X Q ce sl pc lv (.ref (X.2.2 i) :: st) D P := by
  subst hq; intro H locs ls hP hS hl
  exact va_get (C := RX5) (T := TX5) (N := 7) (ci := 5) C.hx C.hb C.hts inX5c C.hown C.hK hP (pl i) ((gw_at (kd_lv hk (by decide))).trans (congrArg (fun e => some (X.2.2 i, e)) (gc_5 hk))) rfl 0 (by decide) (C.aw hL) (fun _ h9 => h9) rfl d (k (kd_5_0 hk) H locs ls hP hS hl)
theorem pg_5_1 {i index : Nat} (C : CX K X cc own w0 nL ret) (hk : kd i = 5) (hL : Cond.fieldLink own index RX5 "filter" "I" ∈ AW) (d : decode cc pc = .ok (.getfield index, 3)) (hq : pc + 3 = q) (k : PV K X Q ce sl q lv (.int (D i 1) :: st) D P) : PV K X Q ce sl pc lv (.ref (X.2.2 i) :: st) D P := by
  subst hq; intro H locs ls hP hS hl
  exact va_get (C := RX5) (T := TX5) (N := 7) (ci := 5) C.hx C.hb C.hts inX5c C.hown C.hK hP (pl i) ((gw_at (kd_lv hk (by decide))).trans (congrArg (fun e => some (X.2.2 i, e)) (gc_5 hk))) rfl 1 (by decide) (C.aw hL) (fun _ h9 => h9) rfl d (k H locs ls hP hS hl)
theorem pp_5_1 {i index : Nat} {v : Int32} (C : CX K X cc own w0 nL ret) (hk : kd i = 5) (hL : Cond.fieldLink own index RX5 "filter" "I" ∈ AW) (d : decode cc pc = .ok (.putfield index, 3)) (hq : pc + 3 = q) (k : ∀ D' : DT, D' = up2 D i 1 v → PV K X Q ce sl q lv st D' P) : PV K X Q ce sl pc lv (.int v :: .ref (X.2.2 i) :: st) D P := by
  subst hq; intro H locs ls hP hS hl
  refine va_put (C := RX5) (T := TX5) (N := 7) (ci := 5) (ty := .int) C.hx C.hb C.hts inX5c tyX5 tyX5_ok nmX5 C.hown C.hK hP (gw_D C.hI D P _) hS (pl i) ((gw_at (kd_lv hk (by decide))).trans (congrArg (fun e => some (X.2.2 i, e)) (gc_5 hk))) rfl 1 (by decide) (C.aw hL) (fun _ h9 => h9) rfl (tyX5_ok 1 (by decide)) rfl rfl (Nat.le_of_ble_eq_true rfl) d (fun H1 locs1 hP1 _ hS1 => ?_)
  rw [gw_set (D' := up2 D i 1 v) (P' := P) (kd_lv hk (by decide)) (by rw [gc_5 hk]; simp [gcK, up2_self, up2, va_up]) (fun j _ hj => gc_ne hj)] at hP1
  exact k _ rfl H1 locs1 ls hP1 hS1 hl
theorem pg_5_2 {i index : Nat} (C : CX K X cc own w0 nL ret) (hk : kd i = 5) (hL : Cond.fieldLink own index RX5 "mostBehind" "I" ∈ AW) (d : decode cc pc = .ok (.getfield index, 3)) (hq : pc + 3 = q) (k : PV K X Q ce sl q lv (.int (D i 2) :: st) D P) : PV K X Q ce sl pc lv (.ref (X.2.2 i) :: st) D P := by
  subst hq; intro H locs ls hP hS hl
  exact va_get (C := RX5) (T := TX5) (N := 7) (ci := 5) C.hx C.hb C.hts inX5c C.hown C.hK hP (pl i) ((gw_at (kd_lv hk (by decide))).trans (congrArg (fun e => some (X.2.2 i, e)) (gc_5 hk))) rfl 2 (by decide) (C.aw hL) (fun _ h9 => h9) rfl d (k H locs ls hP hS hl)
theorem pp_5_2 {i index : Nat} {v : Int32} (C : CX K X cc own w0 nL ret) (hk : kd i = 5) (hL : Cond.fieldLink own index RX5 "mostBehind" "I" ∈ AW) (d : decode cc pc = .ok (.putfield index, 3)) (hq : pc + 3 = q) (k : ∀ D' : DT, D' = up2 D i 2 v → PV K X Q ce sl q lv st D' P) : PV K X Q ce sl pc lv (.int v :: .ref (X.2.2 i) :: st) D P := by
  subst hq; intro H locs ls hP hS hl
  refine va_put (C := RX5) (T := TX5) (N := 7) (ci := 5) (ty := .int) C.hx C.hb C.hts inX5c tyX5 tyX5_ok nmX5 C.hown C.hK hP (gw_D C.hI D P _) hS (pl i) ((gw_at (kd_lv hk (by decide))).trans (congrArg (fun e => some (X.2.2 i, e)) (gc_5 hk))) rfl 2 (by decide) (C.aw hL) (fun _ h9 => h9) rfl (tyX5_ok 2 (by decide)) rfl rfl (Nat.le_of_ble_eq_true rfl) d (fun H1 locs1 hP1 _ hS1 => ?_)
  rw [gw_set (D' := up2 D i 2 v) (P' := P) (kd_lv hk (by decide)) (by rw [gc_5 hk]; simp [gcK, up2_self, up2, va_up]) (fun j _ hj => gc_ne hj)] at hP1
  exact k _ rfl H1 locs1 ls hP1 hS1 hl
theorem pg_5_3 {i index : Nat} (C : CX K X cc own w0 nL ret) (hk : kd i = 5) (hL : Cond.fieldLink own index RX5 "longestNap" "I" ∈ AW) (d : decode cc pc = .ok (.getfield index, 3)) (hq : pc + 3 = q) (k : PV K X Q ce sl q lv (.int (D i 3) :: st) D P) : PV K X Q ce sl pc lv (.ref (X.2.2 i) :: st) D P := by
  subst hq; intro H locs ls hP hS hl
  exact va_get (C := RX5) (T := TX5) (N := 7) (ci := 5) C.hx C.hb C.hts inX5c C.hown C.hK hP (pl i) ((gw_at (kd_lv hk (by decide))).trans (congrArg (fun e => some (X.2.2 i, e)) (gc_5 hk))) rfl 3 (by decide) (C.aw hL) (fun _ h9 => h9) rfl d (k H locs ls hP hS hl)
theorem pp_5_3 {i index : Nat} {v : Int32} (C : CX K X cc own w0 nL ret) (hk : kd i = 5) (hL : Cond.fieldLink own index RX5 "longestNap" "I" ∈ AW) (d : decode cc pc = .ok (.putfield index, 3)) (hq : pc + 3 = q) (k : ∀ D' : DT, D' = up2 D i 3 v → PV K X Q ce sl q lv st D' P) : PV K X Q ce sl pc lv (.int v :: .ref (X.2.2 i) :: st) D P := by
  subst hq; intro H locs ls hP hS hl
  refine va_put (C := RX5) (T := TX5) (N := 7) (ci := 5) (ty := .int) C.hx C.hb C.hts inX5c tyX5 tyX5_ok nmX5 C.hown C.hK hP (gw_D C.hI D P _) hS (pl i) ((gw_at (kd_lv hk (by decide))).trans (congrArg (fun e => some (X.2.2 i, e)) (gc_5 hk))) rfl 3 (by decide) (C.aw hL) (fun _ h9 => h9) rfl (tyX5_ok 3 (by decide)) rfl rfl (Nat.le_of_ble_eq_true rfl) d (fun H1 locs1 hP1 _ hS1 => ?_)
  rw [gw_set (D' := up2 D i 3 v) (P' := P) (kd_lv hk (by decide)) (by rw [gc_5 hk]; simp [gcK, up2_self, up2, va_up]) (fun j _ hj => gc_ne hj)] at hP1
  exact k _ rfl H1 locs1 ls hP1 hS1 hl
theorem pg_5_4 {i index : Nat} (C : CX K X cc own w0 nL ret) (hk : kd i = 5) (hL : Cond.fieldLink own index RX5 "napping" "Z" ∈ AW) (d : decode cc pc = .ok (.getfield index, 3)) (hq : pc + 3 = q) (k : PV K X Q ce sl q lv (.int (D i 4) :: st) D P) : PV K X Q ce sl pc lv (.ref (X.2.2 i) :: st) D P := by
  subst hq; intro H locs ls hP hS hl
  exact va_get (C := RX5) (T := TX5) (N := 7) (ci := 5) C.hx C.hb C.hts inX5c C.hown C.hK hP (pl i) ((gw_at (kd_lv hk (by decide))).trans (congrArg (fun e => some (X.2.2 i, e)) (gc_5 hk))) rfl 4 (by decide) (C.aw hL) (fun _ h9 => h9) rfl d (k H locs ls hP hS hl)
theorem pp_5_4 {i index : Nat} {v : Int32} (C : CX K X cc own w0 nL ret) (hk : kd i = 5) (hL : Cond.fieldLink own index RX5 "napping" "Z" ∈ AW) (hb : v = 0 ∨ v = 1) (d : decode cc pc = .ok (.putfield index, 3)) (hq : pc + 3 = q) (k : ∀ D' : DT, D' = up2 D i 4 v → PV K X Q ce sl q lv st D' P) : PV K X Q ce sl pc lv (.int v :: .ref (X.2.2 i) :: st) D P := by
  subst hq; intro H locs ls hP hS hl
  refine va_put (C := RX5) (T := TX5) (N := 7) (ci := 5) (ty := .boolean) C.hx C.hb C.hts inX5c tyX5 tyX5_ok nmX5 C.hown C.hK hP (gw_D C.hI D P _) hS (pl i) ((gw_at (kd_lv hk (by decide))).trans (congrArg (fun e => some (X.2.2 i, e)) (gc_5 hk))) rfl 4 (by decide) (C.aw hL) (fun _ h9 => h9) rfl (tyX5_ok 4 (by decide)) (by rcases hb with rfl | rfl <;> rfl) (by rcases hb with rfl | rfl <;> rfl) (Nat.le_of_ble_eq_true rfl) d (fun H1 locs1 hP1 _ hS1 => ?_)
  rw [gw_set (D' := up2 D i 4 v) (P' := P) (kd_lv hk (by decide)) (by rw [gc_5 hk]; simp [gcK, up2_self, up2, va_up]) (fun j _ hj => gc_ne hj)] at hP1
  exact k _ rfl H1 locs1 ls hP1 hS1 hl
theorem pg_5_5 {i index : Nat} (C : CX K X cc own w0 nL ret) (hk : kd i = 5) (hL : Cond.fieldLink own index RX5 "napTicks" "I" ∈ AW) (d : decode cc pc = .ok (.getfield index, 3)) (hq : pc + 3 = q) (k : PV K X Q ce sl q lv (.int (D i 5) :: st) D P) : PV K X Q ce sl pc lv (.ref (X.2.2 i) :: st) D P := by
  subst hq; intro H locs ls hP hS hl
  exact va_get (C := RX5) (T := TX5) (N := 7) (ci := 5) C.hx C.hb C.hts inX5c C.hown C.hK hP (pl i) ((gw_at (kd_lv hk (by decide))).trans (congrArg (fun e => some (X.2.2 i, e)) (gc_5 hk))) rfl 5 (by decide) (C.aw hL) (fun _ h9 => h9) rfl d (k H locs ls hP hS hl)
theorem pp_5_5 {i index : Nat} {v : Int32} (C : CX K X cc own w0 nL ret) (hk : kd i = 5) (hL : Cond.fieldLink own index RX5 "napTicks" "I" ∈ AW) (d : decode cc pc = .ok (.putfield index, 3)) (hq : pc + 3 = q) (k : ∀ D' : DT, D' = up2 D i 5 v → PV K X Q ce sl q lv st D' P) : PV K X Q ce sl pc lv (.int v :: .ref (X.2.2 i) :: st) D P := by
  subst hq; intro H locs ls hP hS hl
  refine va_put (C := RX5) (T := TX5) (N := 7) (ci := 5) (ty := .int) C.hx C.hb C.hts inX5c tyX5 tyX5_ok nmX5 C.hown C.hK hP (gw_D C.hI D P _) hS (pl i) ((gw_at (kd_lv hk (by decide))).trans (congrArg (fun e => some (X.2.2 i, e)) (gc_5 hk))) rfl 5 (by decide) (C.aw hL) (fun _ h9 => h9) rfl (tyX5_ok 5 (by decide)) rfl rfl (Nat.le_of_ble_eq_true rfl) d (fun H1 locs1 hP1 _ hS1 => ?_)
  rw [gw_set (D' := up2 D i 5 v) (P' := P) (kd_lv hk (by decide)) (by rw [gc_5 hk]; simp [gcK, up2_self, up2, va_up]) (fun j _ hj => gc_ne hj)] at hP1
  exact k _ rfl H1 locs1 ls hP1 hS1 hl
theorem pg_5_6 {i index : Nat} (C : CX K X cc own w0 nL ret) (hk : kd i = 5) (hL : Cond.fieldLink own index RX5 "nextDelta" "I" ∈ AW) (d : decode cc pc = .ok (.getfield index, 3)) (hq : pc + 3 = q) (k : PV K X Q ce sl q lv (.int (D i 6) :: st) D P) : PV K X Q ce sl pc lv (.ref (X.2.2 i) :: st) D P := by
  subst hq; intro H locs ls hP hS hl
  exact va_get (C := RX5) (T := TX5) (N := 7) (ci := 5) C.hx C.hb C.hts inX5c C.hown C.hK hP (pl i) ((gw_at (kd_lv hk (by decide))).trans (congrArg (fun e => some (X.2.2 i, e)) (gc_5 hk))) rfl 6 (by decide) (C.aw hL) (fun _ h9 => h9) rfl d (k H locs ls hP hS hl)
theorem pp_5_6 {i index : Nat} {v : Int32} (C : CX K X cc own w0 nL ret) (hk : kd i = 5) (hL : Cond.fieldLink own index RX5 "nextDelta" "I" ∈ AW) (d : decode cc pc = .ok (.putfield index, 3)) (hq : pc + 3 = q) (k : ∀ D' : DT, D' = up2 D i 6 v → PV K X Q ce sl q lv st D' P) : PV K X Q ce sl pc lv (.int v :: .ref (X.2.2 i) :: st) D P := by
  subst hq; intro H locs ls hP hS hl
  refine va_put (C := RX5) (T := TX5) (N := 7) (ci := 5) (ty := .int) C.hx C.hb C.hts inX5c tyX5 tyX5_ok nmX5 C.hown C.hK hP (gw_D C.hI D P _) hS (pl i) ((gw_at (kd_lv hk (by decide))).trans (congrArg (fun e => some (X.2.2 i, e)) (gc_5 hk))) rfl 6 (by decide) (C.aw hL) (fun _ h9 => h9) rfl (tyX5_ok 6 (by decide)) rfl rfl (Nat.le_of_ble_eq_true rfl) d (fun H1 locs1 hP1 _ hS1 => ?_)
  rw [gw_set (D' := up2 D i 6 v) (P' := P) (kd_lv hk (by decide)) (by rw [gc_5 hk]; simp [gcK, up2_self, up2, va_up]) (fun j _ hj => gc_ne hj)] at hP1
  exact k _ rfl H1 locs1 ls hP1 hS1 hl
theorem pg_6_0 {i index : Nat} (C : CX K X cc own w0 nL ret) (hk : kd i = 6) (hL : Cond.fieldLink own index RX6 "now" "LNappingViews$State;" ∈ AW) (d : decode cc pc = .ok (.getfield index, 3)) (hq : pc + 3 = q) (k : kd (24) = 3 → PV K X Q ce sl q lv (.ref (X.2.2 (24)) :: st) D P) : PV K X Q ce sl pc lv (.ref (X.2.2 i) :: st) D P := by
  subst hq; intro H locs ls hP hS hl
  exact va_get (C := RX6) (T := TX6) (N := 8) (ci := 6) C.hx C.hb C.hts inX6c C.hown C.hK hP (pl i) ((gw_at (kd_lv hk (by decide))).trans (congrArg (fun e => some (X.2.2 i, e)) (gc_6 hk))) rfl 0 (by decide) (C.aw hL) (fun _ h9 => h9) rfl d (k (kd_6_0 hk) H locs ls hP hS hl)
theorem pg_6_1 {i index : Nat} (C : CX K X cc own w0 nL ret) (hk : kd i = 6) (hL : Cond.fieldLink own index RX6 "saved" "[LNappingViews$State;" ∈ AW) (d : decode cc pc = .ok (.getfield index, 3)) (hq : pc + 3 = q) (k : kd (1) = 11 → PV K X Q ce sl q lv (.ref (X.2.2 (1)) :: st) D P) : PV K X Q ce sl pc lv (.ref (X.2.2 i) :: st) D P := by
  subst hq; intro H locs ls hP hS hl
  exact va_get (C := RX6) (T := TX6) (N := 8) (ci := 6) C.hx C.hb C.hts inX6c C.hown C.hK hP (pl i) ((gw_at (kd_lv hk (by decide))).trans (congrArg (fun e => some (X.2.2 i, e)) (gc_6 hk))) rfl 1 (by decide) (C.aw hL) (fun _ h9 => h9) rfl d (k (kd_6_1 hk) H locs ls hP hS hl)
theorem pg_6_2 {i index : Nat} (C : CX K X cc own w0 nL ret) (hk : kd i = 6) (hL : Cond.fieldLink own index RX6 "savedCount" "I" ∈ AW) (d : decode cc pc = .ok (.getfield index, 3)) (hq : pc + 3 = q) (k : PV K X Q ce sl q lv (.int (D i 2) :: st) D P) : PV K X Q ce sl pc lv (.ref (X.2.2 i) :: st) D P := by
  subst hq; intro H locs ls hP hS hl
  exact va_get (C := RX6) (T := TX6) (N := 8) (ci := 6) C.hx C.hb C.hts inX6c C.hown C.hK hP (pl i) ((gw_at (kd_lv hk (by decide))).trans (congrArg (fun e => some (X.2.2 i, e)) (gc_6 hk))) rfl 2 (by decide) (C.aw hL) (fun _ h9 => h9) rfl d (k H locs ls hP hS hl)
theorem pp_6_2 {i index : Nat} {v : Int32} (C : CX K X cc own w0 nL ret) (hk : kd i = 6) (hL : Cond.fieldLink own index RX6 "savedCount" "I" ∈ AW) (d : decode cc pc = .ok (.putfield index, 3)) (hq : pc + 3 = q) (k : ∀ D' : DT, D' = up2 D i 2 v → PV K X Q ce sl q lv st D' P) : PV K X Q ce sl pc lv (.int v :: .ref (X.2.2 i) :: st) D P := by
  subst hq; intro H locs ls hP hS hl
  refine va_put (C := RX6) (T := TX6) (N := 8) (ci := 6) (ty := .int) C.hx C.hb C.hts inX6c tyX6 tyX6_ok nmX6 C.hown C.hK hP (gw_D C.hI D P _) hS (pl i) ((gw_at (kd_lv hk (by decide))).trans (congrArg (fun e => some (X.2.2 i, e)) (gc_6 hk))) rfl 2 (by decide) (C.aw hL) (fun _ h9 => h9) rfl (tyX6_ok 2 (by decide)) rfl rfl (Nat.le_of_ble_eq_true rfl) d (fun H1 locs1 hP1 _ hS1 => ?_)
  rw [gw_set (D' := up2 D i 2 v) (P' := P) (kd_lv hk (by decide)) (by rw [gc_6 hk]; simp [gcK, up2_self, up2, va_up]) (fun j _ hj => gc_ne hj)] at hP1
  exact k _ rfl H1 locs1 ls hP1 hS1 hl
theorem pg_6_3 {i index : Nat} (C : CX K X cc own w0 nL ret) (hk : kd i = 6) (hL : Cond.fieldLink own index RX6 "snapshot" "LNappingViews$State;" ∈ AW) (d : decode cc pc = .ok (.getfield index, 3)) (hq : pc + 3 = q) (k : kd (258) = 3 → PV K X Q ce sl q lv (.ref (X.2.2 (258)) :: st) D P) : PV K X Q ce sl pc lv (.ref (X.2.2 i) :: st) D P := by
  subst hq; intro H locs ls hP hS hl
  exact va_get (C := RX6) (T := TX6) (N := 8) (ci := 6) C.hx C.hb C.hts inX6c C.hown C.hK hP (pl i) ((gw_at (kd_lv hk (by decide))).trans (congrArg (fun e => some (X.2.2 i, e)) (gc_6 hk))) rfl 3 (by decide) (C.aw hL) (fun _ h9 => h9) rfl d (k (kd_6_3 hk) H locs ls hP hS hl)
theorem pg_6_4 {i index : Nat} (C : CX K X cc own w0 nL ret) (hk : kd i = 6) (hL : Cond.fieldLink own index RX6 "hasSnapshot" "Z" ∈ AW) (d : decode cc pc = .ok (.getfield index, 3)) (hq : pc + 3 = q) (k : PV K X Q ce sl q lv (.int (D i 4) :: st) D P) : PV K X Q ce sl pc lv (.ref (X.2.2 i) :: st) D P := by
  subst hq; intro H locs ls hP hS hl
  exact va_get (C := RX6) (T := TX6) (N := 8) (ci := 6) C.hx C.hb C.hts inX6c C.hown C.hK hP (pl i) ((gw_at (kd_lv hk (by decide))).trans (congrArg (fun e => some (X.2.2 i, e)) (gc_6 hk))) rfl 4 (by decide) (C.aw hL) (fun _ h9 => h9) rfl d (k H locs ls hP hS hl)
theorem pp_6_4 {i index : Nat} {v : Int32} (C : CX K X cc own w0 nL ret) (hk : kd i = 6) (hL : Cond.fieldLink own index RX6 "hasSnapshot" "Z" ∈ AW) (hb : v = 0 ∨ v = 1) (d : decode cc pc = .ok (.putfield index, 3)) (hq : pc + 3 = q) (k : ∀ D' : DT, D' = up2 D i 4 v → PV K X Q ce sl q lv st D' P) : PV K X Q ce sl pc lv (.int v :: .ref (X.2.2 i) :: st) D P := by
  subst hq; intro H locs ls hP hS hl
  refine va_put (C := RX6) (T := TX6) (N := 8) (ci := 6) (ty := .boolean) C.hx C.hb C.hts inX6c tyX6 tyX6_ok nmX6 C.hown C.hK hP (gw_D C.hI D P _) hS (pl i) ((gw_at (kd_lv hk (by decide))).trans (congrArg (fun e => some (X.2.2 i, e)) (gc_6 hk))) rfl 4 (by decide) (C.aw hL) (fun _ h9 => h9) rfl (tyX6_ok 4 (by decide)) (by rcases hb with rfl | rfl <;> rfl) (by rcases hb with rfl | rfl <;> rfl) (Nat.le_of_ble_eq_true rfl) d (fun H1 locs1 hP1 _ hS1 => ?_)
  rw [gw_set (D' := up2 D i 4 v) (P' := P) (kd_lv hk (by decide)) (by rw [gc_6 hk]; simp [gcK, up2_self, up2, va_up]) (fun j _ hj => gc_ne hj)] at hP1
  exact k _ rfl H1 locs1 ls hP1 hS1 hl
theorem pg_6_5 {i index : Nat} (C : CX K X cc own w0 nL ret) (hk : kd i = 6) (hL : Cond.fieldLink own index RX6 "text" "LNappingViews$LogText;" ∈ AW) (d : decode cc pc = .ok (.getfield index, 3)) (hq : pc + 3 = q) (k : kd (2) = 2 → PV K X Q ce sl q lv (.ref (X.2.2 (2)) :: st) D P) : PV K X Q ce sl pc lv (.ref (X.2.2 i) :: st) D P := by
  subst hq; intro H locs ls hP hS hl
  exact va_get (C := RX6) (T := TX6) (N := 8) (ci := 6) C.hx C.hb C.hts inX6c C.hown C.hK hP (pl i) ((gw_at (kd_lv hk (by decide))).trans (congrArg (fun e => some (X.2.2 i, e)) (gc_6 hk))) rfl 5 (by decide) (C.aw hL) (fun _ h9 => h9) rfl d (k (kd_6_5 hk) H locs ls hP hS hl)
theorem pg_6_6 {i index : Nat} (C : CX K X cc own w0 nL ret) (hk : kd i = 6) (hL : Cond.fieldLink own index RX6 "tableAmounts" "LNappingViews$Amounts;" ∈ AW) (d : decode cc pc = .ok (.getfield index, 3)) (hq : pc + 3 = q) (k : kd (4) = 0 → PV K X Q ce sl q lv (.ref (X.2.2 (4)) :: st) D P) : PV K X Q ce sl pc lv (.ref (X.2.2 i) :: st) D P := by
  subst hq; intro H locs ls hP hS hl
  exact va_get (C := RX6) (T := TX6) (N := 8) (ci := 6) C.hx C.hb C.hts inX6c C.hown C.hK hP (pl i) ((gw_at (kd_lv hk (by decide))).trans (congrArg (fun e => some (X.2.2 i, e)) (gc_6 hk))) rfl 6 (by decide) (C.aw hL) (fun _ h9 => h9) rfl d (k (kd_6_6 hk) H locs ls hP hS hl)
theorem pg_6_7 {i index : Nat} (C : CX K X cc own w0 nL ret) (hk : kd i = 6) (hL : Cond.fieldLink own index RX6 "wokenView" "LNappingViews$View;" ∈ AW) (d : decode cc pc = .ok (.getfield index, 3)) (hq : pc + 3 = q) (k : kd (14) = 5 → PV K X Q ce sl q lv (.ref (X.2.2 (14)) :: st) D P) : PV K X Q ce sl pc lv (.ref (X.2.2 i) :: st) D P := by
  subst hq; intro H locs ls hP hS hl
  exact va_get (C := RX6) (T := TX6) (N := 8) (ci := 6) C.hx C.hb C.hts inX6c C.hown C.hK hP (pl i) ((gw_at (kd_lv hk (by decide))).trans (congrArg (fun e => some (X.2.2 i, e)) (gc_6 hk))) rfl 7 (by decide) (C.aw hL) (fun _ h9 => h9) rfl d (k (kd_6_7 hk) H locs ls hP hS hl)
theorem pv_iald {i n j : Nat} {x : Int32} (C : CX K X cc own w0 nL ret) (hn : iln (kd i) = some n) (hx : x = nI j) (hj : j < n) (d : decode cc pc = .ok (.iaload, 1)) (hq : pc + 1 = q) (k : PV K X Q ce sl q lv (.int (D i j) :: st) D P) : PV K X Q ce sl pc lv (.int x :: .ref (X.2.2 i) :: st) D P := by
  subst hq; subst hx; intro H locs ls hP hS hl
  obtain ⟨h1, h2⟩ := iln_lt hn
  have hc : (nI j).toNatClampNeg = j := nI_clamp (by omega)
  refine va_iald C.hx C.hb C.hK hP (pl i) 1 ((gw_at h1).trans (congrArg (fun e => some (X.2.2 i, e)) (gc_I hn))) rfl (vp_in_nI hj (by omega)) d ?_
  rw [hc]
  exact k H locs ls hP hS hl
theorem pv_iast {i n j : Nat} {x v : Int32} (C : CX K X cc own w0 nL ret) (hn : iln (kd i) = some n) (hx : x = nI j) (hj : j < n) (d : decode cc pc = .ok (.iastore, 1)) (hq : pc + 1 = q) (k : ∀ D' : DT, D' = up2 D i j v → PV K X Q ce sl q lv st D' P) : PV K X Q ce sl pc lv (.int v :: .int x :: .ref (X.2.2 i) :: st) D P := by
  subst hq; subst hx; intro H locs ls hP hS hl
  obtain ⟨h1, h2⟩ := iln_lt hn
  have hc : (nI j).toNatClampNeg = j := nI_clamp (by omega)
  refine va_iast C.hx C.hb C.hK hP (gw_D C.hI D P _) hS (pl i) 1 ((gw_at h1).trans (congrArg (fun e => some (X.2.2 i, e)) (gc_I hn))) rfl (vp_in_nI hj (by omega)) d (fun H1 locs1 hP1 _ hS1 => ?_)
  rw [hc, gw_set (D' := up2 D i j v) (P' := P) h1 (by rw [gc_I hn, up2_row]; rfl) (fun j _ hj => gc_ne hj)] at hP1
  exact k _ rfl H1 locs1 ls hP1 hS1 hl
theorem pv_cald {i j : Nat} {x : Int32} (C : CX K X cc own w0 nL ret) (hk : kd i = 8) (hx : x = nI j) (hj : j < 60) (d : decode cc pc = .ok (.caload, 1)) (hq : pc + 1 = q) (k : PV K X Q ce sl q lv (.int (D i j) :: st) D P) : PV K X Q ce sl pc lv (.int x :: .ref (X.2.2 i) :: st) D P := by
  subst hq; subst hx; intro H locs ls hP hS hl
  have hc : (nI j).toNatClampNeg = j := nI_clamp (by omega)
  refine va_cald C.hx C.hb C.hK hP (pl i) 0 ((gw_at (kd_lv hk (by decide))).trans (congrArg (fun e => some (X.2.2 i, e)) (gc_8 hk))) rfl (vp_in_nI hj (by omega)) d ?_
  rw [hc]
  exact k H locs ls hP hS hl
theorem pv_cast {i j : Nat} {x v : Int32} (C : CX K X cc own w0 nL ret) (hk : kd i = 8) (hx : x = nI j) (hj : j < 60) (hv : vp_nar .char v = v) (d : decode cc pc = .ok (.castore, 1)) (hq : pc + 1 = q) (k : ∀ D' : DT, D' = up2 D i j v → PV K X Q ce sl q lv st D' P) : PV K X Q ce sl pc lv (.int v :: .int x :: .ref (X.2.2 i) :: st) D P := by
  subst hq; subst hx; intro H locs ls hP hS hl
  have hc : (nI j).toNatClampNeg = j := nI_clamp (by omega)
  refine va_cast C.hx C.hb C.hK hP (gw_D C.hI D P _) hS (pl i) 0 ((gw_at (kd_lv hk (by decide))).trans (congrArg (fun e => some (X.2.2 i, e)) (gc_8 hk))) rfl (vp_in_nI hj (by omega)) d (fun H1 locs1 hP1 _ hS1 => ?_)
  rw [hc, hv, gw_set (D' := up2 D i j v) (P' := P) (kd_lv hk (by decide)) (by rw [gc_8 hk]; simp only [gcK, up2_row]; rfl) (fun j _ hj => gc_ne hj)] at hP1
  exact k _ rfl H1 locs1 ls hP1 hS1 hl
theorem pv_aald_10 {i j : Nat} {x : Int32} (C : CX K X cc own w0 nL ret) (hk : kd i = 10) (hx : x = nI j) (hj : j < 4) (d : decode cc pc = .ok (.aaload, 1)) (hq : pc + 1 = q) (k : kd (i + 1 + 2 * j) = 0 → PV K X Q ce sl q lv (.ref (X.2.2 (i + 1 + 2 * j)) :: st) D P) : PV K X Q ce sl pc lv (.int x :: .ref (X.2.2 i) :: st) D P := by
  subst hq; subst hx; intro H locs ls hP hS hl
  have hc : (nI j).toNatClampNeg = j := nI_clamp (by omega)
  refine va_aldq C.hx C.hb C.hK hP (pl i) 2 ((gw_at (kd_lv hk (by decide))).trans (congrArg (fun e => some (X.2.2 i, e)) (gc_10 hk))) rfl (vp_in_nI hj (by omega)) d ?_
  rw [hc]
  exact k (kd_10_j hk hj) H locs ls hP hS hl
theorem pv_aald_12 {i j : Nat} {x : Int32} (C : CX K X cc own w0 nL ret) (hk : kd i = 12) (hx : x = nI j) (hj : j < 3) (d : decode cc pc = .ok (.aaload, 1)) (hq : pc + 1 = q) (k : kd (i + 1 + 10 * j) = 5 → PV K X Q ce sl q lv (.ref (X.2.2 (i + 1 + 10 * j)) :: st) D P) : PV K X Q ce sl pc lv (.int x :: .ref (X.2.2 i) :: st) D P := by
  subst hq; subst hx; intro H locs ls hP hS hl
  have hc : (nI j).toNatClampNeg = j := nI_clamp (by omega)
  refine va_aldq C.hx C.hb C.hK hP (pl i) 4 ((gw_at (kd_lv hk (by decide))).trans (congrArg (fun e => some (X.2.2 i, e)) (gc_12 hk))) rfl (vp_in_nI hj (by omega)) d ?_
  rw [hc]
  exact k (kd_12_j hk hj) H locs ls hP hS hl
theorem pv_aald_11 {i j : Nat} {x : Int32} (C : CX K X cc own w0 nL ret) (hk : kd i = 11) (hx : x = nI j) (hj : j < 5) (hp : kd (P.1 j) = 3) (d : decode cc pc = .ok (.aaload, 1)) (hq : pc + 1 = q) (k : kd (P.1 j) = 3 → PV K X Q ce sl q lv (.ref (X.2.2 (P.1 j)) :: st) D P) : PV K X Q ce sl pc lv (.int x :: .ref (X.2.2 i) :: st) D P := by
  subst hq; subst hx; intro H locs ls hP hS hl
  have hc : (nI j).toNatClampNeg = j := nI_clamp (by omega)
  refine va_aldq C.hx C.hb C.hK hP (pl i) 3 ((gw_at (kd_lv hk (by decide))).trans (congrArg (fun e => some (X.2.2 i, e)) (gc_11 hk))) rfl (vp_in_nI hj (by omega)) d ?_
  rw [hc]
  exact k (hp) H locs ls hP hS hl
theorem gc_neP {X : XT} {D : DT} {P P' : PT} {j : Nat} (h : kd j ≠ 11) (h2 : P'.2 = P.2) : gc X D P' j = gc X D P j := by
  unfold gc
  generalize kd j = z at h
  unfold gcK
  split <;> first | rfl | (exact absurd rfl h) | rw [h2]
theorem kd_11f : ∀ i, i < 297 → kd i = 11 → i = 1 := by decide +kernel
theorem pv_aast {j b : Nat} {x : Int32} (C : CX K X cc own w0 nL ret) (hx : x = nI j) (hj : j < 5) (hb : kd b = 3) (d : decode cc pc = .ok (.aastore, 1)) (hq : pc + 1 = q) (k : ∀ P' : PT, P' = (va_up P.1 j b, P.2) → PV K X Q ce sl q lv st D P') : PV K X Q ce sl pc lv (.ref (X.2.2 b) :: .int x :: .ref (X.2.2 1) :: st) D P := by
  subst hq; subst hx; intro H locs ls hP hS hl
  have hc : (nI j).toNatClampNeg = j := nI_clamp (by omega)
  refine va_astq (r := (RX3, TX3, 8)) C.hx C.hb C.hK hP (gw_D C.hI D P _) hS (pl 1) 3 (pl b) 3 ((gw_at (i := 1) (Or.inl (by decide))).trans (congrArg (fun e => some (X.2.2 1, e)) (gc_11 (by decide)))) rfl ((gw_at (kd_lv hb (by decide))).trans (congrArg (fun e => some (X.2.2 b, e)) (gc_3 hb))) rfl (vp_in_nI hj (by omega)) d (fun H1 locs1 hP1 _ hS1 => ?_)
  rw [hc, gw_set (X := X) (D := D) (P := P) (D' := D) (P' := (va_up P.1 j b, P.2)) (i := 1) (Or.inl (by decide)) (by rw [gc_11 (by decide)]; simp only [gcK]; congr 7; funext z; simp only [va_up]; split <;> rfl) (fun z hz hz2 => gc_neP (fun h => hz2 (kd_11f z (kd_lt h (by decide)) h)) rfl)] at hP1
  exact k _ rfl H1 locs1 ls hP1 hS1 hl
theorem pv_alenI {i n : Nat} (C : CX K X cc own w0 nL ret) (hn : iln (kd i) = some n) (d : decode cc pc = .ok (.arraylength, 1)) (hq : pc + 1 = q) (k : PV K X Q ce sl q lv (.int (nI n) :: st) D P) : PV K X Q ce sl pc lv (.ref (X.2.2 i) :: st) D P := by
  subst hq; intro H locs ls hP hS hl
  exact va_alen C.hx C.hb C.hK hP (pl i) 1 ((gw_at (iln_lt hn).1).trans (congrArg (fun e => some (X.2.2 i, e)) (gc_I hn))) rfl rfl d (k H locs ls hP hS hl)
theorem pv_alen_8 {i : Nat} (C : CX K X cc own w0 nL ret) (hk : kd i = 8) (d : decode cc pc = .ok (.arraylength, 1)) (hq : pc + 1 = q) (k : PV K X Q ce sl q lv (.int 60 :: st) D P) : PV K X Q ce sl pc lv (.ref (X.2.2 i) :: st) D P := by
  subst hq; intro H locs ls hP hS hl
  exact va_alen C.hx C.hb C.hK hP (pl i) 0 ((gw_at (kd_lv hk (by decide))).trans (congrArg (fun e => some (X.2.2 i, e)) (gc_8 hk))) rfl rfl d (k H locs ls hP hS hl)
theorem pv_alen_10 {i : Nat} (C : CX K X cc own w0 nL ret) (hk : kd i = 10) (d : decode cc pc = .ok (.arraylength, 1)) (hq : pc + 1 = q) (k : PV K X Q ce sl q lv (.int 4 :: st) D P) : PV K X Q ce sl pc lv (.ref (X.2.2 i) :: st) D P := by
  subst hq; intro H locs ls hP hS hl
  exact va_alen C.hx C.hb C.hK hP (pl i) 2 ((gw_at (kd_lv hk (by decide))).trans (congrArg (fun e => some (X.2.2 i, e)) (gc_10 hk))) rfl rfl d (k H locs ls hP hS hl)
theorem pv_alen_11 {i : Nat} (C : CX K X cc own w0 nL ret) (hk : kd i = 11) (d : decode cc pc = .ok (.arraylength, 1)) (hq : pc + 1 = q) (k : PV K X Q ce sl q lv (.int 5 :: st) D P) : PV K X Q ce sl pc lv (.ref (X.2.2 i) :: st) D P := by
  subst hq; intro H locs ls hP hS hl
  exact va_alen C.hx C.hb C.hK hP (pl i) 3 ((gw_at (kd_lv hk (by decide))).trans (congrArg (fun e => some (X.2.2 i, e)) (gc_11 hk))) rfl rfl d (k H locs ls hP hS hl)
theorem pv_alen_12 {i : Nat} (C : CX K X cc own w0 nL ret) (hk : kd i = 12) (d : decode cc pc = .ok (.arraylength, 1)) (hq : pc + 1 = q) (k : PV K X Q ce sl q lv (.int 3 :: st) D P) : PV K X Q ce sl pc lv (.ref (X.2.2 i) :: st) D P := by
  subst hq; intro H locs ls hP hS hl
  exact va_alen C.hx C.hb C.hK hP (pl i) 4 ((gw_at (kd_lv hk (by decide))).trans (congrArg (fun e => some (X.2.2 i, e)) (gc_12 hk))) rfl rfl d (k H locs ls hP hS hl)
end Rows
