/-! walks over the pools of two objects -/
def PG (K : KT) (A : Nat → Prop) (F : Heap → Prop) (Q : State → Prop) (ce sl pc : Nat) (lv : List (Option Value)) (st : List Value) : Prop := ∀ (H : Heap) (locs : List Loc) (ls : Array Slot), F H → va_S A K.s.heap H locs → lvh ls lv → WK K H locs ce sl Q (F0 K.m pc ls st)
section GRows
variable {K : KT} {X : XT} {cc : ByteArray} {own : String} {w0 : Cond} {nL : Nat} {ret : Option FieldType} {A : Nat → Prop} {F : Heap → Prop} {Q : State → Prop} {ce sl pc q : Nat} {lv : List (Option Value)} {st : List Value}
theorem PG_lv {lv' : List (Option Value)} (h : lv = lv') (k : PG K A F Q ce sl pc lv' st) : PG K A F Q ce sl pc lv st := h ▸ k
theorem PG_st {st' : List Value} (h : st = st') (k : PG K A F Q ce sl pc lv st') : PG K A F Q ce sl pc lv st := h ▸ k
theorem PG_widen {ce' sl' : Nat} (h1 : ce ≤ ce') (h2 : sl ≤ sl') (k : PG K A F Q ce' sl' pc lv st) : PG K A F Q ce sl pc lv st := fun H locs ls hP hS hl => W.widen h1 h2 (k H locs ls hP hS hl)
theorem PG_le {lv' : List (Option Value)} (k : PG K A F Q ce sl pc lv' st) (h : lvle lv' lv) : PG K A F Q ce sl pc lv st := fun H locs ls hP hS hl => k H locs ls hP hS (lvh_mono hl (lvle_len _ _ h) (lvle_at _ _ h))
theorem pq_iconst {n : Int} {v : Int32} (C : CX K X cc own w0 nL ret) (d : decode cc pc = .ok (.iconst n, 1)) (hq : pc + 1 = q) (hv : Int32.ofInt n = v) (k : PG K A F Q ce sl q lv (.int v :: st)) : PG K A F Q ce sl pc lv (st) := by
  subst hq; intro H locs ls hP hS hl; exact lv_iconst C.hx C.hb d hv (k H locs ls hP hS hl)
theorem pq_bipush {n : Int} {v : Int32} (C : CX K X cc own w0 nL ret) (d : decode cc pc = .ok (.bipush n, 2)) (hq : pc + 2 = q) (hv : (Int8.ofInt n).toInt32 = v) (k : PG K A F Q ce sl q lv (.int v :: st)) : PG K A F Q ce sl pc lv (st) := by
  subst hq; intro H locs ls hP hS hl; exact lv_bipush C.hx C.hb d hv (k H locs ls hP hS hl)
theorem pq_sipush {n : Int} {v : Int32} (C : CX K X cc own w0 nL ret) (d : decode cc pc = .ok (.sipush n, 3)) (hq : pc + 3 = q) (hv : (Int16.ofInt n).toInt32 = v) (k : PG K A F Q ce sl q lv (.int v :: st)) : PG K A F Q ce sl pc lv (st) := by
  subst hq; intro H locs ls hP hS hl; exact lv_sipush C.hx C.hb d hv (k H locs ls hP hS hl)
theorem pq_ldc {index : Nat} {v : Int32} (C : CX K X cc own w0 nL ret) (d : decode cc pc = .ok (.ldc index, 2)) (hq : pc + 2 = q) (hc : (Jvm.Cond.constant own index v).before K.args K.s = true) (k : PG K A F Q ce sl q lv (.int v :: st)) : PG K A F Q ce sl pc lv (st) := by
  subst hq; intro H locs ls hP hS hl; exact lv_ldc C.hx C.hb C.hown hc d (k H locs ls hP hS hl)
theorem pq_iload_n {j : Fin 4} {i : Nat} {x : Int32} (C : CX K X cc own w0 nL ret) (d : decode cc pc = .ok (.iload_n j, 1)) (hq : pc + 1 = q) (hj : (j : Nat) = i) (hx : lv[i]? = some (some (.int x))) (k : PG K A F Q ce sl q lv (.int x :: st)) : PG K A F Q ce sl pc lv (st) := by
  subst hq; intro H locs ls hP hS hl; exact lv_iload_n C.hx C.hb d hj (lvh_at hl hx) (k H locs ls hP hS hl)
theorem pq_iload {i : Nat} {x : Int32} (C : CX K X cc own w0 nL ret) (d : decode cc pc = .ok (.iload i, 2)) (hq : pc + 2 = q) (hx : lv[i]? = some (some (.int x))) (k : PG K A F Q ce sl q lv (.int x :: st)) : PG K A F Q ce sl pc lv (st) := by
  subst hq; intro H locs ls hP hS hl; exact lv_iload C.hx C.hb d (lvh_at hl hx) (k H locs ls hP hS hl)
theorem pq_lload_n {j : Fin 4} {i : Nat} {x : Int64} (C : CX K X cc own w0 nL ret) (d : decode cc pc = .ok (.lload_n j, 1)) (hq : pc + 1 = q) (hj : (j : Nat) = i) (hx : lv[i]? = some (some (.long x))) (k : PG K A F Q ce sl q lv (.long x :: st)) : PG K A F Q ce sl pc lv (st) := by
  subst hq; intro H locs ls hP hS hl; exact lv_lload_n C.hx C.hb d hj (lvh_at hl hx) (k H locs ls hP hS hl)
theorem pq_lload {i : Nat} {x : Int64} (C : CX K X cc own w0 nL ret) (d : decode cc pc = .ok (.lload i, 2)) (hq : pc + 2 = q) (hx : lv[i]? = some (some (.long x))) (k : PG K A F Q ce sl q lv (.long x :: st)) : PG K A F Q ce sl pc lv (st) := by
  subst hq; intro H locs ls hP hS hl; exact lv_lload C.hx C.hb d (lvh_at hl hx) (k H locs ls hP hS hl)
theorem pq_aload_n {j : Fin 4} {i : Nat} {x : Nat} (C : CX K X cc own w0 nL ret) (d : decode cc pc = .ok (.aload_n j, 1)) (hq : pc + 1 = q) (hj : (j : Nat) = i) (hx : lv[i]? = some (some (.ref x))) (k : PG K A F Q ce sl q lv (.ref x :: st)) : PG K A F Q ce sl pc lv (st) := by
  subst hq; intro H locs ls hP hS hl; exact lv_aload_n C.hx C.hb d hj (lvh_at hl hx) (k H locs ls hP hS hl)
theorem pq_aload {i : Nat} {x : Nat} (C : CX K X cc own w0 nL ret) (d : decode cc pc = .ok (.aload i, 2)) (hq : pc + 2 = q) (hx : lv[i]? = some (some (.ref x))) (k : PG K A F Q ce sl q lv (.ref x :: st)) : PG K A F Q ce sl pc lv (st) := by
  subst hq; intro H locs ls hP hS hl; exact lv_aload C.hx C.hb d (lvh_at hl hx) (k H locs ls hP hS hl)
theorem pq_istore_n {j : Fin 4} {i : Nat} {x : Int32} (C : CX K X cc own w0 nL ret) (d : decode cc pc = .ok (.istore_n j, 1)) (hq : pc + 1 = q) (hj : (j : Nat) = i) (hi : i < lv.length) (ho : lvok lv i = true) (k : PG K A F Q ce sl q (lv.set i (some (.int x))) st) : PG K A F Q ce sl pc lv (.int x :: st) := by
  subst hq; intro H locs ls hP hS hl; exact lv_istore_n C.hx C.hb d hj hl hi rfl (fun ls' hl' => k H locs ls' hP hS (lvh_st1 ho hl'))
theorem pq_istore {i : Nat} {x : Int32} (C : CX K X cc own w0 nL ret) (d : decode cc pc = .ok (.istore i, 2)) (hq : pc + 2 = q) (hi : i < lv.length) (ho : lvok lv i = true) (k : PG K A F Q ce sl q (lv.set i (some (.int x))) st) : PG K A F Q ce sl pc lv (.int x :: st) := by
  subst hq; intro H locs ls hP hS hl; exact lv_istore C.hx C.hb d hl hi rfl (fun ls' hl' => k H locs ls' hP hS (lvh_st1 ho hl'))
theorem pq_astore_n {j : Fin 4} {i : Nat} {x : Nat} (C : CX K X cc own w0 nL ret) (d : decode cc pc = .ok (.astore_n j, 1)) (hq : pc + 1 = q) (hj : (j : Nat) = i) (hi : i < lv.length) (ho : lvok lv i = true) (k : PG K A F Q ce sl q (lv.set i (some (.ref x))) st) : PG K A F Q ce sl pc lv (.ref x :: st) := by
  subst hq; intro H locs ls hP hS hl; exact lv_astore_n C.hx C.hb d hj hl hi rfl (fun ls' hl' => k H locs ls' hP hS (lvh_st1 ho hl'))
theorem pq_astore {i : Nat} {x : Nat} (C : CX K X cc own w0 nL ret) (d : decode cc pc = .ok (.astore i, 2)) (hq : pc + 2 = q) (hi : i < lv.length) (ho : lvok lv i = true) (k : PG K A F Q ce sl q (lv.set i (some (.ref x))) st) : PG K A F Q ce sl pc lv (.ref x :: st) := by
  subst hq; intro H locs ls hP hS hl; exact lv_astore C.hx C.hb d hl hi rfl (fun ls' hl' => k H locs ls' hP hS (lvh_st1 ho hl'))
theorem pq_iinc {i : Nat} {n : Int} {x v : Int32} (C : CX K X cc own w0 nL ret) (d : decode cc pc = .ok (.iinc i n, 3)) (hq : pc + 3 = q) (hx : lv[i]? = some (some (.int x))) (hv : x + Int32.ofInt n = v) (ho : lvok lv i = true) (k : PG K A F Q ce sl q (lv.set i (some (.int v))) st) : PG K A F Q ce sl pc lv st := by
  subst hq; intro H locs ls hP hS hl
  obtain ⟨k0, hk0⟩ := lvA_get (n := 0) hx
  rw [Nat.zero_add] at hk0
  exact lv_iinc C.hx C.hb d hl hk0 hv (List.getElem?_eq_some_iff.mp hx).1 rfl (fun ls' hl' => k H locs ls' hP hS (lvh_st1 ho hl'))
theorem pq_iadd {x y : Int32} (C : CX K X cc own w0 nL ret) (d : decode cc pc = .ok (.iadd, 1)) (hq : pc + 1 = q)  (k : PG K A F Q ce sl q lv (.int (x + y) :: st)) : PG K A F Q ce sl pc lv (.int y :: .int x :: st) := by
  subst hq; intro H locs ls hP hS hl; exact lv_iadd C.hx C.hb d (k H locs ls hP hS hl)
theorem pq_isub {x y : Int32} (C : CX K X cc own w0 nL ret) (d : decode cc pc = .ok (.isub, 1)) (hq : pc + 1 = q)  (k : PG K A F Q ce sl q lv (.int (x - y) :: st)) : PG K A F Q ce sl pc lv (.int y :: .int x :: st) := by
  subst hq; intro H locs ls hP hS hl; exact lv_isub C.hx C.hb d (k H locs ls hP hS hl)
theorem pq_imul {x y : Int32} (C : CX K X cc own w0 nL ret) (d : decode cc pc = .ok (.imul, 1)) (hq : pc + 1 = q)  (k : PG K A F Q ce sl q lv (.int (x * y) :: st)) : PG K A F Q ce sl pc lv (.int y :: .int x :: st) := by
  subst hq; intro H locs ls hP hS hl; exact lv_imul C.hx C.hb d (k H locs ls hP hS hl)
theorem pq_iand {x y : Int32} (C : CX K X cc own w0 nL ret) (d : decode cc pc = .ok (.iand, 1)) (hq : pc + 1 = q)  (k : PG K A F Q ce sl q lv (.int (x &&& y) :: st)) : PG K A F Q ce sl pc lv (.int y :: .int x :: st) := by
  subst hq; intro H locs ls hP hS hl; exact lv_iand C.hx C.hb d (k H locs ls hP hS hl)
theorem pq_idiv {x y : Int32} (C : CX K X cc own w0 nL ret) (d : decode cc pc = .ok (.idiv, 1)) (hq : pc + 1 = q) (hne : ¬ y = 0) (k : PG K A F Q ce sl q lv (.int (x / y) :: st)) : PG K A F Q ce sl pc lv (.int y :: .int x :: st) := by
  subst hq; intro H locs ls hP hS hl; exact lv_idiv C.hx C.hb d hne (k H locs ls hP hS hl)
theorem pq_irem {x y : Int32} (C : CX K X cc own w0 nL ret) (d : decode cc pc = .ok (.irem, 1)) (hq : pc + 1 = q) (hne : ¬ y = 0) (k : PG K A F Q ce sl q lv (.int (x - x / y * y) :: st)) : PG K A F Q ce sl pc lv (.int y :: .int x :: st) := by
  subst hq; intro H locs ls hP hS hl; exact lv_irem C.hx C.hb d hne (k H locs ls hP hS hl)
theorem pq_i2l {x : Int32} (C : CX K X cc own w0 nL ret) (d : decode cc pc = .ok (.i2l, 1)) (hq : pc + 1 = q)  (k : PG K A F Q ce sl q lv (.long x.toInt64 :: st)) : PG K A F Q ce sl pc lv (.int x :: st) := by
  subst hq; intro H locs ls hP hS hl; exact lv_i2l C.hx C.hb d rfl (k H locs ls hP hS hl)
theorem pq_lcmp {x y : Int64} (C : CX K X cc own w0 nL ret) (d : decode cc pc = .ok (.lcmp, 1)) (hq : pc + 1 = q)  (k : PG K A F Q ce sl q lv (.int (lg_cmp x y) :: st)) : PG K A F Q ce sl pc lv (.long y :: .long x :: st) := by
  subst hq; intro H locs ls hP hS hl; exact W.lcmp C.hx C.hb d (k H locs ls hP hS hl)
theorem pq_if_eq {x : Int32} {off : Int} {tgt : Nat} (C : CX K X cc own w0 nL ret) (d : decode cc pc = .ok (.ifCond .eq off, 3)) (ht : (pc : Int) + off = (tgt : Int)) (hq : pc + 3 = q) (kt : x = 0 → PG K A F Q ce sl tgt lv st) (kf : ¬ x = 0 → PG K A F Q ce sl q lv st) : PG K A F Q ce sl pc lv (.int x :: st) := by
  subst hq; intro H locs ls hP hS hl; exact lv_if_eq C.hx C.hb d ht (fun h => kt h H locs ls hP hS hl) (fun h => kf h H locs ls hP hS hl)
theorem pq_icmp_eq {x y : Int32} {off : Int} {tgt : Nat} (C : CX K X cc own w0 nL ret) (d : decode cc pc = .ok (.if_icmp .eq off, 3)) (ht : (pc : Int) + off = (tgt : Int)) (hq : pc + 3 = q) (kt : x = y → PG K A F Q ce sl tgt lv st) (kf : ¬ x = y → PG K A F Q ce sl q lv st) : PG K A F Q ce sl pc lv (.int y :: .int x :: st) := by
  subst hq; intro H locs ls hP hS hl; exact lv_icmp_eq C.hx C.hb d ht (fun h => kt h H locs ls hP hS hl) (fun h => kf h H locs ls hP hS hl)
theorem pq_if_ne {x : Int32} {off : Int} {tgt : Nat} (C : CX K X cc own w0 nL ret) (d : decode cc pc = .ok (.ifCond .ne off, 3)) (ht : (pc : Int) + off = (tgt : Int)) (hq : pc + 3 = q) (kt : ¬ x = 0 → PG K A F Q ce sl tgt lv st) (kf : x = 0 → PG K A F Q ce sl q lv st) : PG K A F Q ce sl pc lv (.int x :: st) := by
  subst hq; intro H locs ls hP hS hl; exact lv_if_ne C.hx C.hb d ht (fun h => kt h H locs ls hP hS hl) (fun h => kf h H locs ls hP hS hl)
theorem pq_icmp_ne {x y : Int32} {off : Int} {tgt : Nat} (C : CX K X cc own w0 nL ret) (d : decode cc pc = .ok (.if_icmp .ne off, 3)) (ht : (pc : Int) + off = (tgt : Int)) (hq : pc + 3 = q) (kt : ¬ x = y → PG K A F Q ce sl tgt lv st) (kf : x = y → PG K A F Q ce sl q lv st) : PG K A F Q ce sl pc lv (.int y :: .int x :: st) := by
  subst hq; intro H locs ls hP hS hl; exact lv_icmp_ne C.hx C.hb d ht (fun h => kt h H locs ls hP hS hl) (fun h => kf h H locs ls hP hS hl)
theorem pq_if_lt {x : Int32} {off : Int} {tgt : Nat} (C : CX K X cc own w0 nL ret) (d : decode cc pc = .ok (.ifCond .lt off, 3)) (ht : (pc : Int) + off = (tgt : Int)) (hq : pc + 3 = q) (kt : x < 0 → PG K A F Q ce sl tgt lv st) (kf : ¬ x < 0 → PG K A F Q ce sl q lv st) : PG K A F Q ce sl pc lv (.int x :: st) := by
  subst hq; intro H locs ls hP hS hl; exact lv_if_lt C.hx C.hb d ht (fun h => kt h H locs ls hP hS hl) (fun h => kf h H locs ls hP hS hl)
theorem pq_icmp_lt {x y : Int32} {off : Int} {tgt : Nat} (C : CX K X cc own w0 nL ret) (d : decode cc pc = .ok (.if_icmp .lt off, 3)) (ht : (pc : Int) + off = (tgt : Int)) (hq : pc + 3 = q) (kt : x < y → PG K A F Q ce sl tgt lv st) (kf : ¬ x < y → PG K A F Q ce sl q lv st) : PG K A F Q ce sl pc lv (.int y :: .int x :: st) := by
  subst hq; intro H locs ls hP hS hl; exact lv_icmp_lt C.hx C.hb d ht (fun h => kt h H locs ls hP hS hl) (fun h => kf h H locs ls hP hS hl)
theorem pq_if_ge {x : Int32} {off : Int} {tgt : Nat} (C : CX K X cc own w0 nL ret) (d : decode cc pc = .ok (.ifCond .ge off, 3)) (ht : (pc : Int) + off = (tgt : Int)) (hq : pc + 3 = q) (kt : 0 ≤ x → PG K A F Q ce sl tgt lv st) (kf : ¬ 0 ≤ x → PG K A F Q ce sl q lv st) : PG K A F Q ce sl pc lv (.int x :: st) := by
  subst hq; intro H locs ls hP hS hl; exact lv_if_ge C.hx C.hb d ht (fun h => kt h H locs ls hP hS hl) (fun h => kf h H locs ls hP hS hl)
theorem pq_icmp_ge {x y : Int32} {off : Int} {tgt : Nat} (C : CX K X cc own w0 nL ret) (d : decode cc pc = .ok (.if_icmp .ge off, 3)) (ht : (pc : Int) + off = (tgt : Int)) (hq : pc + 3 = q) (kt : y ≤ x → PG K A F Q ce sl tgt lv st) (kf : ¬ y ≤ x → PG K A F Q ce sl q lv st) : PG K A F Q ce sl pc lv (.int y :: .int x :: st) := by
  subst hq; intro H locs ls hP hS hl; exact lv_icmp_ge C.hx C.hb d ht (fun h => kt h H locs ls hP hS hl) (fun h => kf h H locs ls hP hS hl)
theorem pq_if_gt {x : Int32} {off : Int} {tgt : Nat} (C : CX K X cc own w0 nL ret) (d : decode cc pc = .ok (.ifCond .gt off, 3)) (ht : (pc : Int) + off = (tgt : Int)) (hq : pc + 3 = q) (kt : 0 < x → PG K A F Q ce sl tgt lv st) (kf : ¬ 0 < x → PG K A F Q ce sl q lv st) : PG K A F Q ce sl pc lv (.int x :: st) := by
  subst hq; intro H locs ls hP hS hl; exact lv_if_gt C.hx C.hb d ht (fun h => kt h H locs ls hP hS hl) (fun h => kf h H locs ls hP hS hl)
theorem pq_icmp_gt {x y : Int32} {off : Int} {tgt : Nat} (C : CX K X cc own w0 nL ret) (d : decode cc pc = .ok (.if_icmp .gt off, 3)) (ht : (pc : Int) + off = (tgt : Int)) (hq : pc + 3 = q) (kt : y < x → PG K A F Q ce sl tgt lv st) (kf : ¬ y < x → PG K A F Q ce sl q lv st) : PG K A F Q ce sl pc lv (.int y :: .int x :: st) := by
  subst hq; intro H locs ls hP hS hl; exact lv_icmp_gt C.hx C.hb d ht (fun h => kt h H locs ls hP hS hl) (fun h => kf h H locs ls hP hS hl)
theorem pq_if_le {x : Int32} {off : Int} {tgt : Nat} (C : CX K X cc own w0 nL ret) (d : decode cc pc = .ok (.ifCond .le off, 3)) (ht : (pc : Int) + off = (tgt : Int)) (hq : pc + 3 = q) (kt : x ≤ 0 → PG K A F Q ce sl tgt lv st) (kf : ¬ x ≤ 0 → PG K A F Q ce sl q lv st) : PG K A F Q ce sl pc lv (.int x :: st) := by
  subst hq; intro H locs ls hP hS hl; exact lv_if_le C.hx C.hb d ht (fun h => kt h H locs ls hP hS hl) (fun h => kf h H locs ls hP hS hl)
theorem pq_icmp_le {x y : Int32} {off : Int} {tgt : Nat} (C : CX K X cc own w0 nL ret) (d : decode cc pc = .ok (.if_icmp .le off, 3)) (ht : (pc : Int) + off = (tgt : Int)) (hq : pc + 3 = q) (kt : x ≤ y → PG K A F Q ce sl tgt lv st) (kf : ¬ x ≤ y → PG K A F Q ce sl q lv st) : PG K A F Q ce sl pc lv (.int y :: .int x :: st) := by
  subst hq; intro H locs ls hP hS hl; exact lv_icmp_le C.hx C.hb d ht (fun h => kt h H locs ls hP hS hl) (fun h => kf h H locs ls hP hS hl)
theorem pq_goto {off : Int} {tgt : Nat} (C : CX K X cc own w0 nL ret) (d : decode cc pc = .ok (.goto off, 3)) (ht : (pc : Int) + off = (tgt : Int)) (k : PG K A F Q ce sl tgt lv st) : PG K A F Q ce sl pc lv st := by
  intro H locs ls hP hS hl; exact lv_goto C.hx C.hb d ht (k H locs ls hP hS hl)
theorem pq_iaddN {a b : Nat} {x y : Int32} (C : CX K X cc own w0 nL ret) (hx : x = nI a) (hy : y = nI b) (d : decode cc pc = .ok (.iadd, 1)) (hq : pc + 1 = q) (k : PG K A F Q ce sl q lv (.int (nI (a + b)) :: st)) : PG K A F Q ce sl pc lv (.int y :: .int x :: st) := pq_iadd C d hq (by rw [hx, hy, nI_add]; exact k)
theorem pq_imulN {a b : Nat} {x y : Int32} (C : CX K X cc own w0 nL ret) (hx : x = nI a) (hy : y = nI b) (d : decode cc pc = .ok (.imul, 1)) (hq : pc + 1 = q) (k : PG K A F Q ce sl q lv (.int (nI (a * b)) :: st)) : PG K A F Q ce sl pc lv (.int y :: .int x :: st) := pq_imul C d hq (by rw [hx, hy, pk_mul]; exact k)
theorem pq_idivN {a b : Nat} {x y : Int32} (C : CX K X cc own w0 nL ret) (hx : x = nI a) (hy : y = nI b) (ha : a < 2 ^ 31) (h0 : 0 < b) (hb : b < 2 ^ 31) (d : decode cc pc = .ok (.idiv, 1)) (hq : pc + 1 = q) (k : PG K A F Q ce sl q lv (.int (nI (a / b)) :: st)) : PG K A F Q ce sl pc lv (.int y :: .int x :: st) := pq_idiv C d hq (by rw [hy]; exact nI_ne0 h0 hb) (by rw [hx, hy, pk_div ha h0 hb]; exact k)
theorem pq_iremN {a b : Nat} {x y : Int32} (C : CX K X cc own w0 nL ret) (hx : x = nI a) (hy : y = nI b) (ha : a < 2 ^ 31) (h0 : 0 < b) (hb : b < 2 ^ 31) (d : decode cc pc = .ok (.irem, 1)) (hq : pc + 1 = q) (k : PG K A F Q ce sl q lv (.int (nI (a % b)) :: st)) : PG K A F Q ce sl pc lv (.int y :: .int x :: st) := pq_irem C d hq (by rw [hy]; exact nI_ne0 h0 hb) (by rw [hx, hy, pk_rem ha h0 hb]; exact k)
theorem pq_slen {b L : Nat} {xs : Nat → Int32} (C : CX K X cc own w0 nL ret) (hX : va_X b L xs K.s K.s.heap) (hbl : b < K.s.heap.size) (hbA : ¬ A b) (d : decode cc pc = .ok (.arraylength, 1)) (hq : pc + 1 = q) (k : PG K A F Q ce sl q lv (.int (nI L) :: st)) : PG K A F Q ce sl pc lv (.ref b :: st) := by
  subst hq; intro H locs ls hP hS hl
  exact va_slen C.hx C.hb hX hbl hbA hS d (k H locs ls hP hS hl)
theorem pq_sld {b L j : Nat} {xs : Nat → Int32} {x : Int32} (C : CX K X cc own w0 nL ret) (hX : va_X b L xs K.s K.s.heap) (hbl : b < K.s.heap.size) (hbA : ¬ A b) (hx : x = nI j) (hj : j < L) (hL : L < 2 ^ 31) (d : decode cc pc = .ok (.iaload, 1)) (hq : pc + 1 = q) (k : PG K A F Q ce sl q lv (.int (xs j) :: st)) : PG K A F Q ce sl pc lv (.int x :: .ref b :: st) := by
  subst hq; subst hx; intro H locs ls hP hS hl
  refine va_sld C.hx C.hb hX hbl hbA hS (vp_in_nI hj hL) d ?_
  rw [show (nI j).toNatClampNeg = j from ix_n (by omega)]
  exact k H locs ls hP hS hl
end GRows
/-! the frame -/
def ZA (A : Nat → Prop) (U : State) (H : Heap) : Prop := (vx_Zq Bundle.tN "UNASSIGNED_STACK" Bundle.steD A U H ∧ vx_Zq Bundle.tN "SUPPRESSED_SENTINEL" Bundle.listD A U H ∧ SR U) ∧ NG U
theorem ZA.go {A : Nat → Prop} {X : XT} {s U : State} {H : Heap} {locs : List Loc} (h : ZA A s s.heap) (hW : s.WarmedH U.vm) (hS : va_S A s.heap H locs) (hA : ∀ q, gA X H.size q → A q) : ZX X H.size U H := by
  obtain ⟨⟨h1, h2, h3⟩, h4⟩ := h
  exact ⟨⟨vx_Zq.moved hW.alike ((h1.kept hS.2.1).narrow hA), vx_Zq.moved hW.alike ((h2.kept hS.2.1).narrow hA), SR.warm hW h3⟩, NG.warm hW h4⟩
theorem ZA.go2 {A A2 : Nat → Prop} {s U : State} {H : Heap} {locs : List Loc} (h : ZA A s s.heap) (hW : s.WarmedH U.vm) (hS : va_S A s.heap H locs) (hA : ∀ q, A2 q → A q) : ZA A2 U H := by
  obtain ⟨⟨h1, h2, h3⟩, h4⟩ := h
  exact ⟨⟨vx_Zq.moved hW.alike ((h1.kept hS.2.1).narrow hA), vx_Zq.moved hW.alike ((h2.kept hS.2.1).narrow hA), SR.warm hW h3⟩, NG.warm hW h4⟩
/-- the same tables, other addresses -/
def mv (X : XT) (b : Nat → Nat) : XT := (X.1, X.2.1, b)
def F2 (X : XT) (b : Nat → Nat) (D : DT) (P : PT) (E : DT) (R : PT) : Heap → Prop := fun H => va_P X.1 vwCl (gw X D P) H ∧ va_P X.1 vwCl (gw (mv X b) E R) H
def apt (X : XT) (b : Nat → Nat) : Prop := ∀ i j, Lv i → Lv j → X.2.2 i ≠ b j
theorem fr_keep {X : XT} {b : Nat → Nat} {E : DT} {R : PT} {H H1 : Heap} (hap : apt X b) (h : va_P X.1 vwCl (gw (mv X b) E R) H) (hk : ∀ q : Nat, q < H.size → ¬ gA X H.size q → H1[q]? = H[q]?) : va_P X.1 vwCl (gw (mv X b) E R) H1 := by
  intro k q hq
  obtain ⟨hk1, e⟩ := gw_get hq
  have h0 := h k q hq
  have hlt := h0.lt
  refine h0.kept (hk _ hlt ?_)
  rintro (⟨i, hi, z⟩ | z)
  · rw [e] at z
    exact hap i (lp k) hi (lp_lv hk1) z.symm
  · exact absurd hlt (Nat.not_lt.mpr z)
section GCalls
variable {K : KT} {X : XT} {cc : ByteArray} {own : String} {w0 : Cond} {nL : Nat} {rt : Option FieldType} {A : Nat → Prop} {Q : State → Prop} {ce sl pc q mc ms index maxL n : Nat} {lv : List (Option Value)} {st rest As : List Value} {D E : DT} {P R : PT} {b : Nat → Nat} {y : MethodName} {bytes : ByteArray} {ret : Option FieldType} {rm : Room} {l : Launch}
theorem PG_swap (k : PG K A (F2 (mv X b) X.2.2 E R D P) Q ce sl pc lv st) : PG K A (F2 X b D P E R) Q ce sl pc lv st := fun H locs ls hP hS hl => k H locs ls ⟨hP.2, hP.1⟩ hS hl
theorem PG_unswap (k : PG K A (F2 X b D P E R) Q ce sl pc lv st) : PG K A (F2 (mv X b) X.2.2 E R D P) Q ce sl pc lv st := fun H locs ls hP hS hl => k H locs ls ⟨hP.2, hP.1⟩ hS hl
/-- what the region must hold -/
def inA (K : KT) (A : Nat → Prop) (X : XT) : Prop := (∀ i, Lv i → A (X.2.2 i)) ∧ ∀ q, K.s.heap.size ≤ q → A q
theorem inA.g (h : inA K A X) {H : Heap} {locs : List Loc} (hS : va_S A K.s.heap H locs) {q : Nat} (hq : gA X H.size q) : A q := by
  rcases hq with ⟨i, hi, e⟩ | z
  · rw [e]; exact h.1 i hi
  · exact h.2 q (Nat.le_trans hS.1 z)
theorem pq_callLl {post : Int64 → DT → PT → Prop} {hh : HT} (C : CX K X cc own w0 nL rt) (Z : ZA A K.s K.s.heap) (N : NC K.s) (hA : inA K A X) (hap : apt X b) (hKl : K.2.1 = l) (hM : LM l X y (.codeWith y bytes maxL ret hh) rm As (qL X post) D P mc ms) (hL : Cond.methodLink own index y ∈ AW) (M : MSW y bytes maxL ret hh n) (hrm : rm.cells = mc ∧ rm.slots = ms) (hR : rm.frames + 1 ≤ K.R.frames ∧ 8 + (maxL + 11) + rm.locals ≤ K.R.locals) (hcs : ce + mc ≤ K.R.cells ∧ sl + ms ≤ K.R.slots) (hn : As.length = n) (hlv : lv.length = nL) (hst : st = As.reverse ++ rest) (hsum : (rest.map fun v => v.category).sum ≤ 8) (d : decode cc pc = .ok (.invokestatic index, 3)) (hq : pc + 3 = q) (k : ∀ (r : Int64) (D' : DT) (P' : PT), post r D' P' → PG K A (F2 X b D' P' E R) Q (ce + mc) (sl + ms) q lv (.long r :: rest)) : PG K A (F2 X b D P E R) Q ce sl pc lv st := by
  subst hq; subst hst; subst hKl; intro H locs ls hP hS hl
  exact vx_calll (vx_runSX (hh := hh) (As := As) (rest := rest) (nL := nL) ⟨C.hx, C.hb, C.hn, C.hown, C.hts⟩ (hM H.size) (vx_cwSW n C.hts (gi_SW hL M) rfl hrm.1 hrm.2 ⟨M.2.2.2.1.1, M.2.2.2.1.2, M.2.2.2.2⟩ hR) ⟨pl_blind, fun U hU hW => ⟨rfl, ⟨⟨by rw [hU], by rw [hU]; exact hP.1, va_K.moved hW.alike C.hK, C.hI⟩, by rw [hU]; exact Z.go hW hS (fun q h => hA.g hS h)⟩, N.moved hW.alike⟩⟩ rfl hn (hl.1.trans hlv) rfl (lv_room hsum) d hcs) hS (fun q _ h => hA.g hS h) (fun q h => hA.g hS h) (fun q _ h => hA.g hS h) (fun E ce9 q9 u t H1 locs1 ht hvm _ hB hz hk hS1 hc9 hv9 hcl9 => absurd hB.1 id) (fun r u t H1 locs1 ht hvm hw hB hz hk hS1 => k r u.1 u.2 hw H1 locs1 ls ⟨ht ▸ hB.1, fr_keep hap hP.2 hk⟩ hS1 hl)
theorem pq_callMl {post : Int64 → DT → PT → Prop} (C : CX K X cc own w0 nL rt) (Z : ZA A K.s K.s.heap) (N : NC K.s) (hA : inA K A X) (hap : apt X b) (hKl : K.2.1 = l) (hM : LM l X y (.code y bytes maxL ret) rm As (qL X post) D P mc ms) (hL : Cond.methodLink own index y ∈ AW) (M : MS y bytes maxL ret n) (hrm : rm.cells = mc ∧ rm.slots = ms) (hR : rm.frames + 1 ≤ K.R.frames ∧ 8 + (maxL + 11) + rm.locals ≤ K.R.locals) (hcs : ce + mc ≤ K.R.cells ∧ sl + ms ≤ K.R.slots) (hn : As.length = n) (hlv : lv.length = nL) (hst : st = As.reverse ++ rest) (hsum : (rest.map fun v => v.category).sum ≤ 8) (d : decode cc pc = .ok (.invokestatic index, 3)) (hq : pc + 3 = q) (k : ∀ (r : Int64) (D' : DT) (P' : PT), post r D' P' → PG K A (F2 X b D' P' E R) Q (ce + mc) (sl + ms) q lv (.long r :: rest)) : PG K A (F2 X b D P E R) Q ce sl pc lv st := by
  subst hq; subst hst; subst hKl; intro H locs ls hP hS hl
  exact vx_calll (vx_runS (As := As) (rest := rest) (nL := nL) ⟨C.hx, C.hb, C.hn, C.hown, C.hts⟩ (hM H.size) (va_cwS n C.hts (gi_S hL M) rfl hrm.1 hrm.2 ⟨M.2.2.2.1.1, M.2.2.2.1.2, M.2.2.2.2⟩ hR) ⟨pl_blind, fun U hU hW => ⟨rfl, ⟨⟨by rw [hU], by rw [hU]; exact hP.1, va_K.moved hW.alike C.hK, C.hI⟩, by rw [hU]; exact Z.go hW hS (fun q h => hA.g hS h)⟩, N.moved hW.alike⟩⟩ rfl hn (hl.1.trans hlv) rfl (lv_room hsum) d hcs) hS (fun q _ h => hA.g hS h) (fun q h => hA.g hS h) (fun q _ h => hA.g hS h) (fun E ce9 q9 u t H1 locs1 ht hvm _ hB hz hk hS1 hc9 hv9 hcl9 => absurd hB.1 id) (fun r u t H1 locs1 ht hvm hw hB hz hk hS1 => k r u.1 u.2 hw H1 locs1 ls ⟨ht ▸ hB.1, fr_keep hap hP.2 hk⟩ hS1 hl)
theorem pq_callLi {post : Int32 → DT → PT → Prop} {hh : HT} (C : CX K X cc own w0 nL rt) (Z : ZA A K.s K.s.heap) (N : NC K.s) (hA : inA K A X) (hap : apt X b) (hKl : K.2.1 = l) (hM : LM l X y (.codeWith y bytes maxL ret hh) rm As (qI X post) D P mc ms) (hL : Cond.methodLink own index y ∈ AW) (M : MSW y bytes maxL ret hh n) (hrm : rm.cells = mc ∧ rm.slots = ms) (hR : rm.frames + 1 ≤ K.R.frames ∧ 8 + (maxL + 11) + rm.locals ≤ K.R.locals) (hcs : ce + mc ≤ K.R.cells ∧ sl + ms ≤ K.R.slots) (hn : As.length = n) (hlv : lv.length = nL) (hst : st = As.reverse ++ rest) (hsum : (rest.map fun v => v.category).sum ≤ 8) (d : decode cc pc = .ok (.invokestatic index, 3)) (hq : pc + 3 = q) (k : ∀ (r : Int32) (D' : DT) (P' : PT), post r D' P' → PG K A (F2 X b D' P' E R) Q (ce + mc) (sl + ms) q lv (.int r :: rest)) : PG K A (F2 X b D P E R) Q ce sl pc lv st := by
  subst hq; subst hst; subst hKl; intro H locs ls hP hS hl
  exact vx_calli (vx_runSX (hh := hh) (As := As) (rest := rest) (nL := nL) ⟨C.hx, C.hb, C.hn, C.hown, C.hts⟩ (hM H.size) (vx_cwSW n C.hts (gi_SW hL M) rfl hrm.1 hrm.2 ⟨M.2.2.2.1.1, M.2.2.2.1.2, M.2.2.2.2⟩ hR) ⟨pl_blind, fun U hU hW => ⟨rfl, ⟨⟨by rw [hU], by rw [hU]; exact hP.1, va_K.moved hW.alike C.hK, C.hI⟩, by rw [hU]; exact Z.go hW hS (fun q h => hA.g hS h)⟩, N.moved hW.alike⟩⟩ rfl hn (hl.1.trans hlv) rfl (lv_room hsum) d hcs) hS (fun q _ h => hA.g hS h) (fun q h => hA.g hS h) (fun q _ h => hA.g hS h) (fun E ce9 q9 u t H1 locs1 ht hvm _ hB hz hk hS1 hc9 hv9 hcl9 => absurd hB.1 id) (fun r u t H1 locs1 ht hvm hw hB hz hk hS1 => k r u.1 u.2 hw H1 locs1 ls ⟨ht ▸ hB.1, fr_keep hap hP.2 hk⟩ hS1 hl)
theorem pq_callMi {post : Int32 → DT → PT → Prop} (C : CX K X cc own w0 nL rt) (Z : ZA A K.s K.s.heap) (N : NC K.s) (hA : inA K A X) (hap : apt X b) (hKl : K.2.1 = l) (hM : LM l X y (.code y bytes maxL ret) rm As (qI X post) D P mc ms) (hL : Cond.methodLink own index y ∈ AW) (M : MS y bytes maxL ret n) (hrm : rm.cells = mc ∧ rm.slots = ms) (hR : rm.frames + 1 ≤ K.R.frames ∧ 8 + (maxL + 11) + rm.locals ≤ K.R.locals) (hcs : ce + mc ≤ K.R.cells ∧ sl + ms ≤ K.R.slots) (hn : As.length = n) (hlv : lv.length = nL) (hst : st = As.reverse ++ rest) (hsum : (rest.map fun v => v.category).sum ≤ 8) (d : decode cc pc = .ok (.invokestatic index, 3)) (hq : pc + 3 = q) (k : ∀ (r : Int32) (D' : DT) (P' : PT), post r D' P' → PG K A (F2 X b D' P' E R) Q (ce + mc) (sl + ms) q lv (.int r :: rest)) : PG K A (F2 X b D P E R) Q ce sl pc lv st := by
  subst hq; subst hst; subst hKl; intro H locs ls hP hS hl
  exact vx_calli (vx_runS (As := As) (rest := rest) (nL := nL) ⟨C.hx, C.hb, C.hn, C.hown, C.hts⟩ (hM H.size) (va_cwS n C.hts (gi_S hL M) rfl hrm.1 hrm.2 ⟨M.2.2.2.1.1, M.2.2.2.1.2, M.2.2.2.2⟩ hR) ⟨pl_blind, fun U hU hW => ⟨rfl, ⟨⟨by rw [hU], by rw [hU]; exact hP.1, va_K.moved hW.alike C.hK, C.hI⟩, by rw [hU]; exact Z.go hW hS (fun q h => hA.g hS h)⟩, N.moved hW.alike⟩⟩ rfl hn (hl.1.trans hlv) rfl (lv_room hsum) d hcs) hS (fun q _ h => hA.g hS h) (fun q h => hA.g hS h) (fun q _ h => hA.g hS h) (fun E ce9 q9 u t H1 locs1 ht hvm _ hB hz hk hS1 hc9 hv9 hcl9 => absurd hB.1 id) (fun r u t H1 locs1 ht hvm hw hB hz hk hS1 => k r u.1 u.2 hw H1 locs1 ls ⟨ht ▸ hB.1, fr_keep hap hP.2 hk⟩ hS1 hl)
theorem pq_callVi {b0 ci : Nat} {cq : vw_C} {post : Int32 → DT → PT → Prop} (C : CX K X cc own w0 nL rt) (hA : inA K A X) (hap : apt X b) (hKl : K.2.1 = l) (hM : CG l X y (.code y bytes maxL ret :: AW) rm (.ref (X.2.2 b0) :: As) (qI X post) D P mc ms) (hL : Cond.methodLink own index y ∈ AW) (hk : kd b0 = ci) (hci : ci < 7) (hcq : vwCl[ci]? = some cq) (M : MM cq.1 y bytes maxL ret n) (hrm : rm.cells = mc ∧ rm.slots = ms) (hR : rm.frames + 1 ≤ K.R.frames ∧ 8 + (maxL + 11) + rm.locals ≤ K.R.locals) (hcs : ce + mc ≤ K.R.cells ∧ sl + ms ≤ K.R.slots) (hn : As.length = n) (hlv : lv.length = nL) (hst : st = As.reverse ++ .ref (X.2.2 b0) :: rest) (hsum : (rest.map fun v => v.category).sum ≤ 8) (d : decode cc pc = .ok (.invokevirtual index, 3)) (hq : pc + 3 = q) (k : ∀ (r : Int32) (D' : DT) (P' : PT), post r D' P' → PG K A (F2 X b D' P' E R) Q (ce + mc) (sl + ms) q lv (.int r :: rest)) : PG K A (F2 X b D P E R) Q ce sl pc lv st := by
  subst hq; subst hst; subst hKl; intro H locs ls hP hS hl
  obtain ⟨fs, hfs⟩ := gc_obj (X := X) (D := D) (P := P) hk hci
  exact va_calli (va_runV (As := As) (rest := rest) (nL := nL) ⟨C.hx, C.hb, C.hn, C.hown, C.hts⟩ (hM H.size) (cwV n C.hts (gi_V hL M) rfl hrm.1 hrm.2 ⟨M.2.2.2.2.1, by rw [M.2.2.2.2.1]; exact M.2.2.2.2.2.1.1, by rw [M.2.2.2.2.1]; exact M.2.2.2.2.2.1.2, M.2.2.2.2.2.2⟩ hR) ⟨pb_blind, va_recv C.hK hP.1 (ci := ci) (q0 := pl b0) hcq ((gw_at (kd_lv hk (by omega))).trans (congrArg (fun e => some (X.2.2 b0, e)) hfs)), fun U hU hW => ⟨rfl, by rw [hU], by rw [hU]; exact hP.1, va_K.moved hW.alike C.hK, C.hI⟩⟩ rfl hn (hl.1.trans hlv) rfl (lv_room hsum) d hcs) hS (fun q _ h => hA.g hS h) (fun q h => hA.g hS h) (fun r u t H1 locs1 ht hvm hw hB hz hk hS1 => k r u.1 u.2 hw H1 locs1 ls ⟨ht ▸ hB.1, fr_keep hap hP.2 hk⟩ hS1 hl)
theorem pq_callVlF {b0 ci : Nat} {cq : vw_C} {post : Int64 → DT → PT → Prop} (C : CX K X cc own w0 nL rt) (Z : ZA A K.s K.s.heap) (hA : inA K A X) (hap : apt X b) (hKl : K.2.1 = l) (hM : XG l X y (.code y bytes maxL ret :: AW) rm (.ref (X.2.2 b0) :: As) (qL X post) (fun _ _ _ => False) D P mc ms) (hL : Cond.methodLink own index y ∈ AW) (hk : kd b0 = ci) (hci : ci < 7) (hcq : vwCl[ci]? = some cq) (M : MM cq.1 y bytes maxL ret n) (hrm : rm.cells = mc ∧ rm.slots = ms) (hR : rm.frames + 1 ≤ K.R.frames ∧ 8 + (maxL + 11) + rm.locals ≤ K.R.locals) (hcs : ce + mc ≤ K.R.cells ∧ sl + ms ≤ K.R.slots) (hn : As.length = n) (hlv : lv.length = nL) (hst : st = As.reverse ++ .ref (X.2.2 b0) :: rest) (hsum : (rest.map fun v => v.category).sum ≤ 8) (d : decode cc pc = .ok (.invokevirtual index, 3)) (hq : pc + 3 = q) (k : ∀ (r : Int64) (D' : DT) (P' : PT), post r D' P' → PG K A (F2 X b D' P' E R) Q (ce + mc) (sl + ms) q lv (.long r :: rest)) : PG K A (F2 X b D P E R) Q ce sl pc lv st := by
  subst hq; subst hst; subst hKl; intro H locs ls hP hS hl
  obtain ⟨fs, hfs⟩ := gc_obj (X := X) (D := D) (P := P) hk hci
  exact vx_calll (vx_runV (As := As) (rest := rest) (nL := nL) ⟨C.hx, C.hb, C.hn, C.hown, C.hts⟩ (hM H.size) (cwV n C.hts (gi_V hL M) rfl hrm.1 hrm.2 ⟨M.2.2.2.2.1, by rw [M.2.2.2.2.1]; exact M.2.2.2.2.2.1.1, by rw [M.2.2.2.2.1]; exact M.2.2.2.2.2.1.2, M.2.2.2.2.2.2⟩ hR) ⟨pz_blind, va_recv C.hK hP.1 (ci := ci) (q0 := pl b0) hcq ((gw_at (kd_lv hk (by omega))).trans (congrArg (fun e => some (X.2.2 b0, e)) hfs)), fun U hU hW => ⟨rfl, ⟨by rw [hU], by rw [hU]; exact hP.1, va_K.moved hW.alike C.hK, C.hI⟩, by rw [hU]; exact Z.go hW hS (fun q h => hA.g hS h)⟩⟩ rfl hn (hl.1.trans hlv) rfl (lv_room hsum) d hcs) hS (fun q _ h => hA.g hS h) (fun q h => hA.g hS h) (fun q _ h => hA.g hS h) (fun E ce9 q9 u t H1 locs1 ht hvm _ hB hz hk hS1 hc9 hv9 hcl9 => absurd hB.1 id) (fun r u t H1 locs1 ht hvm hw hB hz hk hS1 => k r u.1 u.2 hw H1 locs1 ls ⟨ht ▸ hB.1, fr_keep hap hP.2 hk⟩ hS1 hl)
end GCalls
/-! draws -/
theorem and_7f (x : Int32) : ∃ m, m < 2 ^ 31 ∧ x &&& 2147483647 = nI m := by
  have h1 : (x &&& 2147483647).toBitVec.toNat ≤ 2147483647 := by
    rw [Int32.toBitVec_and, BitVec.toNat_and]
    exact Nat.and_le_right
  refine ⟨(x &&& 2147483647).toBitVec.toNat, by omega, ?_⟩
  rw [← Int32.toInt_inj, nI_toInt (by omega)]
  exact BitVec.toInt_eq_toNat_of_lt (by omega)
noncomputable def drw (xs : Nat → Int32) (L j : Nat) : Nat := Classical.choose (and_7f (if j < L then xs j else 15594833 * nI j + 11113))
theorem drw_lt (xs : Nat → Int32) (L j : Nat) : drw xs L j < 2 ^ 31 := (Classical.choose_spec (and_7f (if j < L then xs j else 15594833 * nI j + 11113))).1
theorem drw_eq (xs : Nat → Int32) (L j : Nat) : (if j < L then xs j else 15594833 * nI j + 11113) &&& 2147483647 = nI (drw xs L j) := (Classical.choose_spec (and_7f (if j < L then xs j else 15594833 * nI j + 11113))).2
def PreD (b L : Nat) (xs : Nat → Int32) (sz : Nat) (U : State) : Prop := U.heap.size = sz ∧ va_X b L xs U U.heap ∧ b < sz
def qU (r0 : Nat) (sz : Nat) : Array Value → State → Outcome → State → Prop := va_Qi (fun (r : Int32) (_ : Unit) => r = nI r0) (fun _ _ => True) (fun q => sz ≤ q)
theorem tw_266 : (Jvm.Cond.constant "NappingViewsLaw" (7 : Nat) (15594833 : Int32)) ∈ AW := aw_2 (List.mem_of_getElem? (i := 26) rfl) rfl
theorem tw_267 : (Jvm.Cond.constant "NappingViewsLaw" (8 : Nat) (2147483647 : Int32)) ∈ AW := aw_2 (List.mem_of_getElem? (i := 27) rfl) rfl
