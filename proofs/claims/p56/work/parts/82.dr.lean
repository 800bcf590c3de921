/-! draws by the law -/
theorem vp_keep {X : XT} {D : DT} {P : PT} {H H1 : Heap} (h : va_P X.1 vwCl (gw X D P) H) (hk : ∀ q : Nat, q < H.size → H1[q]? = H[q]?) : va_P X.1 vwCl (gw X D P) H1 := by
  intro k q hq
  have h0 := h k q hq
  exact h0.kept (hk _ h0.lt)
theorem F2_keep {X : XT} {b : Nat → Nat} {D E : DT} {P R : PT} {H H1 : Heap} (h : F2 X b D P E R H) (hk : ∀ q : Nat, q < H.size → H1[q]? = H[q]?) : F2 X b D P E R H1 := ⟨vp_keep h.1 hk, vp_keep h.2 hk⟩
def PreE (X : XT) (b L : Nat) (xs : Nat → Int32) (sz : Nat) (U : State) : Prop := PreD b L xs sz U ∧ va_K X.1 vwCl (gt X) U ∧ gI X
theorem pe_blind {X : XT} {b L : Nat} {xs : Nat → Int32} {sz : Nat} {av : List Value} : FrameBlind (va_Pc av (PreE X b L xs sz)) := fun a U g mk q => by
  obtain ⟨q0, ⟨q1, q2, q3⟩, qK, qI⟩ := q
  exact ⟨q0, ⟨q1, va_X.moved (u := U) (U := U.calling g mk a) (Vm.Alike.refl U.vm) q2, q3⟩, va_K.moved (u := U) (U := U.calling g mk a) (Vm.Alike.refl U.vm) qK, qI⟩
def RMd : Room := { frames := 1, cells := 0, slots := 0, locals := 36 }
set_option maxRecDepth 100000 in
set_option maxHeartbeats 4000000 in
theorem c_L_draw (l : Launch) (X : XT) (b L j : Nat) (xs : Nat → Int32) (hL : L < 2 ^ 31) (hj : j < 2 ^ 31) : ∀ sz : Nat, Met l yL_draw (.code yL_draw cL_draw 2 (some .int) :: AW) RMd (va_Pc [.ref b, .int (nI j)] (PreE X b L xs sz)) (qU (drw xs L j) sz) 0 0 (fun q => sz ≤ q) := by
  intro sz
  refine Met.ofW (cc := cL_draw) (maxL := 2) (ret := some .int) (by decide +kernel) rfl ?_
  intro p e s m args below meth c s₁ B hml hv
  obtain ⟨rfl, ⟨hsz, hX, hbl⟩, hK, hI⟩ := hv
  subst hsz
  have hts : ∀ w ∈ Cond.code yL_draw cL_draw 2 (some .int) :: AW, w.before ([.ref b, .int (nI j)] : List Value).toArray s = true := atoms_spec (ws := Cond.code yL_draw cL_draw 2 (some .int) :: AW) B.pre
  rw [lg_entry_eq]
  obtain ⟨K, hKd⟩ : ∃ K : KT, K = (p, l, e, RMd, s, m, ([.ref b, .int (nI j)] : List Value).toArray, below, meth, c) := ⟨_, rfl⟩
  have C : CX K X cL_draw RL (Cond.code yL_draw cL_draw 2 (some .int)) 2 (some .int) := by rw [hKd]; exact ⟨B.exec, B.bytes, findClass_of_methodNamed B.named, hts, hK, hI, hml, B.notSynchronized, B.returns⟩
  have hX2 : va_X b L xs K.s K.s.heap := by rw [hKd]; exact hX
  have hb2 : b < K.s.heap.size := by rw [hKd]; exact hbl
  have hbA : ¬ (fun q => K.s.heap.size ≤ q) b := fun z => absurd hb2 (Nat.not_lt.mpr z)
  have main : PG K (fun q => K.s.heap.size ≤ q) (fun _ => True) (MQ K.below (qU (drw xs L j) K.s.heap.size) K.args K.s 0 0 (fun q => K.s.heap.size ≤ q)) 0 0 0 (lvE [.ref b, .int (nI j)] 2) [] := by
    refine PG_lv (lv' := [some (.ref b), some (.int (nI j))]) rfl ?_
    have fin : ∀ v : Int32, v = (if j < L then xs j else 15594833 * nI j + 11113) → PG K (fun q => K.s.heap.size ≤ q) (fun _ => True) (MQ K.below (qU (drw xs L j) K.s.heap.size) K.args K.s 0 0 (fun q => K.s.heap.size ≤ q)) 0 0 20 [some (.ref b), some (.int (nI j))] [.int v] := by
      intro v hv
      refine pq_ldc (q := 22) C dL_draw_20 rfl (C.hts _ (List.mem_cons_of_mem _ tw_267)) ?_
      refine pq_iand (q := 23) C dL_draw_22 rfl ?_
      rw [hv, drw_eq]
      intro H locs ls hP hS hl
      exact W.iret (v := nI (drw xs L j)) C.hx C.hb C.hr (fun t ht hW => ⟨⟨_, (), rfl, rfl, trivial⟩, hS.F ht⟩) hS.2.2 dL_draw_23 C.hlk
    refine pq_iload_n (q := 1) C dL_draw_0 rfl rfl rfl ?_
    refine pq_aload_n (q := 2) C dL_draw_1 rfl rfl rfl ?_
    refine pq_slen (q := 3) C hX2 hb2 hbA dL_draw_2 rfl ?_
    refine pq_icmp_ge (q := 6) (tgt := 12) C dL_draw_3 (by decide) rfl (fun hge => ?_) (fun hlt => ?_)
    · have hn : ¬ j < L := Nat.not_lt.mpr ((nI_leI hL hj).mp hge)
      refine pq_ldc (q := 14) C dL_draw_12 rfl (C.hts _ (List.mem_cons_of_mem _ tw_266)) ?_
      refine pq_iload_n (q := 15) C dL_draw_14 rfl rfl rfl ?_
      refine pq_imul (q := 16) C dL_draw_15 rfl ?_
      refine pq_sipush (q := 19) (v := 11113) C dL_draw_16 rfl (by decide) ?_
      refine pq_iadd (q := 20) C dL_draw_19 rfl ?_
      exact fin _ (by rw [if_neg hn])
    · have hn : j < L := Nat.not_le.mp (fun z => hlt ((nI_leI hL hj).mpr z))
      refine pq_aload_n (q := 7) C dL_draw_6 rfl rfl rfl ?_
      refine pq_iload_n (q := 8) C dL_draw_7 rfl rfl rfl ?_
      refine pq_sld (q := 9) (j := j) C hX2 hb2 hbA rfl hn hL dL_draw_8 rfl ?_
      refine pq_goto (tgt := 20) C dL_draw_9 (by decide) ?_
      exact fin _ (by rw [if_pos hn])
  subst hKd
  exact main s.heap [] _ trivial va_S.rf (lvh_E (vs := [.ref b, .int (nI j)]) (n := 2) (Nat.le_of_ble_eq_true rfl))
theorem pq_callD {K : KT} {X : XT} {cc : ByteArray} {own : String} {w0 : Cond} {nL : Nat} {rt : Option FieldType} {A : Nat → Prop} {Q : State → Prop} {ce sl pc q index : Nat} {lv : List (Option Value)} {st rest : List Value} {D E : DT} {P R : PT} {b : Nat → Nat} {sb L j : Nat} {xs : Nat → Int32} (C : CX K X cc own w0 nL rt) (hX : va_X sb L xs K.s K.s.heap) (hbl : sb < K.s.heap.size) (hbA : ¬ A sb) (hA : ∀ q, K.s.heap.size ≤ q → A q) (hL : L < 2 ^ 31) (hj : j < 2 ^ 31) (hM : Cond.methodLink own index yL_draw ∈ AW) (hR : RMd.frames + 1 ≤ K.R.frames ∧ 8 + (2 + 11) + RMd.locals ≤ K.R.locals) (hcs : ce + 0 ≤ K.R.cells ∧ sl + 0 ≤ K.R.slots) (hlv : lv.length = nL) (hst : st = .int (nI j) :: .ref sb :: rest) (hsum : (rest.map fun v => v.category).sum ≤ 8) (d : decode cc pc = .ok (.invokestatic index, 3)) (hq : pc + 3 = q) (k : PG K A (F2 X b D P E R) Q ce sl q lv (.int (nI (drw xs L j)) :: rest)) : PG K A (F2 X b D P E R) Q ce sl pc lv st := by
  subst hq; subst hst; intro H locs ls hP hS hl
  have hf : ∀ q, H.size ≤ q → A q := fun q z => hA q (Nat.le_trans hS.1 z)
  exact va_calli (va_runS (As := [.ref sb, .int (nI j)]) (rest := rest) (nL := nL) ⟨C.hx, C.hb, C.hn, C.hown, C.hts⟩ (c_L_draw K.2.1 X sb L j xs hL hj H.size) (va_cwS 2 C.hts (gi_S hM mm_L_draw) rfl rfl rfl ⟨mm_L_draw.2.2.2.1.1, mm_L_draw.2.2.2.1.2, mm_L_draw.2.2.2.2⟩ hR) ⟨pe_blind, fun U hU hW => ⟨rfl, ⟨by rw [hU], by rw [hU]; exact va_X.moved hW.alike (hX.kept (hS.2.1 sb hbl hbA)), Nat.lt_of_lt_of_le hbl hS.1⟩, va_K.moved hW.alike C.hK, C.hI⟩⟩ rfl rfl (hl.1.trans hlv) rfl (lv_room hsum) d hcs) hS (fun q _ h => hf q h) hf (fun r u t H1 locs1 ht hvm hw hB hz hk hS1 => by
    have e : r = nI (drw xs L j) := hw
    subst e
    exact k H1 locs1 ls (F2_keep hP (fun q h1 => hk q h1 (Nat.not_le.mpr h1))) hS1 hl)
/-! two objects are told apart by nothing -/
def gA2 (X : XT) (b : Nat → Nat) (sz : Nat) : Nat → Prop := fun q => (∃ i : Nat, Lv i ∧ (q = X.2.2 i ∨ q = b i)) ∨ sz ≤ q
def Pre2 (X : XT) (b : Nat → Nat) (D : DT) (P : PT) (E : DT) (R : PT) (sz : Nat) (U : State) : Prop := U.heap.size = sz ∧ F2 X b D P E R U.heap ∧ va_K X.1 vwCl (gt X) U ∧ ZA (gA2 X b sz) U U.heap ∧ NC U
theorem za_blind {A : Nat → Prop} {a : Array Value} {U : State} {H : Heap} {g : JFrame} {mk : MethodId} (h : ZA A U H) : ZA A (U.calling g mk a) H := by
  obtain ⟨⟨z1, z2, z3⟩, z4⟩ := h
  exact ⟨⟨vx_Zq.moved (u := U) (U := U.calling g mk a) (Vm.Alike.refl U.vm) z1, vx_Zq.moved (u := U) (U := U.calling g mk a) (Vm.Alike.refl U.vm) z2, fun q hq => (z3 q hq).elim (fun a ha => ⟨a, vk_R.same (u := U) rfl ha⟩)⟩, fun w hw => va_Nw.same (by simp only [ngw, List.mem_cons, List.not_mem_nil, or_false] at hw; rcases hw with rfl | rfl | rfl | rfl | rfl | rfl | rfl <;> rfl) (u := U) rfl (z4 w hw)⟩
theorem p2_blind {X : XT} {b : Nat → Nat} {D E : DT} {P R : PT} {sz : Nat} {av : List Value} : FrameBlind (va_Pc av (Pre2 X b D P E R sz)) := fun a U g mk q => by
  obtain ⟨q0, q1, qP, qK, qZ, qN⟩ := q
  exact ⟨q0, q1, qP, va_K.moved (u := U) (U := U.calling g mk a) (Vm.Alike.refl U.vm) qK, za_blind qZ, NC.moved (u := U) (U := U.calling g mk a) (Vm.Alike.refl U.vm) qN⟩
def q2 (X : XT) (b : Nat → Nat) (post : DT → PT → DT → PT → Prop) (sz : Nat) : Array Value → State → Outcome → State → Prop := va_Qi (fun (r : Int32) (u : (DT × PT) × (DT × PT)) => r = 1 ∧ post u.1.1 u.1.2 u.2.1 u.2.2) (fun u t => F2 X b u.1.1 u.1.2 u.2.1 u.2.2 t.heap) (gA2 X b sz)
def x2 (X : XT) (b : Nat → Nat) (sz : Nat) : String → State → State → Prop := vx_X (fun _ : Unit => True) (fun _ _ _ => False) (gA2 X b sz)
/-- what holds all through a walk over two objects -/
def LKP (l : Launch) (K : KT) (X : XT) (b : Nat → Nat) (A : Nat → Prop) (cc : ByteArray) (own : String) (w0 : Cond) (nL : Nat) (rt : Option FieldType) (rm : Room) : Prop := K.2.1 = l ∧ K.R = rm ∧ CX K X cc own w0 nL rt ∧ CX K (mv X b) cc own w0 nL rt ∧ ZA A K.s K.s.heap ∧ NC K.s ∧ inA K A X ∧ inA K A (mv X b) ∧ apt X b ∧ apt (mv X b) X.2.2 ∧ l.stackTraces = false
theorem CX.mv {K : KT} {X : XT} {b : Nat → Nat} {cc : ByteArray} {own : String} {w0 : Cond} {nL : Nat} {rt : Option FieldType} (C : CX K X cc own w0 nL rt) (hg : gI (mv X b)) : CX K (mv X b) cc own w0 nL rt := ⟨C.1, C.2.1, C.2.2.1, C.2.2.2.1, C.2.2.2.2.1, hg, C.2.2.2.2.2.2⟩
def RMk : Room := { frames := 10, cells := 360, slots := 2160, locals := 360 }
set_option maxRecDepth 100000 in
set_option maxHeartbeats 4000000 in
theorem c_L_alike (l : Launch) (X : XT) (b : Nat → Nat) (D E : DT) (P R : PT) (hfl : l.stackTraces = false) (M : DT) (Wn x : Nat) (h : RI D P M Wn) (g : RI E R M Wn) (hW : Wn + 1000 < 2 ^ 29) (hx : x < 2 ^ 31) (hI : gI X) (hI2 : gI (mv X b)) (hap : apt X b) : ∀ sz : Nat, vx_Met l yL_alike (.code yL_alike cL_alike 3 (some .boolean) :: AW) RMk (va_Pc [.ref (X.2.2 0), .ref (b 0), .int (nI x)] (Pre2 X b D P E R sz)) (q2 X b (fun D' P' E' R' => RI D' P' M (Wn + 130) ∧ RI E' R' M (Wn + 130)) sz) (x2 X b sz) 360 2160 (gA2 X b sz) := by
  intro sz
  refine vx_ofW (cc := cL_alike) (maxL := 3) (ret := some .boolean) (by decide +kernel) rfl ?_
  intro p e s m args below meth c s₁ B hml htab hv
  obtain ⟨rfl, hsz, hP0, hK, hZ0, hN0⟩ := hv
  subst hsz
  have hts : ∀ w ∈ Cond.code yL_alike cL_alike 3 (some .boolean) :: AW, w.before ([.ref (X.2.2 0), .ref (b 0), .int (nI x)] : List Value).toArray s = true := atoms_spec (ws := Cond.code yL_alike cL_alike 3 (some .boolean) :: AW) B.pre
  rw [lg_entry_eq]
  obtain ⟨K, hKd⟩ : ∃ K : KT, K = (p, l, e, RMk, s, m, ([.ref (X.2.2 0), .ref (b 0), .int (nI x)] : List Value).toArray, below, meth, c) := ⟨_, rfl⟩
  have hKl : K.2.1 = l := by rw [hKd]
  have hKR : K.R = RMk := by rw [hKd]
  have C : CX K X cL_alike RL (Cond.code yL_alike cL_alike 3 (some .boolean)) 3 (some .boolean) := by rw [hKd]; exact ⟨B.exec, B.bytes, findClass_of_methodNamed B.named, hts, hK, hI, hml, B.notSynchronized, B.returns⟩
  have C2 := C.mv hI2
  have Z : ZA (gA2 X b K.s.heap.size) K.s K.s.heap := by rw [hKd]; exact hZ0
  have hNC : NC K.s := by rw [hKd]; exact hN0
  have hA1 : inA K (gA2 X b K.s.heap.size) X := ⟨fun i hi => Or.inl ⟨i, hi, Or.inl rfl⟩, fun q z => Or.inr z⟩
  have hA2 : inA K (gA2 X b K.s.heap.size) (mv X b) := ⟨fun i hi => Or.inl ⟨i, hi, Or.inr rfl⟩, fun q z => Or.inr z⟩
  have hap2 : apt (mv X b) X.2.2 := fun i j hi hj z => hap j i hj hi z.symm
  obtain ⟨n0, hn60, hn9⟩ := rl_tok h
  have main : PG K (gA2 X b K.s.heap.size) (F2 X b D P E R) (vx_MQ K.below (q2 X b (fun D' P' E' R' => RI D' P' M (Wn + 130) ∧ RI E' R' M (Wn + 130)) K.s.heap.size) (x2 X b K.s.heap.size) K.args K.s 360 2160 (gA2 X b K.s.heap.size)) 0 (6 * 0) 0 (lvE [.ref (X.2.2 0), .ref (b 0), .int (nI x)] 3) [] := by
    refine PG_lv (lv' := [some (.ref (X.2.2 0)), some (.ref (b 0)), some (.int (nI x))]) rfl ?_
    refine pq_aload_n (q := 1) C dL_alike_0 rfl rfl rfl ?_
    refine pq_callVlF (q := 4) (rest := []) C Z hA1 hap hKl (c_X6_digest l X D P hfl M Wn h n0 hn9 hn60) tw_356 (show kd 0 = 6 from rfl) (by decide) rfl mm_X6_digest ⟨rfl, rfl⟩ (by rw [hKR]; exact ⟨Nat.le_of_ble_eq_true rfl, Nat.le_of_ble_eq_true rfl⟩) (by rw [hKR]; show _ ≤ 360 ∧ _ ≤ 2160; omega) rfl rfl rfl (Nat.le_of_ble_eq_true rfl) dL_alike_1 rfl (fun r1 D1 P1 q1 => ?_)
    obtain ⟨rfl, hF1, rfl⟩ := q1
    have hR1 := RI_Fs h hF1
    refine pq_aload_n (q := 5) C dL_alike_4 rfl rfl rfl ?_
    refine PG_swap ?_
    refine pq_callVlF (q := 8) (rest := [.long (dgs (M 7) (M 12) n0 (M 6 3))]) (X := mv X b) (b := X.2.2) C2 Z hA2 hap2 hKl (c_X6_digest l (mv X b) E R hfl M Wn g n0 hn9 hn60) tw_356 (show kd 0 = 6 from rfl) (by decide) rfl mm_X6_digest ⟨rfl, rfl⟩ (by rw [hKR]; exact ⟨Nat.le_of_ble_eq_true rfl, Nat.le_of_ble_eq_true rfl⟩) (by rw [hKR]; show _ ≤ 360 ∧ _ ≤ 2160; omega) rfl rfl rfl (Nat.le_of_ble_eq_true rfl) dL_alike_5 rfl (fun r2 D2 P2 q2 => ?_)
    refine PG_unswap ?_
    obtain ⟨rfl, hF2, rfl⟩ := q2
    have hR2 := RI_Fs g hF2
    refine pq_lcmp (q := 9) C dL_alike_8 rfl ?_
    refine pq_if_ne (q := 12) (tgt := 89) C dL_alike_9 (by decide) rfl (fun c9_3 => False.elim (c9_3 ((lg_cmp_eq _ _).mpr (rfl)))) (fun _ => ?_)
    refine pq_aload_n (q := 13) C dL_alike_12 rfl rfl rfl ?_
    refine pq_callVi (q := 16) (rest := []) C hA1 hap hKl (c_X6_firstError l X D1 P M Wn hR1 (by omega) n0 hn60 hn9) tw_951 (show kd 0 = 6 from rfl) (by decide) rfl mm_X6_firstError ⟨rfl, rfl⟩ (by rw [hKR]; exact ⟨Nat.le_of_ble_eq_true rfl, Nat.le_of_ble_eq_true rfl⟩) (by rw [hKR]; show _ ≤ 360 ∧ _ ≤ 2160; omega) rfl rfl rfl (Nat.le_of_ble_eq_true rfl) dL_alike_13 rfl (fun r4 D4 P4 q4 => ?_)
    obtain ⟨rfl, hR4, -⟩ := q4
    refine pq_aload_n (q := 17) C dL_alike_16 rfl rfl rfl ?_
    refine PG_swap ?_
    refine pq_callVi (q := 20) (rest := [.int (nI (pAll (M 12) n0 62 0).2)]) (X := mv X b) (b := X.2.2) C2 hA2 hap2 hKl (c_X6_firstError l (mv X b) D2 R M Wn hR2 (by omega) n0 hn60 hn9) tw_951 (show kd 0 = 6 from rfl) (by decide) rfl mm_X6_firstError ⟨rfl, rfl⟩ (by rw [hKR]; exact ⟨Nat.le_of_ble_eq_true rfl, Nat.le_of_ble_eq_true rfl⟩) (by rw [hKR]; show _ ≤ 360 ∧ _ ≤ 2160; omega) rfl rfl rfl (Nat.le_of_ble_eq_true rfl) dL_alike_17 rfl (fun r5 D5 P5 q5 => ?_)
    refine PG_unswap ?_
    obtain ⟨rfl, hR5, -⟩ := q5
    refine pq_icmp_ne (q := 23) (tgt := 89) C dL_alike_20 (by decide) rfl (fun c20_6 => False.elim (c20_6 (rfl))) (fun _ => ?_)
    refine pq_aload_n (q := 24) C dL_alike_23 rfl rfl rfl ?_
    refine pq_iload_n (q := 25) C dL_alike_24 rfl rfl rfl ?_
    refine pq_iconst (q := 26) (v := 3) C dL_alike_25 rfl (by decide) ?_
    refine pq_iremN (q := 27) (a := x) (b := 3) C rfl rfl (by omega) (by decide) (by decide) dL_alike_26 rfl ?_
    refine pq_iload_n (q := 28) C dL_alike_27 rfl rfl rfl ?_
    refine pq_iconst (q := 29) (v := 3) C dL_alike_28 rfl (by decide) ?_
    refine pq_idivN (q := 30) (a := x) (b := 3) C rfl rfl (by omega) (by decide) (by decide) dL_alike_29 rfl ?_
    refine pq_iconst (q := 31) (v := 4) C dL_alike_30 rfl (by decide) ?_
    refine pq_iremN (q := 32) (a := (x / 3)) (b := 4) C rfl rfl (by omega) (by decide) (by decide) dL_alike_31 rfl ?_
    refine pq_iload_n (q := 33) C dL_alike_32 rfl rfl rfl ?_
    refine pq_sipush (q := 36) (v := 199) C dL_alike_33 rfl (by decide) ?_
    refine pq_iremN (q := 37) (a := x) (b := 199) C rfl rfl (by omega) (by decide) (by decide) dL_alike_36 rfl ?_
    refine pq_bipush (q := 39) (v := 99) C dL_alike_37 rfl (by decide) ?_
    refine pq_isub (q := 40) C dL_alike_39 rfl ?_
    refine pq_callLl (q := 43) (rest := []) C Z hNC hA1 hap hKl (c_L_rankOf l X D4 P4 hfl M (Wn + 130) hR4 (nI (x % 3)) (nI ((x / 3) % 4)) ((nI (x % 199)) - 99)) tw_816 mw_L_rankOf ⟨rfl, rfl⟩ (by rw [hKR]; exact ⟨Nat.le_of_ble_eq_true rfl, Nat.le_of_ble_eq_true rfl⟩) (by rw [hKR]; show _ ≤ 360 ∧ _ ≤ 2160; omega) rfl rfl rfl (Nat.le_of_ble_eq_true rfl) dL_alike_40 rfl (fun r7 D7 P7 q7 => ?_)
    obtain ⟨rfl, hR7⟩ := q7
    refine pq_aload_n (q := 44) C dL_alike_43 rfl rfl rfl ?_
    refine pq_iload_n (q := 45) C dL_alike_44 rfl rfl rfl ?_
    refine pq_iconst (q := 46) (v := 3) C dL_alike_45 rfl (by decide) ?_
    refine pq_iremN (q := 47) (a := x) (b := 3) C rfl rfl (by omega) (by decide) (by decide) dL_alike_46 rfl ?_
    refine pq_iload_n (q := 48) C dL_alike_47 rfl rfl rfl ?_
    refine pq_iconst (q := 49) (v := 3) C dL_alike_48 rfl (by decide) ?_
    refine pq_idivN (q := 50) (a := x) (b := 3) C rfl rfl (by omega) (by decide) (by decide) dL_alike_49 rfl ?_
    refine pq_iconst (q := 51) (v := 4) C dL_alike_50 rfl (by decide) ?_
    refine pq_iremN (q := 52) (a := (x / 3)) (b := 4) C rfl rfl (by omega) (by decide) (by decide) dL_alike_51 rfl ?_
    refine pq_iload_n (q := 53) C dL_alike_52 rfl rfl rfl ?_
    refine pq_sipush (q := 56) (v := 199) C dL_alike_53 rfl (by decide) ?_
    refine pq_iremN (q := 57) (a := x) (b := 199) C rfl rfl (by omega) (by decide) (by decide) dL_alike_56 rfl ?_
    refine pq_bipush (q := 59) (v := 99) C dL_alike_57 rfl (by decide) ?_
    refine pq_isub (q := 60) C dL_alike_59 rfl ?_
    refine PG_swap ?_
    refine pq_callLl (q := 63) (rest := [.long _]) (X := mv X b) (b := X.2.2) C2 Z hNC hA2 hap2 hKl (c_L_rankOf l (mv X b) D5 P5 hfl M (Wn + 130) hR5 (nI (x % 3)) (nI ((x / 3) % 4)) ((nI (x % 199)) - 99)) tw_816 mw_L_rankOf ⟨rfl, rfl⟩ (by rw [hKR]; exact ⟨Nat.le_of_ble_eq_true rfl, Nat.le_of_ble_eq_true rfl⟩) (by rw [hKR]; show _ ≤ 360 ∧ _ ≤ 2160; omega) rfl rfl rfl (Nat.le_of_ble_eq_true rfl) dL_alike_60 rfl (fun r8 D8 P8 q8 => ?_)
    refine PG_unswap ?_
    obtain ⟨rfl, hR8⟩ := q8
    refine pq_lcmp (q := 64) C dL_alike_63 rfl ?_
    refine pq_if_ne (q := 67) (tgt := 89) C dL_alike_64 (by decide) rfl (fun c64_9 => False.elim (c64_9 ((lg_cmp_eq _ _).mpr (rfl)))) (fun _ => ?_)
    refine pq_aload_n (q := 68) C dL_alike_67 rfl rfl rfl ?_
    refine pq_iload_n (q := 69) C dL_alike_68 rfl rfl rfl ?_
    refine pq_iconst (q := 70) (v := 3) C dL_alike_69 rfl (by decide) ?_
    refine pq_iremN (q := 71) (a := x) (b := 3) C rfl rfl (by omega) (by decide) (by decide) dL_alike_70 rfl ?_
    refine pq_callLl (q := 74) (rest := []) C Z hNC hA1 hap hKl (c_L_unlikeGroups l X D7 P7 hfl M (Wn + 130) hR7 (nI (x % 3))) tw_830 mw_L_unlikeGroups ⟨rfl, rfl⟩ (by rw [hKR]; exact ⟨Nat.le_of_ble_eq_true rfl, Nat.le_of_ble_eq_true rfl⟩) (by rw [hKR]; show _ ≤ 360 ∧ _ ≤ 2160; omega) rfl rfl rfl (Nat.le_of_ble_eq_true rfl) dL_alike_71 rfl (fun r10 D10 P10 q10 => ?_)
    obtain ⟨rfl, hR10⟩ := q10
    refine pq_aload_n (q := 75) C dL_alike_74 rfl rfl rfl ?_
    refine pq_iload_n (q := 76) C dL_alike_75 rfl rfl rfl ?_
    refine pq_iconst (q := 77) (v := 3) C dL_alike_76 rfl (by decide) ?_
    refine pq_iremN (q := 78) (a := x) (b := 3) C rfl rfl (by omega) (by decide) (by decide) dL_alike_77 rfl ?_
    refine PG_swap ?_
    refine pq_callLl (q := 81) (rest := [.long _]) (X := mv X b) (b := X.2.2) C2 Z hNC hA2 hap2 hKl (c_L_unlikeGroups l (mv X b) D8 P8 hfl M (Wn + 130) hR8 (nI (x % 3))) tw_830 mw_L_unlikeGroups ⟨rfl, rfl⟩ (by rw [hKR]; exact ⟨Nat.le_of_ble_eq_true rfl, Nat.le_of_ble_eq_true rfl⟩) (by rw [hKR]; show _ ≤ 360 ∧ _ ≤ 2160; omega) rfl rfl rfl (Nat.le_of_ble_eq_true rfl) dL_alike_78 rfl (fun r11 D11 P11 q11 => ?_)
    refine PG_unswap ?_
    obtain ⟨rfl, hR11⟩ := q11
    refine pq_lcmp (q := 82) C dL_alike_81 rfl ?_
    refine pq_if_ne (q := 85) (tgt := 89) C dL_alike_82 (by decide) rfl (fun c82_12 => False.elim (c82_12 ((lg_cmp_eq _ _).mpr (rfl)))) (fun _ => ?_)
    refine pq_iconst (q := 86) (v := 1) C dL_alike_85 rfl (by decide) ?_
    refine pq_goto (tgt := 90) C dL_alike_86 (by decide) ?_
    intro H locs ls hP hS hl
    exact W.widen (by omega) (by omega) (vx_ret (W.zret (v := 1) C.hx C.hb C.hr rfl (fun t ht hW => ⟨⟨1, ((D10, P10), (D11, P11)), rfl, ⟨rfl, hR10, hR11⟩, (show F2 _ _ _ _ _ _ t.heap by rw [ht]; exact hP)⟩, hS.F ht⟩) hS.2.2 dL_alike_90 C.hlk))
  subst hKd
  exact main s.heap [] _ hP0 va_S.rf (lvh_E (vs := [.ref (X.2.2 0), .ref (b 0), .int (nI x)]) (n := 3) (Nat.le_of_ble_eq_true rfl))
theorem pq_callA {K : KT} {X : XT} {cc : ByteArray} {own : String} {w0 : Cond} {nL : Nat} {rt : Option FieldType} {A : Nat → Prop} {Q : State → Prop} {ce sl pc q index x W : Nat} {l : Launch} {rm : Room} {lv : List (Option Value)} {st rest : List Value} {M D E : DT} {P R : PT} {b : Nat → Nat} (L : LKP l K X b A cc own w0 nL rt rm) (h : RI D P M W) (g : RI E R M W) (hW : W + 1000 < 2 ^ 29) (hx : x < 2 ^ 31) (hM : Cond.methodLink own index yL_alike ∈ AW) (hR : RMk.frames + 1 ≤ K.R.frames ∧ 8 + (3 + 11) + RMk.locals ≤ K.R.locals) (hcs : ce + 360 ≤ K.R.cells ∧ sl + 2160 ≤ K.R.slots) (hlv : lv.length = nL) (hst : st = .int (nI x) :: .ref (b 0) :: .ref (X.2.2 0) :: rest) (hsum : (rest.map fun v => v.category).sum ≤ 8) (d : decode cc pc = .ok (.invokestatic index, 3)) (hq : pc + 3 = q) (k : ∀ (D' : DT) (P' : PT) (E' : DT) (R' : PT), RI D' P' M (W + 130) → RI E' R' M (W + 130) → PG K A (F2 X b D' P' E' R') Q (ce + 360) (sl + 2160) q lv (.int 1 :: rest)) : PG K A (F2 X b D P E R) Q ce sl pc lv st := by
  obtain ⟨hKl, hKR, C, C2, Z, hNC, hA1, hA2, hap, hap2, hfl⟩ := id L
  subst hq; subst hst; subst hKl; intro H locs ls hP hS hl
  have hgA : ∀ q, gA2 X b H.size q → A q := fun q z => by
    rcases z with ⟨i, hi, e | e⟩ | z
    · rw [e]; exact hA1.1 i hi
    · rw [e]; exact hA2.1 i hi
    · exact hA1.2 q (Nat.le_trans hS.1 z)
  exact vx_calli (vx_runS (As := [.ref (X.2.2 0), .ref (b 0), .int (nI x)]) (rest := rest) (nL := nL) ⟨C.hx, C.hb, C.hn, C.hown, C.hts⟩ (c_L_alike K.2.1 X b D E P R hfl M W x h g hW hx C.hI C2.hI hap H.size) (va_cwS 3 C.hts (gi_S hM mm_L_alike) rfl rfl rfl ⟨mm_L_alike.2.2.2.1.1, mm_L_alike.2.2.2.1.2, mm_L_alike.2.2.2.2⟩ hR) ⟨p2_blind, fun U hU hW => ⟨rfl, by rw [hU], by rw [hU]; exact hP, va_K.moved hW.alike C.hK, by rw [hU]; exact Z.go2 hW hS hgA, hNC.moved hW.alike⟩⟩ rfl rfl (hl.1.trans hlv) rfl (lv_room hsum) d hcs) hS (fun q _ h => hgA q h) hgA (fun q _ h => hgA q h) (fun E ce9 q9 u t H1 locs1 ht hvm _ hB hz hk hS1 hc9 hv9 hcl9 => absurd hB id) (fun r u t H1 locs1 ht hvm hw hB hz hk hS1 => by
    obtain ⟨rfl, h1, h2⟩ := hw
    exact k u.1.1 u.1.2 u.2.1 u.2.2 h1 h2 H1 locs1 ls (ht ▸ hB) hS1 hl)
