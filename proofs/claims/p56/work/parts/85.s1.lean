/-! THE CLAIM OUT OF ONE WALK OF THE LAW'S BODY. Your part is whole_start (and what it stands on); all else here is the same for every law, but numbers. -/
def R_law : String := "NappingViewsLaw"
def lw_P (b : Addr) (xs : List Int32) (args : Array Value) (s : State) : Prop := args = #[.ref b] ∧ s.IntsAt b xs ∧ xs.length ≤ 260 ∧ (Jvm.Cond.and given_1 narrow_1).before args s = true
/-- what a walk over the start with the record d0 says of its end, said of the start itself -/
theorem lw_closed {s t : State} {o : Outcome} {d0 : Drawn} {L : List Loc} {k n : Nat} (hd0 : s.drawn.sameBut d0 lw_cs) (hv : ∃ v, o = .returned v) (hW : (s.setDrawn d0).WarmedH t.vm) (hs : (s.setDrawn d0).sameButNew ({ t with vm := s.vm } : State) L k n) : State.butDraws s t lw_cs (fun t1 => Framed s o t1 L k n) := by
  have h2 : t.drawn = d0 := congrArg State.drawn hs.1
  refine ⟨⟨hv, hW, State.sameButNew.setDrawn hs s.drawn⟩, ?_, by decide⟩
  rw [h2]
  exact hd0
def lw_Q (_ : Array Value) (s : State) (o : Outcome) (t : State) : Prop := o = .returned (some (.int 1)) ∧ State.butDraws s t lw_cs (fun t1 => Framed s o t1 [] 690320 7030508)
def lw_Z (below : List Frame) (a : Array Value) (s : State) : State → Prop := fun t => ∃ o, t.status = .running ∧ Ended t below o ∧ lw_Q a s o t
/-- the law's own end, with 1 on the stack, nothing written that was there before, its room as the claim has it; d0: the record of draws at this point (at the entry s.drawn: begin with 'refine W.base ?_' and 'have hd0 := Drawn.sameBut.refl s.drawn lw_cs') -/
theorem lw_ret {p : Program} {l : Launch} {e : Env} {s : State} {m : MethodId} {below : List Frame} {meth : Method} {c : Code} {b : Nat} {d0 : Drawn} (hd0 : s.drawn.sameBut d0 lw_cs) (hx : p.tables.exec = Jvm.exec) (hb : c.code = code) (hr : meth.sig.returnType = ret) (hlocks : meth.locks = false) {pc : Nat} {H : Heap} {ls : Array Slot} (hdg : decode code pc = .ok (.ireturn, 1)) : W p l e room_1 (s.setDrawn d0) m #[Value.ref b] below meth c H [] 690320 7030508 (lw_Z below #[Value.ref b] s) (F0 m pc ls [.int 1]) := by
  intro T hT X
  obtain ⟨fs, hret, hrun, hended, hW, hframe⟩ := X.leave (v := some (.int 1)) (hlocks := hlocks) (fun h => by rw [hr] at h; cases h)
  have hmeth' : T.vm.method? m = some meth := X.method'
  refine ⟨T.setFrames fs, ?_, .returned (some (.int 1)), hrun, hended, rfl, lw_closed hd0 ⟨_, rfl⟩ hW hframe⟩
  jvm_step X.here [X.here.top, hx, hb, hdg, hmeth', hr, ret, narrow_b1]
  (try refine ⟨rfl, ?_⟩); (try refine ⟨rfl, ?_⟩)
  first | (intro acts; rw [hret _ acts rfl rfl rfl]) | rw [hret _ _ rfl rfl rfl]
  exact Steps.refl _
/-- what holds at the law's entry: the machine, the code, the tables' words (any of lw_tbl by 'hts w (by decide +kernel)'), the script of L ints xs at the cell b, what the Statement gives of the start (any of its parts by flat_of_before) -/
def lw_At (p : Program) (s : State) (m : MethodId) (meth : Method) (c : Code) (b L : Nat) (xs : Nat → Int32) : Prop :=
  p.tables.exec = Jvm.exec ∧ c.code = code ∧ meth.sig.returnType = ret ∧ c.maxLocals = 8 ∧ s.vm.findClass R_law = some m.cls ∧ (∀ w ∈ lw_tbl, w.before #[Value.ref b] s = true) ∧ va_X b L xs s s.heap ∧ b < s.heap.size ∧ meth.locks = false ∧ (Jvm.Cond.and given_1 narrow_1).before #[Value.ref b] s = true
/-! the whole walk of the law -/
set_option maxRecDepth 100000 in
set_option maxHeartbeats 8000000 in
theorem whole_start {p : Program} {e : Env} {s : State} {m : MethodId} {below : List Frame} {meth : Method} {c : Code} (l : Launch) (hflags : l.flags = flags0) {b L : Nat} {xs : Nat → Int32} (hL : L ≤ 260) (C0 : lw_At p s m meth c b L xs) : W p l e room_1 s m #[Value.ref b] below meth c s.heap [] 0 0 (lw_Z below #[Value.ref b] s) (entryFrame m ([Value.ref b] : List Value).toArray 8) := by
  obtain ⟨hx, hb, hr, hml, hown, hts, hX, hbl, hlocks, hgv⟩ := id C0
  have hfl : l.stackTraces = false := by unfold Launch.stackTraces; rw [hflags]; decide +kernel
  have hta : ∀ w ∈ AW, w.before #[Value.ref b] s = true := fun w hw => hts w (List.mem_filter.mp hw).1
  obtain ⟨d0, f0, hk0⟩ := u_known (C := RX0) (T := TX0) (N := 2) (n := 2) hta inX0 (hta _ tw_83)
  obtain ⟨d1, f1, hk1⟩ := u_known (C := RX1) (T := TX1) (N := 4) (n := 4) hta inX1 (hta _ tw_51)
  obtain ⟨d2, f2, hk2⟩ := u_known (C := RX2) (T := TX2) (N := 7) (n := 7) hta inX2 (hta _ tw_163)
  obtain ⟨d3, f3, hk3⟩ := u_known (C := RX3) (T := TX3) (N := 8) (n := 8) hta inX3 (hta _ tw_25)
  obtain ⟨d4, f4, hk4⟩ := u_known (C := RX4) (T := TX4) (N := 2) (n := 2) hta inX4 (hta _ tw_31)
  obtain ⟨d5, f5, hk5⟩ := u_known (C := RX5) (T := TX5) (N := 7) (n := 7) hta inX5 (hta _ tw_76)
  obtain ⟨d6, f6, hk6⟩ := u_known (C := RX6) (T := TX6) (N := 8) (n := 8) hta inX6 (hta _ tw_17)
  obtain ⟨c0, hAc0, hRc0⟩ := ka_p (ty := .char) (fun _ z => by cases z) (hta _ tw_196)
  obtain ⟨c1, hAc1, hRc1⟩ := ka_p (ty := .int) (fun _ z => by cases z) (hta _ tw_49)
  have hOc2 : (Cond.arrayOver (.object RX0)).before #[Value.ref b] s = true := hts _ (tb_1 (List.mem_of_getElem? (i := 82) rfl))
  obtain ⟨c2, hAc2, hRc2⟩ := ka_o hOc2
  have hOc3 : (Cond.arrayOver (.object RX3)).before #[Value.ref b] s = true := hts _ (tb_1 (List.mem_of_getElem? (i := 161) rfl))
  obtain ⟨c3, hAc3, hRc3⟩ := ka_o hOc3
  have hOc4 : (Cond.arrayOver (.object RX5)).before #[Value.ref b] s = true := hts _ (tb_1 (List.mem_of_getElem? (i := 75) rfl))
  obtain ⟨c4, hAc4, hRc4⟩ := ka_o hOc4
  obtain ⟨X, hXd⟩ : ∃ X : XT, X = ((fun k => if k = 0 then d0 else if k = 1 then d1 else if k = 2 then d2 else if k = 3 then d3 else if k = 4 then d4 else if k = 5 then d5 else d6, fun k => if k = 0 then f0 else if k = 1 then f1 else if k = 2 then f2 else if k = 3 then f3 else if k = 4 then f4 else if k = 5 then f5 else f6), fun k => if k = 0 then c0 else if k = 1 then c1 else if k = 2 then c2 else if k = 3 then c3 else c4, id) := ⟨_, rfl⟩
  have hgI : gI X := fun i j _ _ e => by rw [hXd] at e; exact e
  have hK : va_K X.1 vwCl (gt X) s := by
    rw [hXd]
    refine ⟨fun k q hq => ?_, fun k q hq => ?_⟩
    · match k, hq with
      | 0, hq => cases hq; exact hk0
      | 1, hq => cases hq; exact hk1
      | 2, hq => cases hq; exact hk2
      | 3, hq => cases hq; exact hk3
      | 4, hq => cases hq; exact hk4
      | 5, hq => cases hq; exact hk5
      | 6, hq => cases hq; exact hk6
      | k + 7, hq => exact absurd hq (by simp [vwCl])
    · match k, hq with
      | 0, hq => cases hq; exact ⟨hAc0, hRc0⟩
      | 1, hq => cases hq; exact ⟨hAc1, hRc1⟩
      | 2, hq => cases hq; exact ⟨hAc2, hRc2⟩
      | 3, hq => cases hq; exact ⟨hAc3, hRc3⟩
      | 4, hq => cases hq; exact ⟨hAc4, hRc4⟩
      | k + 5, hq => exact absurd hq (by simp [gt])
  have hIK : IK s := by
    refine ⟨⟨va_AO.of hOc2, va_AO.of hOc3, va_AO.of hOc4⟩, fun w hw => ?_⟩
    simp only [ikw, List.mem_cons, List.not_mem_nil, or_false] at hw
    rcases hw with rfl | rfl | rfl | rfl
    · exact va_Nw.of rfl (hts _ (tb_1 (List.mem_of_getElem? (i := 52) rfl)))
    · exact va_Nw.of rfl (hts _ (tb_1 (List.mem_of_getElem? (i := 84) rfl)))
    · exact va_Nw.of rfl (hts _ (tb_1 (List.mem_of_getElem? (i := 164) rfl)))
    · exact va_Nw.of rfl (hts _ (tb_1 (List.mem_of_getElem? (i := 198) rfl)))
  have hNG : NG s := by
    intro w hw
    simp only [ngw, List.mem_cons, List.not_mem_nil, or_false] at hw
    rcases hw with rfl | rfl | rfl | rfl | rfl | rfl | rfl
    · exact va_Nw.of rfl (hts _ (tb_3 (List.mem_of_getElem? (i := 117) rfl)))
    · exact va_Nw.of rfl (hts _ (tb_2 (List.mem_of_getElem? (i := 38) rfl)))
    · exact va_Nw.of rfl (hts _ (tb_2 (List.mem_of_getElem? (i := 178) rfl)))
    · exact va_Nw.of rfl (hts _ (tb_3 (List.mem_of_getElem? (i := 132) rfl)))
    · exact va_Nw.of rfl (hts _ (tb_2 (List.mem_of_getElem? (i := 40) rfl)))
    · exact va_Nw.of rfl (hts _ (tb_2 (List.mem_of_getElem? (i := 42) rfl)))
    · exact va_Nw.of rfl (hts _ (tb_2 (List.mem_of_getElem? (i := 44) rfl)))
  have hcur : s.vm.findClass RX6 = some d6 := hk6.2.1
  have hSR : SR s := by
    intro q hq
    simp only [strs, List.mem_cons, List.not_mem_nil, or_false] at hq
    rcases hq with rfl | rfl | rfl | rfl | rfl | rfl | rfl | rfl | rfl | rfl | rfl | rfl | rfl | rfl | rfl | rfl | rfl
    · exact sr_of hcur (hts _ (tb_3 (List.mem_of_getElem? (i := 146) rfl)))
    · exact sr_of hcur (hts _ (tb_3 (List.mem_of_getElem? (i := 212) rfl)))
    · exact sr_of hcur (hts _ (tb_3 (List.mem_of_getElem? (i := 228) rfl)))
    · exact sr_of hcur (hts _ (tb_4 (List.mem_of_getElem? (i := 39) rfl)))
    · exact sr_of hcur (hts _ (tb_4 (List.mem_of_getElem? (i := 55) rfl)))
    · exact sr_of hcur (hts _ (tb_4 (List.mem_of_getElem? (i := 56) rfl)))
    · exact sr_of hcur (hts _ (tb_5 (List.mem_of_getElem? (i := 43) rfl)))
    · exact sr_of hcur (hts _ (tb_4 (List.mem_of_getElem? (i := 130) rfl)))
    · exact sr_of hcur (hts _ (tb_4 (List.mem_of_getElem? (i := 225) rfl)))
    · exact sr_of hcur (hts _ (tb_2 (List.mem_of_getElem? (i := 77) rfl)))
    · exact sr_of hcur (hts _ (tb_2 (List.mem_of_getElem? (i := 185) rfl)))
    · exact sr_of hcur (hts _ (tb_3 (List.mem_of_getElem? (i := 84) rfl)))
    · exact sr_of hcur (hts _ (tb_2 (List.mem_of_getElem? (i := 223) rfl)))
    · exact sr_of hcur (hts _ (tb_3 (List.mem_of_getElem? (i := 139) rfl)))
    · exact sr_of hcur (hts _ (tb_4 (List.mem_of_getElem? (i := 23) rfl)))
    · exact sr_of hcur (hts _ (tb_2 (List.mem_of_getElem? (i := 207) rfl)))
    · exact sr_of hcur (hts _ (tb_4 (List.mem_of_getElem? (i := 141) rfl)))
  have hNC : NC s := ⟨va_Nc.of (flat_of_before _ hgv _ (by decide +kernel : Cond.not (.castable "java/lang/IllegalArgumentException" "java/lang/IndexOutOfBoundsException") ∈ _)), va_Nc.of (flat_of_before _ hgv _ (by decide +kernel : Cond.not (.castable "java/lang/IllegalStateException" "java/lang/IndexOutOfBoundsException") ∈ _)), va_Nc.of (flat_of_before _ hgv _ (by decide +kernel : Cond.not (.castable "java/lang/IllegalStateException" "java/lang/IllegalArgumentException") ∈ _))⟩
  have hU : ∀ A : Nat → Prop, (∀ a : Nat, a < s.heap.size → ¬ A a) → vx_Zq "java/lang/Throwable" "UNASSIGNED_STACK" "[Ljava/lang/StackTraceElement;" A s s.heap := fun A hA => vx_Zqof (hts _ (tb_2 (List.mem_of_getElem? (i := 63) rfl))) (hta _ tw_9) (flat_of_before _ hgv _ (by decide +kernel : Cond.isRef (.static "java/lang/Throwable" "UNASSIGNED_STACK" "[Ljava/lang/StackTraceElement;") ∈ _)) hA
  have hV : ∀ A : Nat → Prop, (∀ a : Nat, a < s.heap.size → ¬ A a) → vx_Zq "java/lang/Throwable" "SUPPRESSED_SENTINEL" "Ljava/util/List;" A s s.heap := fun A hA => vx_Zqof (hts _ (tb_2 (List.mem_of_getElem? (i := 65) rfl))) (hta _ tw_9) (flat_of_before _ hgv _ (by decide +kernel : Cond.isRef (.static "java/lang/Throwable" "SUPPRESSED_SENTINEL" "Ljava/util/List;") ∈ _)) hA
  obtain ⟨K, hKd⟩ : ∃ K : KT, K = (p, l, e, room_1, s, m, #[Value.ref b], below, meth, c) := ⟨_, rfl⟩
  have hKl : K.2.1 = l := by rw [hKd]
  have hKR : K.R = room_1 := by rw [hKd]
  have hKs : K.s = s := by rw [hKd]
  have CXof : ∀ Y : XT, Y.1 = X.1 → Y.2.1 = X.2.1 → gI Y → CX K Y cL_law RL wL 8 (some .boolean) := fun Y h1 h2 h3 => by
    rw [hKd]
    refine ⟨hx, hb, hown, fun w hw => ?_, ?_, h3, hml, hlocks, hr⟩
    · rcases List.mem_cons.mp hw with rfl | hw
      · exact hta _ tw_0
      · exact hta w hw
    · show va_K Y.1 vwCl (gt Y) s
      unfold gt
      rw [h1, h2]
      exact hK
  have C := CXof X rfl rfl hgI
  have hIKk : IK K.s := by rw [hKs]; exact hIK
  have hA : ∀ q, K.s.heap.size ≤ q → AL K q := fun _ h => h
  rw [lg_entry_eq]
  have main : PG K (AL K) (fun H => va_P X.1 vwCl [] H) (lw_Z below #[Value.ref b] s) 0 0 0 (lvE [.ref b] 8) [] := by
    refine PG_lv (lv' := [some (.ref b), none, none, none, none, none, none, none]) rfl ?_
    refine pz_new (ws := []) (q := 3) (C9 := RX6) (T := TX6) (N := 8) (ci := 6) (fs := [.null, .null, .int 0, .null, .int 0, .null, .null, .null]) C hA ⟨fun i j x y hi _ _ => absurd hi (by simp), fun k x hx => absurd hx (by simp)⟩ inX6c tyX6 tyX6_ok tw_16 tw_17 tw_1 rfl (fun j hj => by rcases (show j = 0 ∨ j = 1 ∨ j = 2 ∨ j = 3 ∨ j = 4 ∨ j = 5 ∨ j = 6 ∨ j = 7 by omega) with rfl | rfl | rfl | rfl | rfl | rfl | rfl | rfl <;> rfl) (by rw [hKR]; show _ ≤ 690320 ∧ _ ≤ 7030508; omega) dL_law_0 rfl (fun h0 hD_h0 => ?_)
    refine pq_dup (q := 4) C dL_law_3 rfl rfl ?_
    refine pz_callI (ws := []) (q := 7) C hA hIKk hKl hD_h0 (c_X6_init l X hgI) tw_18 tw_20 tw_19 tw_1 rfl ⟨by decide, by decide, by decide +kernel⟩ ⟨rfl, rfl⟩ (by rw [hKR]; exact ⟨Nat.le_of_ble_eq_true rfl, Nat.le_of_ble_eq_true rfl⟩) (by rw [hKR]; show _ ≤ 690320 ∧ _ ≤ 7030508; omega) rfl (Nat.le_of_ble_eq_true rfl) dL_law_4 rfl (fun u eu gu hDu => ?_)
    refine pq_astore_n (q := 8) C dL_law_7 rfl rfl (Nat.le_of_ble_eq_true rfl) rfl ?_
    refine PG_F (F' := fun H => va_P X.1 vwCl (gw (X.1, X.2.1, u) D0 P0) H) (fun H z => z) ?_
    refine pz_new (ws := gw (X.1, X.2.1, u) D0 P0) (q := 11) (C9 := RX6) (T := TX6) (N := 8) (ci := 6) (fs := [.null, .null, .int 0, .null, .int 0, .null, .null, .null]) C hA hDu inX6c tyX6 tyX6_ok tw_16 tw_17 tw_1 rfl (fun j hj => by rcases (show j = 0 ∨ j = 1 ∨ j = 2 ∨ j = 3 ∨ j = 4 ∨ j = 5 ∨ j = 6 ∨ j = 7 by omega) with rfl | rfl | rfl | rfl | rfl | rfl | rfl | rfl <;> rfl) (by rw [hKR]; show _ ≤ 690320 ∧ _ ≤ 7030508; omega) dL_law_8 rfl (fun h8 hD_h8 => ?_)
    refine pq_dup (q := 12) C dL_law_11 rfl rfl ?_
    refine pz_callI (ws := gw (X.1, X.2.1, u) D0 P0) (q := 15) C hA hIKk hKl hD_h8 (c_X6_init l X hgI) tw_18 tw_20 tw_19 tw_1 rfl ⟨by decide, by decide, by decide +kernel⟩ ⟨rfl, rfl⟩ (by rw [hKR]; exact ⟨Nat.le_of_ble_eq_true rfl, Nat.le_of_ble_eq_true rfl⟩) (by rw [hKR]; show _ ≤ 690320 ∧ _ ≤ 7030508; omega) rfl (Nat.le_of_ble_eq_true rfl) dL_law_12 rfl (fun v ev gv hDv => ?_)
    refine pq_astore_n (q := 16) C dL_law_15 rfl rfl (Nat.le_of_ble_eq_true rfl) rfl ?_
    refine PG_F (fun H z => two_F z) ?_
    subst eu
    subst ev
    obtain ⟨hap, hAu, hAv⟩ := two_D hDv
    have CX1 := CXof (X.1, X.2.1, u) rfl rfl gu
    have ZZ1 : ZA (AL K) K.s K.s.heap := by
      unfold AL
      rw [hKs]
      exact ⟨⟨hU _ (fun q hq z => absurd z (Nat.not_le.mpr hq)), hV _ (fun q hq z => absurd z (Nat.not_le.mpr hq)), hSR⟩, hNG⟩
    have H0 : LW l K (X.1, X.2.1, u) v b L xs := ⟨⟨hKl, hKR, CX1, CX1.mv gv, ZZ1, by rw [hKs]; exact hNC, ⟨hAu, fun _ z => z⟩, ⟨hAv, fun _ z => z⟩, hap, fun i j hi hj z => hap j i hj hi z.symm, hfl⟩, by rw [hKs]; exact hX, by rw [hKs]; exact hbl, by omega⟩
    refine PG_widen (ce' := 1000) (sl' := 10000) (by omega) (by omega) (law_all H0 (fun D E P R => ?_) RI_0 RI_0)
    intro H locs ls hP hS hl
    have hF : ∀ q ∈ locs, s.heap.size ≤ q.base := fun q hq => by rw [← hKs]; exact hS.2.2 q hq
    subst hKd
    exact va_forget hF (lw_ret (s := s) (d0 := s.drawn) (Drawn.sameBut.refl s.drawn lw_cs) hx hb hr hlocks dL_law_295)
  subst hKd
  exact main s.heap [] _ (fun k x hx => absurd hx (by simp)) va_S.rf (lvh_E (vs := [.ref b]) (n := 8) (Nat.le_of_ble_eq_true rfl))
