/-! the law's body: a call of both sides -/
def agr (E F : DT) : Prop := ∀ i, 6 ≤ i → i ≤ 12 → E i = F i
def off (E D : DT) : Prop := ∀ i, i < 6 ∨ 13 ≤ i → E i = D i
theorem agr_FX {D D1 : DT} (h : FX D D1) : agr D1 D := fun i a b => h i a (by omega)
theorem agr_clr {D D1 : DT} (h : agr D1 D) : agr (clr D1) (clr D) := fun i a b => by
  by_cases e : i = 6
  · subst e
    show up2 D1 6 0 0 6 = up2 D 6 0 0 6
    rw [up2_row, up2_row, h 6 a b]
  · show up2 D1 6 0 0 i = up2 D 6 0 0 i
    rw [up2_ne _ _ _ e, up2_ne _ _ _ e, h i a b]
theorem agr_up {D D1 : DT} {j : Nat} {f g : Nat → Int32} (h : agr D1 D) (hf : f = g) : agr (va_up D1 j f) (va_up D j g) := fun i a b => by
  by_cases e : i = j
  · subst e; rw [va_up_self, va_up_self, hf]
  · rw [va_up_ne _ _ e, va_up_ne _ _ e, h i a b]
theorem agr_up2 {D D1 : DT} {j k : Nat} {x y : Int32} (h : agr D1 D) (hj : 6 ≤ j) (hj2 : j ≤ 12) (hx : x = y) : agr (up2 D1 j k x) (up2 D j k y) := fun i a b => by
  by_cases e : i = j
  · subst e; rw [up2_row, up2_row, h i a b, hx]
  · rw [up2_ne _ _ _ e, up2_ne _ _ _ e, h i a b]
theorem agr_save {D D1 : DT} (h : agr D1 D) : agr (m_save D1) (m_save D) := by
  have e6 := h 6 (by decide) (by decide)
  have e7 := h 7 (by decide) (by decide)
  have e8 := h 8 (by decide) (by decide)
  unfold m_save
  exact agr_up2 (agr_up h (by rw [e6, e7, e8])) (by decide) (by decide) (by rw [e6])
theorem agr_keep {D D1 : DT} (h : agr D1 D) : agr (m_keep D1) (m_keep D) := by
  unfold m_keep
  exact agr_up2 (agr_up h (by rw [h 7 (by decide) (by decide), h 9 (by decide) (by decide)])) (by decide) (by decide) rfl
theorem agr_rest {D D1 : DT} (h : agr D1 D) : agr (m_rest D1) (m_rest D) := by
  unfold m_rest
  exact agr_up h (by rw [h 7 (by decide) (by decide), h 9 (by decide) (by decide)])
theorem agr_und {D D1 : DT} {s : Nat} (h : agr D1 D) : agr (m_und D1 s) (m_und D s) := by
  unfold m_und
  exact agr_up (agr_up2 h (by decide) (by decide) rfl) (by rw [h 7 (by decide) (by decide), h 8 (by decide) (by decide)])
theorem agr_rpl {D D1 : DT} {n : Nat} (h : agr D1 D) : agr (m_rpl D1 n) (m_rpl D n) := by
  unfold m_rpl
  exact agr_up2 (agr_up (agr_save (agr_clr h)) (by rw [h 7 (by decide) (by decide), h 12 (by decide) (by decide)])) (by decide) (by decide) rfl
theorem off_rf (D : DT) : off D D := fun _ _ => rfl
theorem off_up2 {E D : DT} {j k : Nat} {x : Int32} (h : off E D) (hj : 6 ≤ j) (hj2 : j ≤ 12) : off (up2 E j k x) D := fun i a => by
  rw [up2_ne _ _ _ (by omega)]
  exact h i a
theorem off_up {E D : DT} {j : Nat} {f : Nat → Int32} (h : off E D) (hj : 6 ≤ j) (hj2 : j ≤ 12) : off (va_up E j f) D := fun i a => by
  rw [va_up_ne _ _ (by omega)]
  exact h i a
theorem off_clr (D : DT) : off (clr D) D := off_up2 (off_rf D) (by decide) (by decide)
theorem off_save {E D : DT} (h : off E D) : off (m_save E) D := off_up2 (off_up h (by decide) (by decide)) (by decide) (by decide)
theorem off_keep {E D : DT} (h : off E D) : off (m_keep E) D := off_up2 (off_up h (by decide) (by decide)) (by decide) (by decide)
theorem off_rest {E D : DT} (h : off E D) : off (m_rest E) D := off_up h (by decide) (by decide)
theorem off_und {E D : DT} {s : Nat} (h : off E D) : off (m_und E s) D := off_up (off_up2 h (by decide) (by decide)) (by decide) (by decide)
theorem off_rpl (D : DT) (n : Nat) : off (m_rpl D n) D := off_up2 (off_up (off_save (off_clr D)) (by decide) (by decide)) (by decide) (by decide)
theorem kRpl_eq {D D1 : DT} {n : Nat} (h : D1 12 = D 12) : kRpl D1 n = kRpl D n := by unfold kRpl; rw [h]
/-- what the reference's call says -/
def zMQ {α : Type} (kk : Int32) (V : α) (E D D' : DT) (r : α) : Prop := D' 6 0 = kk ∧ (kk = 0 → r = V) ∧ ((kk = 0 ∧ Sx E D') ∨ (¬ kk = 0 ∧ Sx D D'))
theorem zMQ_mr {α : Type} {kk : Int32} {V r : α} {E D D' : DT} (h : mr kk V D E r D') (hE : E 6 0 = 0) : zMQ kk V E D D' r := by
  rcases h with ⟨h1, h2⟩ | ⟨h1, h2, h3⟩
  · exact ⟨by rw [h2, up2_self], fun z => absurd z h1, Or.inr ⟨h1, by rw [h2]; exact (Sx_rf D).up (Or.inl rfl)⟩⟩
  · exact ⟨by rw [h3, hE, h1], fun _ => h2, Or.inl ⟨h1, by rw [h3]; exact Sx_rf E⟩⟩
theorem zMQ_rd {α : Type} {kk : Int32} {V r : α} {D D' : DT} (h : rd kk V D r D') : zMQ kk V D D D' r := by
  obtain ⟨h1, h2, h3⟩ := h
  by_cases e : kk = 0
  · exact ⟨h1, h2, Or.inl ⟨e, h3⟩⟩
  · exact ⟨h1, h2, Or.inr ⟨e, h3⟩⟩
theorem zMQ_rp {α : Type} {kk : Int32} {V r : α} {E D D' : DT} (h : (¬ kk = 0 ∧ D' 6 0 = kk ∧ Sx D D') ∨ (kk = 0 ∧ D' 6 0 = 0 ∧ r = V ∧ Sx E D')) : zMQ kk V E D D' r := by
  rcases h with ⟨h1, h2, h3⟩ | ⟨h1, h2, h3, h4⟩
  · exact ⟨h2, fun z => absurd z h1, Or.inr ⟨h1, h3⟩⟩
  · exact ⟨h2.trans h1.symm, fun _ => h3, Or.inl ⟨h1, h4⟩⟩
theorem fin0 {D1 E0 E1 D2 : DT} {P1 : PT} {W : Nat} (h : RI D1 P1 E0 W) (he : agr E1 E0) (ho : off E1 D1) (hs : Sx E1 D2) : RI D2 P1 D2 W := by
  have hc : ∀ i, (i < 6 ∨ 13 ≤ i) → D2 i = D1 i := fun i hi => (funext fun k => hs i k (by omega)).trans (ho i hi)
  have hm : ∀ i, 7 ≤ i → i ≤ 12 → i ≠ 10 → i ≠ 11 → D2 i = E0 i := fun i a b c d => (funext fun k => hs i k (by omega)).trans (he i (by omega) b)
  have h6 : ∀ k, k ≠ 0 → k < 10 → D2 6 k = E0 6 k := fun k a b => (hs 6 k (by omega)).trans (congrFun (he 6 (by decide) (by decide)) k)
  refine RI_M (RI_D h ⟨by rw [hc 0 (by omega)], by rw [hc 0 (by omega)]⟩ (by rw [hc 2 (by omega)]) (hc 3 (by omega)) (fun i hi => hc i (by omega))) rfl (h6 3 (by decide) (by decide)) (h6 5 (by decide) (by decide)) (h6 9 (by decide) (by decide)) (hm 7 (by decide) (by decide) (by decide) (by decide)) (hm 8 (by decide) (by decide) (by decide) (by decide)) (hm 9 (by decide) (by decide) (by decide) (by decide)) (hm 12 (by decide) (by decide) (by decide) (by decide))
theorem law_next {α : Type} {kk : Int32} {V64 : Int64} {V rb : α} {E0 E1 D D1 D2 : DT} {P1 : PT} {W : Nat} {r : Int32} (hw : WQ kk V64 D E0 D W r D1 P1) (hm : zMQ kk V E1 D1 D2 rb) (he : agr E1 E0) (ho : off E1 D1) : RI D2 P1 D2 (W + 130) := by
  obtain ⟨h1, h2, h3⟩ := hw
  obtain ⟨g1, g2, g3⟩ := hm
  rcases h3 with ⟨a, b, c⟩ | ⟨a, c⟩
  · rcases g3 with ⟨e, f⟩ | ⟨e, f⟩
    · exact fin0 c he ho f
    · exact absurd a e
  · rcases g3 with ⟨e, f⟩ | ⟨e, f⟩
    · exact absurd e a
    · exact fin0 c (agr_FX h2) (off_rf D1) f
theorem WQ_v {kk : Int32} {V64 : Int64} {M E D D' : DT} {P' : PT} {W : Nat} {r : Int32} (hw : WQ kk V64 M E D W r D' P') (hr : r = 0) : kk = 0 ∧ P'.2 = V64 := by
  obtain ⟨h1, h2, h3⟩ := hw
  rcases h3 with ⟨a, b, c⟩ | ⟨a, c⟩
  · exact ⟨a, b⟩
  · exact absurd (h1.symm.trans hr) a
theorem law_pre {D : DT} {P : PT} {M : DT} {W : Nat} (h : RI D P M W) (hW : W + 200 < 2 ^ 29) : (∃ s, s ≤ 5 ∧ M 6 3 = nI s) ∧ fl (M 7) ∧ (∀ m, m ≤ 126 → dl (M 7) m) ∧ (∀ v, v < 3 → seen (M 7) v) ∧ shK (M 7) ∧ ∃ n, n ≤ 60 ∧ M 6 9 = nI n := by
  obtain ⟨⟨G, A, wr, nx, hw, hR, hT, hI, hAM⟩, ⟨s, hs5, hs3, -⟩, -, -, -, n, hn, hn9, -⟩ := h
  exact ⟨⟨s, hs5, hs3⟩, fun v hv => (hR.2.2.2.2.1 v hv).2.2.2.2.2.2.2.1, fun m hm => ⟨wr, hR.2.1, by omega⟩, fun v hv => Rp_seen hR hv, Rp_shK hR, n, hn, hn9⟩
theorem lg_eq {x y : Int64} (h : x = y) : lg_cmp x y = 0 := by
  subst h
  unfold lg_cmp
  rw [if_neg (by rw [gt_iff_lt, Int64.lt_iff_toInt_lt]; omega), if_pos rfl]
theorem ite01 {p : Prop} [Decidable p] {r : Int32} (h : r = if p then 1 else 0) (h0 : ¬ r = 0) : r = 1 := by
  subst h
  by_cases q : p
  · rw [if_pos q]
  · rw [if_neg q] at h0; exact absurd rfl h0
section LawRows2
variable {K : KT} {X : XT} {cc : ByteArray} {own : String} {w0 : Cond} {nL : Nat} {rt : Option FieldType} {Q : State → Prop} {ce sl pc q mc ms index maxL n : Nat} {lv : List (Option Value)} {st rest As : List Value} {D : DT} {P : PT} {y : MethodName} {bytes : ByteArray} {ret : Option FieldType} {rm : Room} {l : Launch}
/-- a call that never throws, though it might by its class's code -/
theorem pv_callVlF {b ci : Nat} {cq : vw_C} {post : Int64 → DT → PT → Prop} (C : CX K X cc own w0 nL rt) (Z : ZX X K.s.heap.size K.s K.s.heap) (hKl : K.2.1 = l) (hM : XG l X y (.code y bytes maxL ret :: AW) rm (.ref (X.2.2 b) :: As) (qL X post) (fun _ _ _ => False) D P mc ms) (hL : Cond.methodLink own index y ∈ AW) (hk : kd b = ci) (hci : ci < 8) (hcq : vwCl[ci]? = some cq) (M : MM cq.1 y bytes maxL ret n) (hrm : rm.cells = mc ∧ rm.slots = ms) (hR : rm.frames + 1 ≤ K.R.frames ∧ 8 + (maxL + 11) + rm.locals ≤ K.R.locals) (hcs : ce + mc ≤ K.R.cells ∧ sl + ms ≤ K.R.slots) (hn : As.length = n) (hlv : lv.length = nL) (hst : st = As.reverse ++ .ref (X.2.2 b) :: rest) (hsum : (rest.map fun v => v.category).sum ≤ 8) (d : decode cc pc = .ok (.invokevirtual index, 3)) (hq : pc + 3 = q) (k : ∀ (r : Int64) (D' : DT) (P' : PT), post r D' P' → PV K X Q (ce + mc) (sl + ms) q lv (.long r :: rest) D' P') : PV K X Q ce sl pc lv st D P := by
  subst hq; subst hst; subst hKl; intro H locs ls hP hS hl
  obtain ⟨fs, hfs⟩ := gc_obj (X := X) (D := D) (P := P) hk hci
  exact vx_calll (vx_runV (As := As) (rest := rest) (nL := nL) ⟨C.hx, C.hb, C.hn, C.hown, C.hts⟩ (hM H.size) (cwV n C.hts (gi_V hL M) rfl hrm.1 hrm.2 ⟨M.2.2.2.2.1, by rw [M.2.2.2.2.1]; exact M.2.2.2.2.2.1.1, by rw [M.2.2.2.2.1]; exact M.2.2.2.2.2.1.2, M.2.2.2.2.2.2⟩ hR) ⟨pz_blind, va_recv C.hK hP (ci := ci) (q0 := b) hcq ((gw_at (kd_lt hk (by omega))).trans (congrArg (fun e => some (X.2.2 b, e)) hfs)), fun U hU hW => ⟨rfl, ⟨by rw [hU], by rw [hU]; exact hP, va_K.moved hW.alike C.hK, C.hI⟩, by rw [hU]; exact Z.go hW hS⟩⟩ rfl hn (hl.1.trans hlv) rfl (lv_room hsum) d hcs) hS (fun q _ h => gA_mono hS.1 h) (fun q h => gA_mono hS.1 h) (fun q _ h => gA_mono hS.1 h) (fun E ce9 q9 u t H1 locs1 ht hvm _ hB hz hk hS1 hc9 hv9 hcl9 => absurd hB.1 id) (fun r u t H1 locs1 ht hvm hw hB hz hk hS1 => k r u.1 u.2 hw H1 locs1 ls (ht ▸ hB.1) hS1 hl)
end LawRows2
def wL : Cond := Cond.initialized "NappingViewsLaw"
/-- what holds all through the law's body -/
def LC (l : Launch) (K : KT) (X : XT) (b L : Nat) (xs : Nat → Int32) : Prop := K.2.1 = l ∧ K.R = room_1 ∧ CX K X cL_law RL wL 9 (some .boolean) ∧ ZX X K.s.heap.size K.s K.s.heap ∧ NC K.s ∧ l.stackTraces = false ∧ va_X b L xs K.s K.s.heap ∧ b < K.s.heap.size ∧ ¬ gA X K.s.heap.size b ∧ L ≤ 2048
theorem room_c : room_1.cells = 601024 ∧ room_1.slots = 7293034 := ⟨rfl, rfl⟩
