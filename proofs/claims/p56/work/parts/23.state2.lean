set_option maxRecDepth 100000 in
set_option maxHeartbeats 4000000 in
theorem c_X3_addRow (l : Launch) (X : XT) (D : DT) (P : PT) (B : Nat) (hk : kd B = 3) (row : Nat → Int32) (G A : Nat → Nat → Int32) (wr : Nat) (nx : Nat → Nat) (h : Rp D B row G A wr nx) (ht : TR D B row) (hT : ∀ v, v < 3 → wr ≤ nx v + 30) (hw : wr + 2 < 2 ^ 29) (p : Nat) (hp : p < 16) (g : Nat) (hg : g < 4) (a : Int32) (hfree : row p = 0) : CG l X yX3_addRow (.code yX3_addRow cX3_addRow 4 none :: AW) ({ frames := 4, cells := 0, slots := 0, locals := 144 } : Room) [.ref (X.2.2 B), .int (nI p), .int (nI g), .int a] (qV X (fun D' P' => (∀ i, (i < B ∨ B + 39 ≤ i) → D' i = D i) ∧ (∃ G' A' nx', Rp D' B (m_ins row p (nI g) a) G' A' (wr + 1) nx') ∧ TR D' B (m_ins row p (nI g) a) ∧ P = P')) D P 0 0 := by
  refine cg_of (by decide +kernel) (Nat.le_of_ble_eq_true rfl) ?_
  intro K hKl hKR C
  refine PV_lv (lv' := [some (.ref (X.2.2 B)), some (.int (nI p)), some (.int (nI g)), some (.int a)]) rfl ?_
  refine pv_aload_n (q := 1) C dX3_addRow_0 rfl rfl rfl ?_ 
  refine pg_3_0 (q := 4) C hk tw_128 dX3_addRow_1 rfl (fun k1 => ?_) 
  refine pg_4_0 (q := 7) C k1 tw_37 dX3_addRow_4 rfl (fun k4 => ?_) 
  refine pv_iload_n (q := 8) C dX3_addRow_7 rfl rfl rfl ?_ 
  refine pv_iload_n (q := 9) C dX3_addRow_8 rfl rfl rfl ?_ 
  refine pv_iast (q := 10) (j := p) C (iln_9 k4) rfl (by omega) dX3_addRow_9 rfl (fun D9 hD9 => ?_) 
  refine pv_aload_n (q := 11) C dX3_addRow_10 rfl rfl rfl ?_ 
  refine pg_3_0 (q := 14) C hk tw_128 dX3_addRow_11 rfl (fun k11 => ?_) 
  refine pg_4_1 (q := 17) C k11 tw_41 dX3_addRow_14 rfl (fun k14 => ?_) 
  refine pv_iload_n (q := 18) C dX3_addRow_17 rfl rfl rfl ?_ 
  refine pv_iload_n (q := 19) C dX3_addRow_18 rfl rfl rfl ?_ 
  refine pv_iast (q := 20) (j := p) C (iln_9 k14) rfl (by omega) dX3_addRow_19 rfl (fun D19 hD19 => ?_) 
  have h19 : Rp D19 B row G A wr nx := Rp_cong h (fun _ _ => rfl) (fun j _ _ => by rw [hD19, hD9, up2_ne _ _ _ (by omega), up2_ne _ _ _ (by omega)]) (by rw [hD19, hD9, up2_ne _ _ _ (by omega), up2_ne _ _ _ (by omega)]) (fun k _ => by rw [hD19, hD9]; refine ⟨?_, ?_, ?_⟩ <;> rw [up2_ne _ _ _ (by omega), up2_ne _ _ _ (by omega)]) (fun v hv => ⟨fun k _ _ => by rw [hD19, hD9, up2_ne _ _ _ (by omega), up2_ne _ _ _ (by omega)], fun g _ => ⟨by rw [hD19, hD9, up2_ne _ _ _ (by omega), up2_ne _ _ _ (by omega)], fun k _ => by rw [hD19, hD9, up2_ne _ _ _ (by omega), up2_ne _ _ _ (by omega)]⟩⟩)
  have rtn : ∀ k, k ≠ p → k ≠ 16 + p → va_up (va_up row p (nI g + 1)) (16 + p) a k = row k := fun k x y => by rw [va_up_ne _ _ y, va_up_ne _ _ x]
  refine pv_aload_n (q := 21) C dX3_addRow_20 rfl rfl rfl ?_ 
  refine pv_iload_n (q := 22) C dX3_addRow_21 rfl rfl rfl ?_ 
  refine pv_iload_n (q := 23) C dX3_addRow_22 rfl rfl rfl ?_ 
  refine pv_iconst (q := 24) (v := 1) C dX3_addRow_23 rfl (by decide) ?_ 
  refine pv_callVv (q := 27) C hKl (c_X3_writeDelta l X D19 P B hk row G A wr nx h19 (va_up (va_up row p (nI g + 1)) (16 + p) a) (va_up (G wr) p (nI g)) (va_up (A wr) p a) p g a 1 (fun v hv => by have := hT v hv; omega) (by omega) hp hg (fun q hq hne => ⟨va_up_ne _ _ hne, va_up_ne _ _ hne⟩) (Or.inl ⟨rfl, by rw [(h.2.2.2.1 p hp).1, hfree]; rfl, va_up_self _ _ _, va_up_self _ _ _⟩) (fun k hk32 => rtn k (by omega) (by omega)) (fun q hq => by
    by_cases e : q = p
    · subst e
      rw [va_up_self, va_up_ne _ _ (by omega), va_up_self, va_up_self, va_up_self]
      exact ⟨(i32_mp _).symm, fun _ => rfl, g + 1, by omega, nI_1 g⟩
    · rw [va_up_ne _ _ e, va_up_ne _ _ e, rtn q e (by omega), rtn (16 + q) (by omega) (by omega)]
      exact h.2.2.2.1 q hq)) tw_631 hk (by decide) rfl mm_X3_writeDelta ⟨rfl, rfl⟩ (by rw [hKR]; exact ⟨Nat.le_of_ble_eq_true rfl, Nat.le_of_ble_eq_true rfl⟩) (by rw [hKR]; exact ⟨Nat.le_of_ble_eq_true rfl, Nat.le_of_ble_eq_true rfl⟩) rfl rfl rfl (Nat.le_of_ble_eq_true rfl) dX3_addRow_24 rfl (fun D24 P24 hp24 => ?_) 
  obtain ⟨s1, R1, rfl⟩ := hp24
  refine pv_aload_n (q := 28) C dX3_addRow_27 rfl rfl rfl ?_ 
  refine pv_callVv (q := 31) C hKl (c_X3_wakeViewsTooFarBehind l X D24 P B hk (rowT (m_note (va_up (va_up row p (nI g + 1)) (16 + p) a) wr a) (awk row)) (hx G wr (va_up (G wr) p (nI g))) (hx A wr (va_up (A wr) p a)) (wr + 1) (nxa row (wr + 1) nx) R1) tw_641 hk (by decide) rfl mm_X3_wakeViewsTooFarBehind ⟨rfl, rfl⟩ (by rw [hKR]; exact ⟨Nat.le_of_ble_eq_true rfl, Nat.le_of_ble_eq_true rfl⟩) (by rw [hKR]; exact ⟨Nat.le_of_ble_eq_true rfl, Nat.le_of_ble_eq_true rfl⟩) rfl rfl rfl (Nat.le_of_ble_eq_true rfl) dX3_addRow_28 rfl (fun D28 P28 hp28 => ?_) 
  obtain ⟨s2, ⟨nx2, R2⟩, rfl⟩ := hp28
  exact pv_vret C (by
      have em : m_ins row p (nI g) a = m_far (rowT (m_note (va_up (va_up row p (nI g + 1)) (16 + p) a) wr a) (awk row)) := settle_eq (by rw [rtn _ (by omega) (by omega)]; exact h.2.1) (by omega) (fun k _ _ => rtn k (by omega) (by omega))
      refine ⟨fun i hi => ?_, ⟨_, _, nx2, by rw [em]; exact R2⟩, fun q hq => ?_, rfl⟩
      · rw [s2 i (by omega), s1 i (by omega), hD19, hD9, up2_ne _ _ _ (by omega), up2_ne _ _ _ (by omega)]
      · rw [s2 _ (by omega), s1 _ (by omega), s2 _ (by omega), s1 _ (by omega), hD19, hD9, up2_ne _ _ _ (by omega), up2_row, up2_row, up2_ne _ _ _ (by omega)]
        unfold m_ins
        rw [settle_lo (by omega), settle_lo (by omega)]
        by_cases e : q = p
        · subst e
          rw [va_up_self, va_up_ne _ _ (by omega), va_up_self, va_up_self, va_up_self]
          exact ⟨(i32_mp _).symm, fun _ => rfl⟩
        · rw [va_up_ne _ _ e, va_up_ne _ _ e, rtn q e (by omega), rtn (16 + q) (by omega) (by omega)]
          exact ht q hq) (by decide) (by decide) dX3_addRow_31
set_option maxRecDepth 100000 in
set_option maxHeartbeats 4000000 in
theorem c_X3_removeRow (l : Launch) (X : XT) (D : DT) (P : PT) (B : Nat) (hk : kd B = 3) (row : Nat → Int32) (G A : Nat → Nat → Int32) (wr : Nat) (nx : Nat → Nat) (h : Rp D B row G A wr nx) (ht : TR D B row) (hT : ∀ v, v < 3 → wr ≤ nx v + 30) (hw : wr + 2 < 2 ^ 29) (p : Nat) (hp : p < 16) (hocc : row p ≠ 0) : CG l X yX3_removeRow (.code yX3_removeRow cX3_removeRow 3 none :: AW) ({ frames := 4, cells := 0, slots := 0, locals := 144 } : Room) [.ref (X.2.2 B), .int (nI p)] (qV X (fun D' P' => (∀ i, (i < B ∨ B + 39 ≤ i) → D' i = D i) ∧ (∃ G' A' nx', Rp D' B (m_del row p) G' A' (wr + 1) nx') ∧ TR D' B (m_del row p) ∧ P = P')) D P 0 0 := by
  refine cg_of (by decide +kernel) (Nat.le_of_ble_eq_true rfl) ?_
  intro K hKl hKR C
  refine PV_lv (lv' := [some (.ref (X.2.2 B)), some (.int (nI p)), none]) rfl ?_
  obtain ⟨kg, hkg, ekg⟩ := (h.2.2.2.1 p hp).2.2
  have hk1 : 1 ≤ kg := i32_z hkg (by rw [← ekg]; exact hocc)
  have eg : row p - 1 = nI (kg - 1) := by rw [ekg, show (1 : Int32) = nI 1 from rfl, pk_sub hk1]
  refine pv_aload_n (q := 1) C dX3_removeRow_0 rfl rfl rfl ?_ 
  refine pg_3_0 (q := 4) C hk tw_128 dX3_removeRow_1 rfl (fun k1 => ?_) 
  refine pg_4_0 (q := 7) C k1 tw_37 dX3_removeRow_4 rfl (fun k4 => ?_) 
  refine pv_iload_n (q := 8) C dX3_removeRow_7 rfl rfl rfl ?_ 
  refine pv_iald (q := 9) (j := p) C (iln_9 k4) rfl (by omega) dX3_removeRow_8 rfl ?_ 
  rw [(ht p hp).1, eg]
  refine pv_istore_n (q := 10) C dX3_removeRow_9 rfl rfl (Nat.le_of_ble_eq_true rfl) rfl ?_ 
  refine pv_aload_n (q := 11) C dX3_removeRow_10 rfl rfl rfl ?_ 
  refine pg_3_0 (q := 14) C hk tw_128 dX3_removeRow_11 rfl (fun k11 => ?_) 
  refine pg_4_0 (q := 17) C k11 tw_37 dX3_removeRow_14 rfl (fun k14 => ?_) 
  refine pv_iload_n (q := 18) C dX3_removeRow_17 rfl rfl rfl ?_ 
  refine pv_iconst (q := 19) (v := (-1)) C dX3_removeRow_18 rfl (by decide) ?_ 
  refine pv_iast (q := 20) (j := p) C (iln_9 k14) rfl (by omega) dX3_removeRow_19 rfl (fun D19 hD19 => ?_) 
  have h19 : Rp D19 B row G A wr nx := Rp_cong h (fun _ _ => rfl) (fun j _ _ => by rw [hD19, up2_ne _ _ _ (by omega)]) (by rw [hD19, up2_ne _ _ _ (by omega)]) (fun k _ => by rw [hD19]; refine ⟨?_, ?_, ?_⟩ <;> rw [up2_ne _ _ _ (by omega)]) (fun v hv => ⟨fun k _ _ => by rw [hD19, up2_ne _ _ _ (by omega)], fun g _ => ⟨by rw [hD19, up2_ne _ _ _ (by omega)], fun k _ => by rw [hD19, up2_ne _ _ _ (by omega)]⟩⟩)
  have rtn : ∀ k, k ≠ p → k ≠ 16 + p → va_up (va_up row p 0) (16 + p) 0 k = row k := fun k x y => by rw [va_up_ne _ _ y, va_up_ne _ _ x]
  refine pv_aload_n (q := 21) C dX3_removeRow_20 rfl rfl rfl ?_ 
  refine pv_iload_n (q := 22) C dX3_removeRow_21 rfl rfl rfl ?_ 
  refine pv_aload_n (q := 23) C dX3_removeRow_22 rfl rfl rfl ?_ 
  refine pg_3_0 (q := 26) C hk tw_128 dX3_removeRow_23 rfl (fun k23 => ?_) 
  refine pg_4_1 (q := 29) C k23 tw_41 dX3_removeRow_26 rfl (fun k26 => ?_) 
  refine pv_iload_n (q := 30) C dX3_removeRow_29 rfl rfl rfl ?_ 
  refine pv_iald (q := 31) (j := p) C (iln_9 k26) rfl (by omega) dX3_removeRow_30 rfl ?_ 
  rw [show D19 (B + 1 + 2) p = row (16 + p) by rw [hD19, up2_ne _ _ _ (by omega), (ht p hp).2 hocc]]
  refine pv_iconst (q := 32) (v := (-1)) C dX3_removeRow_31 rfl (by decide) ?_ 
  refine pv_callVv (q := 35) C hKl (c_X3_writeDelta l X D19 P B hk row G A wr nx h19 (va_up (va_up row p 0) (16 + p) 0) (va_up (G wr) p (-1)) (A wr) p (kg - 1) (row (16 + p)) (-1) (fun v hv => by have := hT v hv; omega) (by omega) hp (by omega) (fun q hq hne => ⟨va_up_ne _ _ hne, rfl⟩) (Or.inr ⟨rfl, by rw [(h.2.2.2.1 p hp).1, eg], (h.2.2.2.1 p hp).2.1 hocc, va_up_self _ _ _⟩) (fun k hk32 => rtn k (by omega) (by omega)) (fun q hq => by
    by_cases e : q = p
    · subst e
      rw [va_up_self, va_up_ne _ _ (by omega), va_up_self]
      exact ⟨rfl, fun z => absurd rfl z, 0, by omega, nI_0.symm⟩
    · rw [va_up_ne _ _ e, rtn q e (by omega), rtn (16 + q) (by omega) (by omega)]
      exact h.2.2.2.1 q hq)) tw_631 hk (by decide) rfl mm_X3_writeDelta ⟨rfl, rfl⟩ (by rw [hKR]; exact ⟨Nat.le_of_ble_eq_true rfl, Nat.le_of_ble_eq_true rfl⟩) (by rw [hKR]; exact ⟨Nat.le_of_ble_eq_true rfl, Nat.le_of_ble_eq_true rfl⟩) rfl rfl rfl (Nat.le_of_ble_eq_true rfl) dX3_removeRow_32 rfl (fun D32 P32 hp32 => ?_) 
  obtain ⟨s1, R1, rfl⟩ := hp32
  refine pv_aload_n (q := 36) C dX3_removeRow_35 rfl rfl rfl ?_ 
  refine pv_callVv (q := 39) C hKl (c_X3_wakeViewsTooFarBehind l X D32 P B hk (rowT (m_note (va_up (va_up row p 0) (16 + p) 0) wr (row (16 + p))) (awk row)) (hx G wr (va_up (G wr) p (-1))) (hx A wr (A wr)) (wr + 1) (nxa row (wr + 1) nx) R1) tw_641 hk (by decide) rfl mm_X3_wakeViewsTooFarBehind ⟨rfl, rfl⟩ (by rw [hKR]; exact ⟨Nat.le_of_ble_eq_true rfl, Nat.le_of_ble_eq_true rfl⟩) (by rw [hKR]; exact ⟨Nat.le_of_ble_eq_true rfl, Nat.le_of_ble_eq_true rfl⟩) rfl rfl rfl (Nat.le_of_ble_eq_true rfl) dX3_removeRow_36 rfl (fun D36 P36 hp36 => ?_) 
  obtain ⟨s2, ⟨nx2, R2⟩, rfl⟩ := hp36
  exact pv_vret C (by
      have em : m_del row p = m_far (rowT (m_note (va_up (va_up row p 0) (16 + p) 0) wr (row (16 + p))) (awk row)) := settle_eq (by rw [rtn _ (by omega) (by omega)]; exact h.2.1) (by omega) (fun k _ _ => rtn k (by omega) (by omega))
      refine ⟨fun i hi => ?_, ⟨_, _, nx2, by rw [em]; exact R2⟩, fun q hq => ?_, rfl⟩
      · rw [s2 i (by omega), s1 i (by omega), hD19, up2_ne _ _ _ (by omega)]
      · rw [s2 _ (by omega), s1 _ (by omega), s2 _ (by omega), s1 _ (by omega), hD19, up2_row, up2_ne _ _ _ (by omega)]
        unfold m_del
        rw [settle_lo (by omega), settle_lo (by omega)]
        by_cases e : q = p
        · subst e
          rw [va_up_self, va_up_ne _ _ (by omega), va_up_self]
          exact ⟨rfl, fun z => absurd rfl z⟩
        · rw [va_up_ne _ _ e, rtn q e (by omega), rtn (16 + q) (by omega) (by omega)]
          exact ht q hq) (by decide) (by decide) dX3_removeRow_39
set_option maxRecDepth 100000 in
set_option maxHeartbeats 4000000 in
theorem c_X3_replaceRow (l : Launch) (X : XT) (D : DT) (P : PT) (B : Nat) (hk : kd B = 3) (row : Nat → Int32) (G A : Nat → Nat → Int32) (wr : Nat) (nx : Nat → Nat) (h : Rp D B row G A wr nx) (ht : TR D B row) (hT : ∀ v, v < 3 → wr ≤ nx v + 30) (hw : wr + 2 < 2 ^ 29) (p : Nat) (hp : p < 16) (g : Nat) (hg : g < 4) (a : Int32) (hocc : row p ≠ 0) : CG l X yX3_replaceRow (.code yX3_replaceRow cX3_replaceRow 4 none :: AW) ({ frames := 4, cells := 0, slots := 0, locals := 144 } : Room) [.ref (X.2.2 B), .int (nI p), .int (nI g), .int a] (qV X (fun D' P' => (∀ i, (i < B ∨ B + 39 ≤ i) → D' i = D i) ∧ (∃ G' A' nx', Rp D' B (m_rep row p (nI g + 1) a) G' A' (wr + 2) nx') ∧ TR D' B (m_rep row p (nI g + 1) a) ∧ P = P')) D P 0 0 := by
  refine cg_of (by decide +kernel) (Nat.le_of_ble_eq_true rfl) ?_
  intro K hKl hKR C
  refine PV_lv (lv' := [some (.ref (X.2.2 B)), some (.int (nI p)), some (.int (nI g)), some (.int a)]) rfl ?_
  obtain ⟨kg, hkg, ekg⟩ := (h.2.2.2.1 p hp).2.2
  have hk1 : 1 ≤ kg := i32_z hkg (by rw [← ekg]; exact hocc)
  have eg : row p - 1 = nI (kg - 1) := by rw [ekg, show (1 : Int32) = nI 1 from rfl, pk_sub hk1]
  have rt1 : ∀ k, k ≠ p → va_up row p 0 k = row k := fun k x => va_up_ne _ _ x
  have g1 : (hx G wr (va_up (G wr) p (-1))) (wr + 1) = va_up (G wr) p (-1) := by unfold hx; rw [if_pos rfl]
  have a1 : (hx A wr (A wr)) (wr + 1) = A wr := by unfold hx; rw [if_pos rfl]
  refine pv_aload_n (q := 1) C dX3_replaceRow_0 rfl rfl rfl ?_ 
  refine pv_aload_n (q := 2) C dX3_replaceRow_1 rfl rfl rfl ?_ 
  refine pg_3_0 (q := 5) C hk tw_128 dX3_replaceRow_2 rfl (fun k2 => ?_) 
  refine pg_4_0 (q := 8) C k2 tw_37 dX3_replaceRow_5 rfl (fun k5 => ?_) 
  refine pv_iload_n (q := 9) C dX3_replaceRow_8 rfl rfl rfl ?_ 
  refine pv_iald (q := 10) (j := p) C (iln_9 k5) rfl (by omega) dX3_replaceRow_9 rfl ?_ 
  rw [(ht p hp).1, eg]
  refine pv_aload_n (q := 11) C dX3_replaceRow_10 rfl rfl rfl ?_ 
  refine pg_3_0 (q := 14) C hk tw_128 dX3_replaceRow_11 rfl (fun k11 => ?_) 
  refine pg_4_1 (q := 17) C k11 tw_41 dX3_replaceRow_14 rfl (fun k14 => ?_) 
  refine pv_iload_n (q := 18) C dX3_replaceRow_17 rfl rfl rfl ?_ 
  refine pv_iald (q := 19) (j := p) C (iln_9 k14) rfl (by omega) dX3_replaceRow_18 rfl ?_ 
  rw [(ht p hp).2 hocc]
  refine pv_iconst (q := 20) (v := (-1)) C dX3_replaceRow_19 rfl (by decide) ?_ 
  refine pv_callVv (q := 23) C hKl (c_X3_writeDelta l X D P B hk row G A wr nx h (va_up row p 0) (va_up (G wr) p (-1)) (A wr) p (kg - 1) (row (16 + p)) (-1) (fun v hv => by have := hT v hv; omega) (by omega) hp (by omega) (fun q hq hne => ⟨va_up_ne _ _ hne, rfl⟩) (Or.inr ⟨rfl, by rw [(h.2.2.2.1 p hp).1, eg], (h.2.2.2.1 p hp).2.1 hocc, va_up_self _ _ _⟩) (fun k hk32 => rt1 k (by omega)) (fun q hq => by
    by_cases e : q = p
    · subst e
      rw [va_up_self, va_up_self]
      exact ⟨rfl, fun z => absurd rfl z, 0, by omega, nI_0.symm⟩
    · rw [va_up_ne _ _ e, rt1 q e, rt1 (16 + q) (by omega)]
      exact h.2.2.2.1 q hq)) tw_631 hk (by decide) rfl mm_X3_writeDelta ⟨rfl, rfl⟩ (by rw [hKR]; exact ⟨Nat.le_of_ble_eq_true rfl, Nat.le_of_ble_eq_true rfl⟩) (by rw [hKR]; exact ⟨Nat.le_of_ble_eq_true rfl, Nat.le_of_ble_eq_true rfl⟩) rfl rfl rfl (Nat.le_of_ble_eq_true rfl) dX3_replaceRow_20 rfl (fun D20 P20 hp20 => ?_) 
  obtain ⟨s1, R1, rfl⟩ := hp20
  refine pv_aload_n (q := 24) C dX3_replaceRow_23 rfl rfl rfl ?_ 
  refine pg_3_0 (q := 27) C hk tw_128 dX3_replaceRow_24 rfl (fun k24 => ?_) 
  refine pg_4_0 (q := 30) C k24 tw_37 dX3_replaceRow_27 rfl (fun k27 => ?_) 
  refine pv_iload_n (q := 31) C dX3_replaceRow_30 rfl rfl rfl ?_ 
  refine pv_iload_n (q := 32) C dX3_replaceRow_31 rfl rfl rfl ?_ 
  refine pv_iast (q := 33) (j := p) C (iln_9 k27) rfl (by omega) dX3_replaceRow_32 rfl (fun D32 hD32 => ?_) 
  refine pv_aload_n (q := 34) C dX3_replaceRow_33 rfl rfl rfl ?_ 
  refine pg_3_0 (q := 37) C hk tw_128 dX3_replaceRow_34 rfl (fun k34 => ?_) 
  refine pg_4_1 (q := 40) C k34 tw_41 dX3_replaceRow_37 rfl (fun k37 => ?_) 
  refine pv_iload_n (q := 41) C dX3_replaceRow_40 rfl rfl rfl ?_ 
  refine pv_iload_n (q := 42) C dX3_replaceRow_41 rfl rfl rfl ?_ 
  refine pv_iast (q := 43) (j := p) C (iln_9 k37) rfl (by omega) dX3_replaceRow_42 rfl (fun D42 hD42 => ?_) 
  have h42 : Rp D42 B (rowT (m_note (va_up row p 0) wr (row (16 + p))) (awk row)) (hx G wr (va_up (G wr) p (-1))) (hx A wr (A wr)) (wr + 1) (nxa row (wr + 1) nx) := Rp_cong R1 (fun _ _ => rfl) (fun j _ _ => by rw [hD42, hD32, up2_ne _ _ _ (by omega), up2_ne _ _ _ (by omega)]) (by rw [hD42, hD32, up2_ne _ _ _ (by omega), up2_ne _ _ _ (by omega)]) (fun k _ => by rw [hD42, hD32]; refine ⟨?_, ?_, ?_⟩ <;> rw [up2_ne _ _ _ (by omega), up2_ne _ _ _ (by omega)]) (fun v hv => ⟨fun k _ _ => by rw [hD42, hD32, up2_ne _ _ _ (by omega), up2_ne _ _ _ (by omega)], fun g _ => ⟨by rw [hD42, hD32, up2_ne _ _ _ (by omega), up2_ne _ _ _ (by omega)], fun k _ => by rw [hD42, hD32, up2_ne _ _ _ (by omega), up2_ne _ _ _ (by omega)]⟩⟩)
  have rt2 : ∀ k, k ≠ p → k ≠ 16 + p → (va_up (va_up (rowT (m_note (va_up row p 0) wr (row (16 + p))) (awk row)) p (nI g + 1)) (16 + p) a) k = (rowT (m_note (va_up row p 0) wr (row (16 + p))) (awk row)) k := fun k x y => by rw [va_up_ne _ _ y, va_up_ne _ _ x]
  refine pv_aload_n (q := 44) C dX3_replaceRow_43 rfl rfl rfl ?_ 
  refine pv_iload_n (q := 45) C dX3_replaceRow_44 rfl rfl rfl ?_ 
  refine pv_iload_n (q := 46) C dX3_replaceRow_45 rfl rfl rfl ?_ 
  refine pv_iconst (q := 47) (v := 1) C dX3_replaceRow_46 rfl (by decide) ?_ 
  refine pv_callVv (q := 50) C hKl (c_X3_writeDelta l X D42 P B hk (rowT (m_note (va_up row p 0) wr (row (16 + p))) (awk row)) (hx G wr (va_up (G wr) p (-1))) (hx A wr (A wr)) (wr + 1) (nxa row (wr + 1) nx) h42 (va_up (va_up (rowT (m_note (va_up row p 0) wr (row (16 + p))) (awk row)) p (nI g + 1)) (16 + p) a) (va_up (G wr) p (nI g)) (va_up (A wr) p a) p g a 1 (fun v hv => by have := hT v hv; unfold nxa; split <;> omega) (by omega) hp hg (fun q hq hne => by rw [g1, a1]; exact ⟨by rw [va_up_ne _ _ hne, va_up_ne _ _ hne], va_up_ne _ _ hne⟩) (Or.inl ⟨rfl, by rw [g1, va_up_self], va_up_self _ _ _, va_up_self _ _ _⟩) (fun k hk32 => rt2 k (by omega) (by omega)) (fun q hq => by
    by_cases e : q = p
    · subst e
      rw [va_up_self, va_up_ne _ _ (by omega), va_up_self, va_up_self, va_up_self]
      exact ⟨(i32_mp _).symm, fun _ => rfl, g + 1, by omega, nI_1 g⟩
    · rw [va_up_ne _ _ e, va_up_ne _ _ e, rt2 q e (by omega), rt2 (16 + q) (by omega) (by omega), rowT_out (by omega), rowT_out (by omega), m_note_o (by omega) (by omega), m_note_o (by omega) (by omega), rt1 q e, rt1 (16 + q) (by omega)]
      exact h.2.2.2.1 q hq)) tw_631 hk (by decide) rfl mm_X3_writeDelta ⟨rfl, rfl⟩ (by rw [hKR]; exact ⟨Nat.le_of_ble_eq_true rfl, Nat.le_of_ble_eq_true rfl⟩) (by rw [hKR]; exact ⟨Nat.le_of_ble_eq_true rfl, Nat.le_of_ble_eq_true rfl⟩) rfl rfl rfl (Nat.le_of_ble_eq_true rfl) dX3_replaceRow_47 rfl (fun D47 P47 hp47 => ?_) 
  obtain ⟨s2, R2, rfl⟩ := hp47
  refine pv_aload_n (q := 51) C dX3_replaceRow_50 rfl rfl rfl ?_ 
  refine pv_callVv (q := 54) C hKl (c_X3_wakeViewsTooFarBehind l X D47 P B hk (rowT (m_note (va_up (va_up (rowT (m_note (va_up row p 0) wr (row (16 + p))) (awk row)) p (nI g + 1)) (16 + p) a) (wr + 1) a) (awk (rowT (m_note (va_up row p 0) wr (row (16 + p))) (awk row)))) (hx (hx G wr (va_up (G wr) p (-1))) (wr + 1) (va_up (G wr) p (nI g))) (hx (hx A wr (A wr)) (wr + 1) (va_up (A wr) p a)) (wr + 1 + 1) (nxa (rowT (m_note (va_up row p 0) wr (row (16 + p))) (awk row)) (wr + 1 + 1) (nxa row (wr + 1) nx)) R2) tw_641 hk (by decide) rfl mm_X3_wakeViewsTooFarBehind ⟨rfl, rfl⟩ (by rw [hKR]; exact ⟨Nat.le_of_ble_eq_true rfl, Nat.le_of_ble_eq_true rfl⟩) (by rw [hKR]; exact ⟨Nat.le_of_ble_eq_true rfl, Nat.le_of_ble_eq_true rfl⟩) rfl rfl rfl (Nat.le_of_ble_eq_true rfl) dX3_replaceRow_51 rfl (fun D51 P51 hp51 => ?_) 
  obtain ⟨s3, ⟨nx3, R3⟩, rfl⟩ := hp51
  exact pv_vret C (by
      have em := rep_eq (gc := nI g + 1) (a1 := a) h.2.1 (by omega) hp
      refine ⟨fun i hi => ?_, ⟨_, _, nx3, by rw [em]; exact R3⟩, fun q hq => ?_, rfl⟩
      · rw [s3 i (by omega), s2 i (by omega), hD42, hD32, up2_ne _ _ _ (by omega), up2_ne _ _ _ (by omega), s1 i (by omega)]
      · rw [s3 _ (by omega), s2 _ (by omega), s3 _ (by omega), s2 _ (by omega), hD42, hD32, up2_ne _ _ _ (by omega), up2_row, up2_row, up2_ne _ _ _ (by omega), s1 _ (by omega), s1 _ (by omega)]
        unfold m_rep
        rw [settle_lo (by omega), settle_lo (by omega)]
        by_cases e : q = p
        · subst e
          rw [va_up_self, va_up_ne _ _ (by omega), va_up_self, va_up_self, va_up_self]
          exact ⟨(i32_mp _).symm, fun _ => rfl⟩
        · rw [va_up_ne _ _ e, va_up_ne _ _ e, va_up_ne _ _ (by omega), va_up_ne _ _ e, va_up_ne _ _ (by omega), va_up_ne _ _ (by omega), m_nt_eq h.2.1 (by omega), m_note_o (by omega) (by omega), m_note_o (by omega) (by omega)]
          exact ht q hq) (by decide) (by decide) dX3_replaceRow_54
set_option maxRecDepth 100000 in
set_option maxHeartbeats 4000000 in
theorem c_X3_countNapping (l : Launch) (X : XT) (D : DT) (P : PT) (B : Nat) (hk : kd B = 3) (row : Nat → Int32) (G A : Nat → Nat → Int32) (wr : Nat) (nx : Nat → Nat) (h : Rp D B row G A wr nx)  : CG l X yX3_countNapping (.code yX3_countNapping cX3_countNapping 3 (some .int) :: AW) ({ frames := 0, cells := 0, slots := 0, locals := 0 } : Room) [.ref (X.2.2 B)] (qI X (fun r D' P' => r = nI (ct (fun u => decide (row (32 + 38 * u + 32) ≠ 0)) 3) ∧ D = D' ∧ P = P')) D P 0 0 := by
  refine cg_of (by decide +kernel) (Nat.le_of_ble_eq_true rfl) ?_
  intro K hKl hKR C
  refine PV_lv (lv' := [some (.ref (X.2.2 B)), none, none]) rfl ?_
  refine pv_iconst (q := 1) (v := 0) C dX3_countNapping_0 rfl (by decide) ?_ 
  refine pv_istore_n (q := 2) C dX3_countNapping_1 rfl rfl (Nat.le_of_ble_eq_true rfl) rfl ?_ 
  refine pv_iconst (q := 3) (v := 0) C dX3_countNapping_2 rfl (by decide) ?_ 
  refine pv_istore_n (q := 4) C dX3_countNapping_3 rfl rfl (Nat.le_of_ble_eq_true rfl) rfl ?_ 
  have loop_4 : ∀ (nn : Nat) (v c : Nat), (4 ≤ v + nn) → v ≤ 3 → c = ct (fun u => decide (row (32 + 38 * u + 32) ≠ 0)) v → PV K X (MK K X (qI X (fun r D' P' => r = nI (ct (fun u => decide (row (32 + 38 * u + 32) ≠ 0)) 3) ∧ D = D' ∧ P = P')) 0 0) (0) (0) 4 [some (.ref (X.2.2 B)), some (.int (nI c)), some (.int (nI v))] [] D P := by
    intro nn
    induction nn with
    | zero =>
      intro v c hfuel hv3 hc
      exact absurd hfuel (by omega)
    | succ nn ih =>
      intro v c hfuel hv3 hc
      refine pv_iload_n (q := 5) C dX3_countNapping_4 rfl rfl rfl ?_ 
      refine pv_iconst (q := 6) (v := 3) C dX3_countNapping_5 rfl (by decide) ?_ 
      refine pv_icmp_geN (q := 9) (tgt := 30) (a := v) (b := 3) C rfl rfl (by omega) (by omega) dX3_countNapping_6 (by decide) rfl (fun c_6 => ?_) (fun c_6 => ?_) 
      · refine pv_iload_n (q := 31) C dX3_countNapping_30 rfl rfl rfl ?_
        exact pv_iret C (⟨by rw [hc, show v = 3 by omega], rfl, rfl⟩) (by decide) (by decide) dX3_countNapping_31
      · obtain ⟨q1, q2, q3, q4, q5, q6, q7, q8, q9, q10, q11⟩ := h.2.2.2.2.1 v (by omega)
        refine pv_aload_n (q := 10) C dX3_countNapping_9 rfl rfl rfl ?_ 
        refine pg_3_2 (q := 13) C hk tw_132 dX3_countNapping_10 rfl (fun k10 => ?_) 
        refine pv_iload_n (q := 14) C dX3_countNapping_13 rfl rfl rfl ?_ 
        refine pv_aald_12 (q := 15) (j := v) C k10 rfl (by omega) dX3_countNapping_14 rfl (fun k14 => ?_) 
        refine pg_5_4 (q := 18) C k14 tw_108 dX3_countNapping_15 rfl ?_ 
        rw [q6]
        refine pv_if_eq (q := 21) (tgt := 24) C dX3_countNapping_18 (by decide) rfl (fun c_18 => ?_) (fun c_18 => ?_) 
        · refine pv_iinc (q := 27) (v := nI (v + 1)) C dX3_countNapping_24 rfl rfl (nI_add _ _) rfl ?_
          refine pv_goto (tgt := 4) C dX3_countNapping_27 (by decide) ?_ 
          exact ih (v + 1) c (by omega) (by omega) (by rw [ct_s, if_neg (by simp [c_18]), hc]; rfl)
        · refine pv_iinc (q := 24) (v := nI (c + 1)) C dX3_countNapping_21 rfl rfl (nI_add _ _) rfl ?_
          refine pv_iinc (q := 27) (v := nI (v + 1)) C dX3_countNapping_24 rfl rfl (nI_add _ _) rfl ?_ 
          refine pv_goto (tgt := 4) C dX3_countNapping_27 (by decide) ?_ 
          exact ih (v + 1) (c + 1) (by omega) (by omega) (by rw [ct_s, if_pos (by simpa using c_18), hc])
  exact loop_4 4 0 0 (by omega) (by omega) rfl
set_option maxRecDepth 100000 in
set_option maxHeartbeats 4000000 in
theorem c_X3_passTick (l : Launch) (X : XT) (D : DT) (P : PT) (B : Nat) (hk : kd B = 3) (row : Nat → Int32) (G A : Nat → Nat → Int32) (wr : Nat) (nx : Nat → Nat) (h : Rp D B row G A wr nx)  : CG l X yX3_passTick (.code yX3_passTick cX3_passTick 3 none :: AW) ({ frames := 3, cells := 0, slots := 0, locals := 108 } : Room) [.ref (X.2.2 B)] (qV X (fun D' P' => (∀ i, (i < B ∨ B + 39 ≤ i ∨ i = B + 1 ∨ i = B + 1 + 1 ∨ i = B + 1 + 2) → D' i = D i) ∧ (∃ nx', Rp D' B (m_tick row) G A wr nx') ∧ P = P')) D P 0 0 := by
  refine cg_of (by decide +kernel) (Nat.le_of_ble_eq_true rfl) ?_
  intro K hKl hKR C
  refine PV_lv (lv' := [some (.ref (X.2.2 B)), none, none]) rfl ?_
  refine pv_iconst (q := 1) (v := 0) C dX3_passTick_0 rfl (by decide) ?_ 
  refine pv_istore_n (q := 2) C dX3_passTick_1 rfl rfl (Nat.le_of_ble_eq_true rfl) rfl ?_ 
  have loop_2 : ∀ (nn : Nat) (v : Nat) (D1 : DT) (nx1 : Nat → Nat), (4 ≤ v + nn) → v ≤ 3 → (∀ i, (i < B ∨ B + 39 ≤ i ∨ i = B + 1 ∨ i = B + 1 + 1 ∨ i = B + 1 + 2) → D1 i = D i) → Rp D1 B (m_ptv row v) G A wr nx1 → PV K X (MK K X (qV X (fun D' P' => (∀ i, (i < B ∨ B + 39 ≤ i ∨ i = B + 1 ∨ i = B + 1 + 1 ∨ i = B + 1 + 2) → D' i = D i) ∧ (∃ nx', Rp D' B (m_tick row) G A wr nx') ∧ P = P')) 0 0) (0) (0) 2 [some (.ref (X.2.2 B)), some (.int (nI v)), none] [] D1 P := by
    intro nn
    induction nn with
    | zero =>
      intro v D1 nx1 hfuel hv3 hsame h1
      exact absurd hfuel (by omega)
    | succ nn ih =>
      intro v D1 nx1 hfuel hv3 hsame h1
      refine pv_iload_n (q := 3) C dX3_passTick_2 rfl rfl rfl ?_ 
      refine pv_iconst (q := 4) (v := 3) C dX3_passTick_3 rfl (by decide) ?_ 
      refine pv_icmp_geN (q := 7) (tgt := 63) (a := v) (b := 3) C rfl rfl (by omega) (by omega) dX3_passTick_4 (by decide) rfl (fun c_4 => ?_) (fun c_4 => ?_) 
      · refine pv_aload_n (q := 64) C dX3_passTick_63 rfl rfl rfl ?_
        refine pv_dup (q := 65) C dX3_passTick_64 rfl rfl ?_ 
        refine pg_3_3 (q := 68) C hk tw_134 dX3_passTick_65 rfl ?_ 
        refine pv_iconst (q := 69) (v := 1) C dX3_passTick_68 rfl (by decide) ?_ 
        refine pv_iadd (q := 70) C dX3_passTick_69 rfl ?_ 
        refine pp_3_3 (q := 73) C hk tw_134 dX3_passTick_70 rfl (fun D70 hD70 => ?_) 
        exact pv_vret C (⟨fun i hi => by
              by_cases e : i = B
              · omega
              · rw [hD70, up2_ne _ _ _ e]; exact hsame i hi, ⟨nx1, by rw [show v = 3 by omega] at h1; exact Rp_cnt h1 hD70 (by omega)⟩, rfl⟩) (by decide) (by decide) dX3_passTick_73
      · obtain ⟨q1, q2, q3, q4, q5, q6, q7, q8, q9, q10, q11⟩ := h1.2.2.2.2.1 v (by omega)
        have hv : v < 3 := by omega
        refine pv_aload_n (q := 8) C dX3_passTick_7 rfl rfl rfl ?_ 
        refine pg_3_2 (q := 11) C hk tw_132 dX3_passTick_8 rfl (fun k8 => ?_) 
        refine pv_iload_n (q := 12) C dX3_passTick_11 rfl rfl rfl ?_ 
        refine pv_aald_12 (q := 13) (j := v) C k8 rfl (by omega) dX3_passTick_12 rfl (fun k12 => ?_) 
        refine pv_astore_n (q := 14) C dX3_passTick_13 rfl rfl (Nat.le_of_ble_eq_true rfl) rfl ?_ 
        refine pv_aload_n (q := 15) C dX3_passTick_14 rfl rfl rfl ?_ 
        refine pg_5_4 (q := 18) C k12 tw_108 dX3_passTick_15 rfl ?_ 
        rw [q6]
        refine pv_if_eq (q := 21) (tgt := 57) C dX3_passTick_18 (by decide) rfl (fun c_18 => ?_) (fun c_18 => ?_) 
        · refine pv_iinc (q := 60) (v := nI (v + 1)) C dX3_passTick_57 rfl rfl (nI_add _ _) rfl ?_
          refine pv_goto (tgt := 2) C dX3_passTick_60 (by decide) ?_ 
          exact PV_le (ih (v + 1) D1 nx1 (by omega) (by omega) hsame (by
            have e : m_ptv row (v + 1) = m_ptv row v := by show m_pt (m_ptv row v) v = m_ptv row v; unfold m_pt; rw [if_pos c_18]
            rw [e]; exact h1)) ⟨Or.inr rfl, Or.inr rfl, Or.inl rfl, trivial⟩
        · refine pv_aload_n (q := 22) C dX3_passTick_21 rfl rfl rfl ?_
          refine pv_dup (q := 23) C dX3_passTick_22 rfl rfl ?_ 
          refine pg_5_5 (q := 26) C k12 tw_110 dX3_passTick_23 rfl ?_ 
          refine pv_iconst (q := 27) (v := 1) C dX3_passTick_26 rfl (by decide) ?_ 
          refine pv_iadd (q := 28) C dX3_passTick_27 rfl ?_ 
          refine pp_5_5 (q := 31) C k12 tw_110 dX3_passTick_28 rfl (fun D28 hD28 => ?_) 
          have h28 := Rp_tick h1 hv hD28
          refine pv_aload_n (q := 32) C dX3_passTick_31 rfl rfl rfl ?_ 
          refine pg_5_5 (q := 35) C k12 tw_110 dX3_passTick_32 rfl ?_ 
          rw [show D28 (B + 8 + 1 + 10 * v) 5 = m_ptv row v (32 + 38 * v + 33) + 1 by rw [hD28, up2_self, q7]]
          refine pv_aload_n (q := 36) C dX3_passTick_35 rfl rfl rfl ?_ 
          refine pg_5_3 (q := 39) C k12 tw_105 dX3_passTick_36 rfl ?_ 
          rw [show D28 (B + 8 + 1 + 10 * v) 3 = m_ptv row v (32 + 38 * v + 36) by rw [hD28, up2_nk _ _ _ (by decide)]; exact q5 3 (by omega) (by omega)]
          refine pv_icmp_lt (q := 42) (tgt := 57) C dX3_passTick_39 (by decide) rfl (fun c_39 => ?_) (fun c_39 => ?_) 
          · refine pv_iinc (q := 60) (v := nI (v + 1)) C dX3_passTick_57 rfl rfl (nI_add _ _) rfl ?_
            refine pv_goto (tgt := 2) C dX3_passTick_60 (by decide) ?_ 
            exact PV_le (ih (v + 1) D28 nx1 (by omega) (by omega) (fun i hi => by rw [hD28, up2_ne _ _ _ (by omega)]; exact hsame i hi) (by
              have e : m_ptv row (v + 1) = plus (m_ptv row v) (32 + 38 * v + 33) 1 := by show m_pt (m_ptv row v) v = _; unfold m_pt; rw [if_neg c_18, if_pos c_39]
              rw [e]; exact h28)) ⟨Or.inr rfl, Or.inr rfl, Or.inl rfl, trivial⟩
          · refine pv_aload_n (q := 43) C dX3_passTick_42 rfl rfl rfl ?_
            refine pv_aload_n (q := 44) C dX3_passTick_43 rfl rfl rfl ?_ 
            refine pv_callVv (q := 47) C hKl (c_X3_wakeView l X D28 P B v hk hv k12 (plus (m_ptv row v) (32 + 38 * v + 33) 1) G A wr nx1 h28) tw_646 hk (by decide) rfl mm_X3_wakeView ⟨rfl, rfl⟩ (by rw [hKR]; exact ⟨Nat.le_of_ble_eq_true rfl, Nat.le_of_ble_eq_true rfl⟩) (by rw [hKR]; exact ⟨Nat.le_of_ble_eq_true rfl, Nat.le_of_ble_eq_true rfl⟩) rfl rfl rfl (Nat.le_of_ble_eq_true rfl) dX3_passTick_44 rfl (fun D44 P44 hp44 => ?_) 
            obtain ⟨w1, w2, rfl⟩ := hp44
            refine pv_aload_n (q := 48) C dX3_passTick_47 rfl rfl rfl ?_ 
            refine pv_dup (q := 49) C dX3_passTick_48 rfl rfl ?_ 
            refine pg_3_5 (q := 52) C hk tw_138 dX3_passTick_49 rfl ?_ 
            refine pv_iconst (q := 53) (v := 1) C dX3_passTick_52 rfl (by decide) ?_ 
            refine pv_iadd (q := 54) C dX3_passTick_53 rfl ?_ 
            refine pp_3_5 (q := 57) C hk tw_138 dX3_passTick_54 rfl (fun D54 hD54 => ?_) 
            refine pv_iinc (q := 60) (v := nI (v + 1)) C dX3_passTick_57 rfl rfl (nI_add _ _) rfl ?_ 
            refine pv_goto (tgt := 2) C dX3_passTick_60 (by decide) ?_ 
            exact PV_le (ih (v + 1) D54 _ (by omega) (by omega) (fun i hi => by rw [hD54, up2_ne _ _ _ (by omega), w1 i hi, hD28, up2_ne _ _ _ (by omega)]; exact hsame i hi) (by
              have hR := Rp_cnt w2 hD54 (by omega)
              have e : m_ptv row (v + 1) = plus (m_wake (plus (m_ptv row v) (32 + 38 * v + 33) 1) v) 181 1 := by show m_pt (m_ptv row v) v = _; unfold m_pt; rw [if_neg c_18, if_neg c_39]
              rw [e]; exact hR)) ⟨Or.inr rfl, Or.inr rfl, Or.inl rfl, trivial⟩
  exact loop_2 4 0 D nx (by omega) (by omega) (fun _ _ => rfl) h
set_option maxRecDepth 100000 in
set_option maxHeartbeats 4000000 in
theorem c_X3_passTicks (l : Launch) (X : XT) (D : DT) (P : PT) (B : Nat) (hk : kd B = 3) (row : Nat → Int32) (G A : Nat → Nat → Int32) (wr : Nat) (nx : Nat → Nat) (h : Rp D B row G A wr nx) (t : Nat) (ht : t < 2 ^ 30) : CG l X yX3_passTicks (.code yX3_passTicks cX3_passTicks 4 (some .int) :: AW) ({ frames := 4, cells := 0, slots := 0, locals := 144 } : Room) [.ref (X.2.2 B), .int (nI t)] (qI X (fun r D' P' => r = m_ticks row t 181 - row 181 ∧ (∀ i, (i < B ∨ B + 39 ≤ i ∨ i = B + 1 ∨ i = B + 1 + 1 ∨ i = B + 1 + 2) → D' i = D i) ∧ (∃ nx', Rp D' B (m_ticks row t) G A wr nx') ∧ P = P')) D P 0 0 := by
  refine cg_of (by decide +kernel) (Nat.le_of_ble_eq_true rfl) ?_
  intro K hKl hKR C
  refine PV_lv (lv' := [some (.ref (X.2.2 B)), some (.int (nI t)), none, none]) rfl ?_
  refine pv_aload_n (q := 1) C dX3_passTicks_0 rfl rfl rfl ?_ 
  refine pg_3_5 (q := 4) C hk tw_138 dX3_passTicks_1 rfl ?_ 
  rw [h.2.2.2.2.2 5 (by omega) (by omega)]
  refine pv_istore_n (q := 5) C dX3_passTicks_4 rfl rfl (Nat.le_of_ble_eq_true rfl) rfl ?_ 
  refine pv_iconst (q := 6) (v := 0) C dX3_passTicks_5 rfl (by decide) ?_ 
  refine pv_istore_n (q := 7) C dX3_passTicks_6 rfl rfl (Nat.le_of_ble_eq_true rfl) rfl ?_ 
  have loop_7 : ∀ (nn : Nat) (i : Nat) (D1 : DT) (nx1 : Nat → Nat), (t + 1 ≤ i + nn) → i ≤ t → (∀ i, (i < B ∨ B + 39 ≤ i ∨ i = B + 1 ∨ i = B + 1 + 1 ∨ i = B + 1 + 2) → D1 i = D i) → Rp D1 B (m_ticks row i) G A wr nx1 → PV K X (MK K X (qI X (fun r D' P' => r = m_ticks row t 181 - row 181 ∧ (∀ i, (i < B ∨ B + 39 ≤ i ∨ i = B + 1 ∨ i = B + 1 + 1 ∨ i = B + 1 + 2) → D' i = D i) ∧ (∃ nx', Rp D' B (m_ticks row t) G A wr nx') ∧ P = P')) 0 0) (0) (0) 7 [some (.ref (X.2.2 B)), some (.int (nI t)), some (.int (row (176 + 5))), some (.int (nI i))] [] D1 P := by
    intro nn
    induction nn with
    | zero =>
      intro i D1 nx1 hfuel hi hsame h1
      exact absurd hfuel (by omega)
    | succ nn ih =>
      intro i D1 nx1 hfuel hi hsame h1
      refine pv_iload_n (q := 8) C dX3_passTicks_7 rfl rfl rfl ?_ 
      refine pv_iload_n (q := 9) C dX3_passTicks_8 rfl rfl rfl ?_ 
      refine pv_icmp_geN (q := 12) (tgt := 22) (a := i) (b := t) C rfl rfl (by omega) (by omega) dX3_passTicks_9 (by decide) rfl (fun c_9 => ?_) (fun c_9 => ?_) 
      · refine pv_aload_n (q := 23) C dX3_passTicks_22 rfl rfl rfl ?_
        refine pg_3_5 (q := 26) C hk tw_138 dX3_passTicks_23 rfl ?_ 
        rw [h1.2.2.2.2.2 5 (by omega) (by omega)]
        refine pv_iload_n (q := 27) C dX3_passTicks_26 rfl rfl rfl ?_ 
        refine pv_isub (q := 28) C dX3_passTicks_27 rfl ?_ 
        exact pv_iret C (by
            have e : i = t := by omega
            subst e
            exact ⟨rfl, hsame, ⟨nx1, h1⟩, rfl⟩) (by decide) (by decide) dX3_passTicks_28
      · refine pv_aload_n (q := 13) C dX3_passTicks_12 rfl rfl rfl ?_
        refine pv_callVv (q := 16) C hKl (c_X3_passTick l X D1 P B hk (m_ticks row i) G A wr nx1 h1) tw_764 hk (by decide) rfl mm_X3_passTick ⟨rfl, rfl⟩ (by rw [hKR]; exact ⟨Nat.le_of_ble_eq_true rfl, Nat.le_of_ble_eq_true rfl⟩) (by rw [hKR]; exact ⟨Nat.le_of_ble_eq_true rfl, Nat.le_of_ble_eq_true rfl⟩) rfl rfl rfl (Nat.le_of_ble_eq_true rfl) dX3_passTicks_13 rfl (fun D13 P13 hp13 => ?_) 
        obtain ⟨w1, ⟨nx2, w2⟩, rfl⟩ := hp13
        refine pv_iinc (q := 19) (v := nI (i + 1)) C dX3_passTicks_16 rfl rfl (nI_add _ _) rfl ?_ 
        refine pv_goto (tgt := 7) C dX3_passTicks_19 (by decide) ?_ 
        exact ih (i + 1) D13 nx2 (by omega) (by omega) (fun j hj => by rw [w1 j hj]; exact hsame j hj) w2
  exact loop_7 (t + 1) 0 D nx (by omega) (by omega) (fun _ _ => rfl) h
set_option maxRecDepth 100000 in
set_option maxHeartbeats 4000000 in
theorem c_X3_copyFrom (l : Launch) (X : XT) (D : DT) (P : PT) (B B2 : Nat) (hk : kd B = 3) (hk2 : kd B2 = 3) (hne : B ≠ B2) (row : Nat → Int32) (G A : Nat → Nat → Int32) (wr : Nat) (nx : Nat → Nat) (h : Rp D B2 row G A wr nx) (ht : TR D B2 row) : CG l X yX3_copyFrom (.code yX3_copyFrom cX3_copyFrom 3 none :: AW) ({ frames := 3, cells := 0, slots := 0, locals := 108 } : Room) [.ref (X.2.2 B), .ref (X.2.2 B2)] (qV X (fun D' P' => (∀ i, (i < B ∨ B + 39 ≤ i) → D' i = D i) ∧ Rp D' B row G A wr nx ∧ TR D' B row ∧ P = P')) D P 0 0 := by
  refine cg_of (by decide +kernel) (Nat.le_of_ble_eq_true rfl) ?_
  intro K hKl hKR C
  refine PV_lv (lv' := [some (.ref (X.2.2 B)), some (.ref (X.2.2 B2)), none]) rfl ?_
  have hsep := kd3_sep hk hk2 hne
  refine pv_aload_n (q := 1) C dX3_copyFrom_0 rfl rfl rfl ?_ 
  refine pg_3_0 (q := 4) C hk tw_128 dX3_copyFrom_1 rfl (fun k1 => ?_) 
  refine pv_aload_n (q := 5) C dX3_copyFrom_4 rfl rfl rfl ?_ 
  refine pg_3_0 (q := 8) C hk2 tw_128 dX3_copyFrom_5 rfl (fun k5 => ?_) 
  refine pv_callVv (q := 11) C hKl (c_X4_copyFrom l X D P (B + 1) (B2 + 1) k1 k5) tw_234 k1 (by decide) rfl mm_X4_copyFrom ⟨rfl, rfl⟩ (by rw [hKR]; exact ⟨Nat.le_of_ble_eq_true rfl, Nat.le_of_ble_eq_true rfl⟩) (by rw [hKR]; exact ⟨Nat.le_of_ble_eq_true rfl, Nat.le_of_ble_eq_true rfl⟩) rfl rfl rfl (Nat.le_of_ble_eq_true rfl) dX3_copyFrom_8 rfl (fun D8 P8 hp8 => ?_) 
  obtain ⟨hD8, rfl⟩ := hp8
  refine pv_aload_n (q := 12) C dX3_copyFrom_11 rfl rfl rfl ?_ 
  refine pg_3_1 (q := 15) C hk tw_130 dX3_copyFrom_12 rfl (fun k12 => ?_) 
  refine pv_aload_n (q := 16) C dX3_copyFrom_15 rfl rfl rfl ?_ 
  refine pg_3_1 (q := 19) C hk2 tw_130 dX3_copyFrom_16 rfl (fun k16 => ?_) 
  refine pv_callVv (q := 22) C hKl (c_X1_copyFrom l X D8 P (B + 4) (B2 + 4) k12 k16) tw_241 k12 (by decide) rfl mm_X1_copyFrom ⟨rfl, rfl⟩ (by rw [hKR]; exact ⟨Nat.le_of_ble_eq_true rfl, Nat.le_of_ble_eq_true rfl⟩) (by rw [hKR]; exact ⟨Nat.le_of_ble_eq_true rfl, Nat.le_of_ble_eq_true rfl⟩) rfl rfl rfl (Nat.le_of_ble_eq_true rfl) dX3_copyFrom_19 rfl (fun D19 P19 hp19 => ?_) 
  obtain ⟨hD19, rfl⟩ := hp19
  have f19 : ∀ i, (i < B ∨ B + 8 ≤ i) → D19 i = D i := fun i hi => by rw [hD19, up2_ne _ _ _ (by omega), va_up_ne _ _ (by omega), va_up_ne _ _ (by omega), va_up_ne _ _ (by omega), hD8, va_up_ne _ _ (by omega), va_up_ne _ _ (by omega)]
  refine pv_iconst (q := 23) (v := 0) C dX3_copyFrom_22 rfl (by decide) ?_ 
  refine pv_istore_n (q := 24) C dX3_copyFrom_23 rfl rfl (Nat.le_of_ble_eq_true rfl) rfl ?_ 
  have loop_24 : ∀ (nn : Nat) (v : Nat) (D1 : DT), (4 ≤ v + nn) → v ≤ 3 → (∀ i, (i < B + 9 ∨ B + 39 ≤ i) → D1 i = D19 i) → (∀ u, u < v → (∀ k, 1 ≤ k → k ≤ 6 → D1 (B + 8 + 1 + 10 * u) k = D (B2 + 8 + 1 + 10 * u) k) ∧ ∀ g, g < 4 → D1 (B + 8 + 1 + 10 * u + 1 + 1 + 2 * g) 1 = D (B2 + 8 + 1 + 10 * u + 1 + 1 + 2 * g) 1 ∧ ∀ k, k < 16 → D1 (B + 8 + 1 + 10 * u + 1 + 1 + 2 * g + 1) k = D (B2 + 8 + 1 + 10 * u + 1 + 1 + 2 * g + 1) k) → PV K X (MK K X (qV X (fun D' P' => (∀ i, (i < B ∨ B + 39 ≤ i) → D' i = D i) ∧ Rp D' B row G A wr nx ∧ TR D' B row ∧ P = P')) 0 0) (0) (0) 24 [some (.ref (X.2.2 B)), some (.ref (X.2.2 B2)), some (.int (nI v))] [] D1 P := by
    intro nn
    induction nn with
    | zero =>
      intro v D1 hfuel hv3 hsame hin
      exact absurd hfuel (by omega)
    | succ nn ih =>
      intro v D1 hfuel hv3 hsame hin
      refine pv_iload_n (q := 25) C dX3_copyFrom_24 rfl rfl rfl ?_ 
      refine pv_iconst (q := 26) (v := 3) C dX3_copyFrom_25 rfl (by decide) ?_ 
      refine pv_icmp_geN (q := 29) (tgt := 50) (a := v) (b := 3) C rfl rfl (by omega) (by omega) dX3_copyFrom_26 (by decide) rfl (fun c_26 => ?_) (fun c_26 => ?_) 
      · have g1 : ∀ i, (i < B ∨ B + 39 ≤ i) → D1 i = D i := fun i hi => by rw [hsame i (by omega), f19 i (by omega)]
        refine pv_aload_n (q := 51) C dX3_copyFrom_50 rfl rfl rfl ?_ 
        refine pv_aload_n (q := 52) C dX3_copyFrom_51 rfl rfl rfl ?_ 
        refine pg_3_3 (q := 55) C hk2 tw_134 dX3_copyFrom_52 rfl ?_ 
        refine pp_3_3 (q := 58) C hk tw_134 dX3_copyFrom_55 rfl (fun D55 hD55 => ?_) 
        refine pv_aload_n (q := 59) C dX3_copyFrom_58 rfl rfl rfl ?_ 
        refine pv_aload_n (q := 60) C dX3_copyFrom_59 rfl rfl rfl ?_ 
        refine pg_3_4 (q := 63) C hk2 tw_136 dX3_copyFrom_60 rfl ?_ 
        refine pp_3_4 (q := 66) C hk tw_136 dX3_copyFrom_63 rfl (fun D63 hD63 => ?_) 
        refine pv_aload_n (q := 67) C dX3_copyFrom_66 rfl rfl rfl ?_ 
        refine pv_aload_n (q := 68) C dX3_copyFrom_67 rfl rfl rfl ?_ 
        refine pg_3_5 (q := 71) C hk2 tw_138 dX3_copyFrom_68 rfl ?_ 
        refine pp_3_5 (q := 74) C hk tw_138 dX3_copyFrom_71 rfl (fun D71 hD71 => ?_) 
        refine pv_aload_n (q := 75) C dX3_copyFrom_74 rfl rfl rfl ?_ 
        refine pv_aload_n (q := 76) C dX3_copyFrom_75 rfl rfl rfl ?_ 
        refine pg_3_6 (q := 79) C hk2 tw_140 dX3_copyFrom_76 rfl ?_ 
        refine pp_3_6 (q := 82) C hk tw_140 dX3_copyFrom_79 rfl (fun D79 hD79 => ?_) 
        refine pv_aload_n (q := 83) C dX3_copyFrom_82 rfl rfl rfl ?_ 
        refine pv_aload_n (q := 84) C dX3_copyFrom_83 rfl rfl rfl ?_ 
        refine pg_3_7 (q := 87) C hk2 tw_142 dX3_copyFrom_84 rfl ?_ 
        refine pp_3_7 (q := 90) C hk tw_142 dX3_copyFrom_87 rfl (fun D87 hD87 => ?_) 
        exact pv_vret C (by
            have e : v = 3 := by omega
            subst e
            have n1 : B2 ≠ B := fun z => hne z.symm
            have gB : D1 B2 = D B2 := g1 _ (by omega)
            have hO : ∀ i, i ≠ B → D87 i = D1 i := fun i hi => by rw [hD87, hD79, hD71, hD63, hD55]; simp only [up2_ne _ _ _ hi]
            have hC : ∀ j, 3 ≤ j → j ≤ 7 → D87 B j = D B2 j := by
              intro j a b
              rw [hD87, hD79, hD71, hD63, hD55]
              simp only [up2_ne _ _ _ n1, gB, up2_row, va_up]
              rcases (show j = 3 ∨ j = 4 ∨ j = 5 ∨ j = 6 ∨ j = 7 by omega) with rfl | rfl | rfl | rfl | rfl <;> simp
            refine ⟨fun i hi => by rw [hO i (by omega)]; exact g1 i hi, Rp_cong h (fun _ _ => rfl) hC ?_ (fun k hk => ?_) (fun v hv => ?_), fun p hp => ?_, rfl⟩
            · rw [hO _ (by omega), hsame _ (by omega), hD19, up2_self, hD8, va_up_ne _ _ (by omega), va_up_ne _ _ (by omega)]
            · rw [hO _ (by omega), hO _ (by omega), hO _ (by omega), hsame _ (by omega), hsame _ (by omega), hsame _ (by omega)]
              have e1 : ∀ i, B2 ≤ i → i < B2 + 39 → D8 i = D i := fun i a b => by rw [hD8, va_up_ne _ _ (by omega), va_up_ne _ _ (by omega)]
              refine ⟨?_, ?_, ?_⟩
              · rw [hD19, up2_ne _ _ _ (by omega), va_up_ne _ _ (by omega), va_up_ne _ _ (by omega), va_up_self, ← e1 _ (by omega) (by omega)]; simp [hk]
              · rw [hD19, up2_ne _ _ _ (by omega), va_up_ne _ _ (by omega), va_up_self, ← e1 _ (by omega) (by omega)]; simp [hk]
              · rw [hD19, up2_ne _ _ _ (by omega), va_up_self, ← e1 _ (by omega) (by omega)]; simp [hk]
            · obtain ⟨z1, z2⟩ := hin v hv
              exact ⟨fun k a b => by rw [hO _ (by omega)]; exact z1 k a b, fun g hg => ⟨by rw [hO _ (by omega)]; exact (z2 g hg).1, fun k hk => by rw [hO _ (by omega)]; exact (z2 g hg).2 k hk⟩⟩
            · have e2 : ∀ i, i < B + 4 → B ≤ i → D19 i = D8 i := fun i a b => by rw [hD19, up2_ne _ _ _ (by omega), va_up_ne _ _ (by omega), va_up_ne _ _ (by omega), va_up_ne _ _ (by omega)]
              rw [hO _ (by omega), hO _ (by omega), hsame _ (by omega), hsame _ (by omega), e2 _ (by omega) (by omega), e2 _ (by omega) (by omega), hD8, va_up_ne _ _ (by omega), va_up_self, va_up_self]
              simp only [hp, if_true]
              exact ht p hp) (by decide) (by decide) dX3_copyFrom_90
      · refine pv_aload_n (q := 30) C dX3_copyFrom_29 rfl rfl rfl ?_
        refine pg_3_2 (q := 33) C hk tw_132 dX3_copyFrom_30 rfl (fun k30 => ?_) 
        refine pv_iload_n (q := 34) C dX3_copyFrom_33 rfl rfl rfl ?_ 
        refine pv_aald_12 (q := 35) (j := v) C k30 rfl (by omega) dX3_copyFrom_34 rfl (fun k34 => ?_) 
        refine pv_aload_n (q := 36) C dX3_copyFrom_35 rfl rfl rfl ?_ 
        refine pg_3_2 (q := 39) C hk2 tw_132 dX3_copyFrom_36 rfl (fun k36 => ?_) 
        refine pv_iload_n (q := 40) C dX3_copyFrom_39 rfl rfl rfl ?_ 
        refine pv_aald_12 (q := 41) (j := v) C k36 rfl (by omega) dX3_copyFrom_40 rfl (fun k40 => ?_) 
        refine pv_callVv (q := 44) C hKl (c_X5_copyFrom l X D1 P (B + 8 + 1 + 10 * v) (B2 + 8 + 1 + 10 * v) k34 k40 (by omega) (by rw [hsame _ (by omega), f19 _ (by omega)]; obtain ⟨q1, q2, q3, q4, q5, q6, q7, q8, q9, q10, q11⟩ := h.2.2.2.2.1 v (by omega); rw [q6]; exact q8)) tw_246 k34 (by decide) rfl mm_X5_copyFrom ⟨rfl, rfl⟩ (by rw [hKR]; exact ⟨Nat.le_of_ble_eq_true rfl, Nat.le_of_ble_eq_true rfl⟩) (by rw [hKR]; exact ⟨Nat.le_of_ble_eq_true rfl, Nat.le_of_ble_eq_true rfl⟩) rfl rfl rfl (Nat.le_of_ble_eq_true rfl) dX3_copyFrom_41 rfl (fun D41 P41 hp41 => ?_) 
        obtain ⟨w1, w2, w3, rfl⟩ := hp41
        refine pv_iinc (q := 47) (v := nI (v + 1)) C dX3_copyFrom_44 rfl rfl (nI_add _ _) rfl ?_ 
        refine pv_goto (tgt := 24) C dX3_copyFrom_47 (by decide) ?_ 
        exact ih (v + 1) D41 (by omega) (by omega) (fun i hi => by rw [w1 i (by omega)]; exact hsame i hi) (fun u hu => by
          have g2 : ∀ i, B2 ≤ i → i < B2 + 39 → D1 i = D i := fun i a b => by rw [hsame i (by omega), f19 i (by omega)]
          by_cases e : u = v
          · subst e
            exact ⟨fun k a b => by rw [w2 k a b, g2 _ (by omega) (by omega)], fun g hg => ⟨by rw [(w3 g hg).1, g2 _ (by omega) (by omega)], fun k hk => by rw [(w3 g hg).2 k hk, g2 _ (by omega) (by omega)]⟩⟩
          · obtain ⟨z1, z2⟩ := hin u (by omega)
            exact ⟨fun k a b => by rw [w1 _ (by omega)]; exact z1 k a b, fun g hg => ⟨by rw [w1 _ (by omega)]; exact (z2 g hg).1, fun k hk => by rw [w1 _ (by omega)]; exact (z2 g hg).2 k hk⟩⟩)
  exact loop_24 4 0 D19 (by omega) (by omega) (fun _ _ => rfl) (fun u hu => absurd hu (by omega))
