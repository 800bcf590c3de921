theorem Rp_nx {D : DT} {B : Nat} {row : Nat → Int32} {G A : Nat → Nat → Int32} {wr : Nat} {nx nx2 : Nat → Nat} (h : Rp D B row G A wr nx) (hn : ∀ v, v < 3 → nx v = nx2 v) : Rp D B row G A wr nx2 := by
  obtain ⟨h1, h2, h3, h4, h5, h6⟩ := h
  exact ⟨h1, h2, h3, h4, fun v hv => by rw [← hn v hv]; exact h5 v hv, h6⟩
set_option maxRecDepth 100000 in
set_option maxHeartbeats 4000000 in
theorem c_X3_wakeView (l : Launch) (X : XT) (D : DT) (P : PT) (B v : Nat) (hk : kd B = 3) (hv : v < 3) (hkv : kd (B + 8 + 1 + 10 * v) = 5) (row : Nat → Int32) (G A : Nat → Nat → Int32) (wr : Nat) (nx : Nat → Nat) (h : Rp D B row G A wr nx)  : CG l X yX3_wakeView (.code yX3_wakeView cX3_wakeView 2 none :: AW) ({ frames := 2, cells := 0, slots := 0, locals := 72 } : Room) [.ref (X.2.2 B), .ref (X.2.2 (B + 8 + 1 + 10 * v))] (qV X (fun D' P' => (∀ i, (i < B ∨ B + 39 ≤ i ∨ i = B + 1 ∨ i = B + 1 + 1 ∨ i = B + 1 + 2) → D' i = D i) ∧ Rp D' B (m_wake row v) G A wr (fun u => if u = v then wr else nx u) ∧ P = P')) D P 0 0 := by
  refine cg_of (by decide +kernel) (Nat.le_of_ble_eq_true rfl) ?_
  intro K hKl hKR C
  refine PV_lv (lv' := [some (.ref (X.2.2 B)), some (.ref (X.2.2 (B + 8 + 1 + 10 * v)))]) rfl ?_
  obtain ⟨q1, q2, q3, q4, q5, q6, q7, q8, q9, q10, q11⟩ := h.2.2.2.2.1 v hv
  refine pv_aload_n (q := 1) C dX3_wakeView_0 rfl rfl rfl ?_ 
  refine pv_aload_n (q := 2) C dX3_wakeView_1 rfl rfl rfl ?_ 
  refine pg_3_1 (q := 5) C hk tw_130 dX3_wakeView_2 rfl (fun k2 => ?_) 
  refine pv_callVv (q := 8) C hKl (c_X5_seeWaiting l X D P (B + 8 + 1 + 10 * v) (B + 4) hkv k2 (nx v) wr q1 h.1 q3 (by have := h.2.2.1; omega) G A (fun d a b => (q9 d a b).1) q10) tw_640 hkv (by decide) rfl mm_X5_seeWaiting ⟨rfl, rfl⟩ (by rw [hKR]; exact ⟨Nat.le_of_ble_eq_true rfl, Nat.le_of_ble_eq_true rfl⟩) (by rw [hKR]; exact ⟨Nat.le_of_ble_eq_true rfl, Nat.le_of_ble_eq_true rfl⟩) rfl rfl rfl (Nat.le_of_ble_eq_true rfl) dX3_wakeView_5 rfl (fun D5 P5 hp5 => ?_) 
  obtain ⟨s1, s2, s3, s4, rfl⟩ := hp5
  refine pv_aload_n (q := 9) C dX3_wakeView_8 rfl rfl rfl ?_ 
  refine pv_callVv (q := 12) C hKl (c_X5_endNap l X D5 P (B + 8 + 1 + 10 * v) hkv) tw_650 hkv (by decide) rfl mm_X5_endNap ⟨rfl, rfl⟩ (by rw [hKR]; exact ⟨Nat.le_of_ble_eq_true rfl, Nat.le_of_ble_eq_true rfl⟩) (by rw [hKR]; exact ⟨Nat.le_of_ble_eq_true rfl, Nat.le_of_ble_eq_true rfl⟩) rfl rfl rfl (Nat.le_of_ble_eq_true rfl) dX3_wakeView_9 rfl (fun D9 P9 hp9 => ?_) 
  obtain ⟨hD9, rfl⟩ := hp9
  refine pv_aload_n (q := 13) C dX3_wakeView_12 rfl rfl rfl ?_ 
  refine pv_dup (q := 14) C dX3_wakeView_13 rfl rfl ?_ 
  refine pg_3_4 (q := 17) C hk tw_136 dX3_wakeView_14 rfl ?_ 
  refine pv_iconst (q := 18) (v := 1) C dX3_wakeView_17 rfl (by decide) ?_ 
  refine pv_iadd (q := 19) C dX3_wakeView_18 rfl ?_ 
  refine pp_3_4 (q := 22) C hk tw_136 dX3_wakeView_19 rfl (fun D19 hD19 => ?_) 
  exact pv_vret C (by
      have f1 : ∀ i, i ≠ B → i ≠ (B + 8 + 1 + 10 * v) → D19 i = D5 i := fun i a b => by rw [hD19, up2_ne _ _ _ a, hD9, up2_ne _ _ _ b, up2_ne _ _ _ b]
      have f2 : ∀ k, k ≠ 4 → k ≠ 5 → D19 (B + 8 + 1 + 10 * v) k = D5 (B + 8 + 1 + 10 * v) k := fun k a b => by rw [hD19, up2_ne _ _ _ (by omega), hD9, up2_nk _ _ _ b, up2_nk _ _ _ a]
      have f3 : D9 B = D B := by rw [hD9, up2_ne _ _ _ (by omega), up2_ne _ _ _ (by omega), s1 _ (by omega)]
      refine ⟨fun i hi => ?_, Rp_see (m := 2) h hv (Or.inr rfl) (fun i a b => ?_) (fun k a b => ?_) ?_ ?_ (fun z => absurd z (by decide)) (fun _ => ⟨?_, ?_⟩) (fun k hk => by unfold m_wake; rw [plus_ne (by omega)]) ?_, rfl⟩
      · rw [f1 i (by omega) (by omega)]; exact s1 i (by omega)
      · rw [f1 i a (by omega)]; exact s1 i b
      · rw [f2 k (by omega) (by omega)]; exact s2 k (by omega)
      · rw [f2 6 (by omega) (by omega)]; exact s3
      · exact SV_cong s4 (fun i a b k _ => by rw [f1 i (by omega) (by omega)]) (f2 1 (by omega) (by omega)) (fun _ _ => rfl) (fun _ _ _ => rfl)
      · rw [hD19, up2_ne _ _ _ (by omega), hD9, up2_nk _ _ _ (by omega), up2_self]
      · rw [hD19, up2_ne _ _ _ (by omega), hD9, up2_self]
      · exact ctr_up (j0 := 4) h.2.2.2.2.2 (fun j a b => rowT_out (by omega)) (by rw [hD19, up2_self, f3]) (fun j hj => by rw [hD19, up2_nk _ _ _ hj, f3]) (by omega)) (by decide) (by decide) dX3_wakeView_22
set_option maxRecDepth 100000 in
set_option maxHeartbeats 4000000 in
theorem c_X3_refreshView (l : Launch) (X : XT) (D : DT) (P : PT) (B v : Nat) (hk : kd B = 3) (hv : v < 3) (hkv : kd (B + 8 + 1 + 10 * v) = 5) (row : Nat → Int32) (G A : Nat → Nat → Int32) (wr : Nat) (nx : Nat → Nat) (h : Rp D B row G A wr nx) (ht : TR D B row) : CG l X yX3_refreshView (.code yX3_refreshView cX3_refreshView 2 none :: AW) ({ frames := 3, cells := 0, slots := 0, locals := 108 } : Room) [.ref (X.2.2 B), .ref (X.2.2 (B + 8 + 1 + 10 * v))] (qV X (fun D' P' => (∀ i, (i < B ∨ B + 39 ≤ i ∨ i = B + 1 ∨ i = B + 1 + 1 ∨ i = B + 1 + 2) → D' i = D i) ∧ Rp D' B (m_ref row v) G A wr (fun u => if u = v then wr else nx u) ∧ P = P')) D P 0 0 := by
  refine cg_of (by decide +kernel) (Nat.le_of_ble_eq_true rfl) ?_
  intro K hKl hKR C
  refine PV_lv (lv' := [some (.ref (X.2.2 B)), some (.ref (X.2.2 (B + 8 + 1 + 10 * v)))]) rfl ?_
  obtain ⟨q1, q2, q3, q4, q5, q6, q7, q8, q9, q10, q11⟩ := h.2.2.2.2.1 v hv
  refine pv_aload_n (q := 1) C dX3_refreshView_0 rfl rfl rfl ?_ 
  refine pv_aload_n (q := 2) C dX3_refreshView_1 rfl rfl rfl ?_ 
  refine pg_3_0 (q := 5) C hk tw_128 dX3_refreshView_2 rfl (fun k2 => ?_) 
  refine pv_aload_n (q := 6) C dX3_refreshView_5 rfl rfl rfl ?_ 
  refine pg_3_1 (q := 9) C hk tw_130 dX3_refreshView_6 rfl (fun k6 => ?_) 
  refine pv_callVv (q := 12) C hKl (c_X5_holdWhatTableTells l X D P (B + 8 + 1 + 10 * v) (B + 1) (B + 4) hkv k2 k6) tw_721 hkv (by decide) rfl mm_X5_holdWhatTableTells ⟨rfl, rfl⟩ (by rw [hKR]; exact ⟨Nat.le_of_ble_eq_true rfl, Nat.le_of_ble_eq_true rfl⟩) (by rw [hKR]; exact ⟨Nat.le_of_ble_eq_true rfl, Nat.le_of_ble_eq_true rfl⟩) rfl rfl rfl (Nat.le_of_ble_eq_true rfl) dX3_refreshView_9 rfl (fun D9 P9 hp9 => ?_) 
  obtain ⟨s1, s2, s3, s4, rfl⟩ := hp9
  refine pv_aload_n (q := 13) C dX3_refreshView_12 rfl rfl rfl ?_ 
  refine pv_dup (q := 14) C dX3_refreshView_13 rfl rfl ?_ 
  refine pg_3_6 (q := 17) C hk tw_140 dX3_refreshView_14 rfl ?_ 
  refine pv_iconst (q := 18) (v := 1) C dX3_refreshView_17 rfl (by decide) ?_ 
  refine pv_iadd (q := 19) C dX3_refreshView_18 rfl ?_ 
  refine pp_3_6 (q := 22) C hk tw_140 dX3_refreshView_19 rfl (fun D19 hD19 => ?_) 
  exact pv_vret C (by
      have f1 : ∀ i, i ≠ B → D19 i = D9 i := fun i a => by rw [hD19, up2_ne _ _ _ a]
      have f3 : D9 B = D B := s1 _ (by omega)
      refine ⟨fun i hi => ?_, Rp_see (m := 1) h hv (Or.inl rfl) (fun i a b => ?_) (fun k a b => ?_) ?_ ?_ (fun _ => ⟨?_, ?_⟩) (fun z => absurd z (by decide)) (fun k hk => by unfold m_ref; rw [plus_ne (by omega)]) ?_, rfl⟩
      · by_cases e : i = B
        · omega
        · rw [f1 i e]; exact s1 i (by omega)
      · rw [f1 i a]; exact s1 i b
      · rw [f1 _ (by omega)]; exact s2 k (by omega)
      · rw [f1 _ (by omega), s3]; exact h.1
      · refine SV_cong s4 (fun i a b k _ => by rw [f1 i (by omega)]) (by rw [f1 _ (by omega)]) (fun p hp => ?_) (fun p hp hne => ?_)
        · rw [(h.2.2.2.1 p hp).1, (ht p hp).1]
        · have hne2 : row p ≠ 0 := fun z => hne (by rw [(ht p hp).1, z]; rfl)
          rw [(h.2.2.2.1 p hp).2.1 hne2, (ht p hp).2 hne2]
      · rw [f1 _ (by omega)]; exact s2 4 (by omega)
      · rw [f1 _ (by omega)]; exact s2 5 (by omega)
      · exact ctr_up (j0 := 6) h.2.2.2.2.2 (fun j a b => rowT_out (by omega)) (by rw [hD19, up2_self, f3]) (fun j hj => by rw [hD19, up2_nk _ _ _ hj, f3]) (by omega)) (by decide) (by decide) dX3_refreshView_22
set_option maxRecDepth 100000 in
set_option maxHeartbeats 4000000 in
theorem c_X3_writeDelta (l : Launch) (X : XT) (D : DT) (P : PT) (B : Nat) (hk : kd B = 3) (row : Nat → Int32) (G A : Nat → Nat → Int32) (wr : Nat) (nx : Nat → Nat) (h : Rp D B row G A wr nx) (rt gr am : Nat → Int32) (p g : Nat) (a s : Int32) (hn : ∀ v, v < 3 → wr < nx v + 32) (hw : wr + 1 < 2 ^ 29) (hp : p < 16) (hg : g < 4) (ho : ∀ q, q < 16 → q ≠ p → gr q = G wr q ∧ am q = A wr q) (hst : (s = 1 ∧ G wr p = -1 ∧ gr p = nI g ∧ am p = a) ∨ (s = -1 ∧ G wr p = nI g ∧ A wr p = a ∧ gr p = -1)) (hr : ∀ k, 32 ≤ k → rt k = row k) (ht : ∀ p, p < 16 → gr p = rt p - 1 ∧ (rt p ≠ 0 → am p = rt (16 + p)) ∧ ∃ k, k ≤ 4 ∧ rt p = nI k) : CG l X yX3_writeDelta (.code yX3_writeDelta cX3_writeDelta 5 none :: AW) ({ frames := 2, cells := 0, slots := 0, locals := 72 } : Room) [.ref (X.2.2 B), .int (nI g), .int a, .int s] (qV X (fun D' P' => (∀ i, (i ≤ B + 3 ∨ B + 39 ≤ i) → D' i = D i) ∧ Rp D' B (rowT (m_note rt wr a) (awk row)) (hx G wr gr) (hx A wr am) (wr + 1) (nxa row (wr + 1) nx) ∧ P = P')) D P 0 0 := by
  refine cg_of (by decide +kernel) (Nat.le_of_ble_eq_true rfl) ?_
  intro K hKl hKR C
  refine PV_lv (lv' := [some (.ref (X.2.2 B)), some (.int (nI g)), some (.int a), some (.int s), none]) rfl ?_
  refine pv_aload_n (q := 1) C dX3_writeDelta_0 rfl rfl rfl ?_ 
  refine pg_3_1 (q := 4) C hk tw_130 dX3_writeDelta_1 rfl (fun k1 => ?_) 
  refine pv_iload_n (q := 5) C dX3_writeDelta_4 rfl rfl rfl ?_ 
  refine pv_iload_n (q := 6) C dX3_writeDelta_5 rfl rfl rfl ?_ 
  refine pv_iload_n (q := 7) C dX3_writeDelta_6 rfl rfl rfl ?_ 
  refine pv_callVv (q := 10) C hKl (c_X1_write l X D P (B + 4) k1 wr h.1 (by have := h.2.2.1; omega) _ _ _) tw_635 k1 (by decide) rfl mm_X1_write ⟨rfl, rfl⟩ (by rw [hKR]; exact ⟨Nat.le_of_ble_eq_true rfl, Nat.le_of_ble_eq_true rfl⟩) (by rw [hKR]; exact ⟨Nat.le_of_ble_eq_true rfl, Nat.le_of_ble_eq_true rfl⟩) rfl rfl rfl (Nat.le_of_ble_eq_true rfl) dX3_writeDelta_7 rfl (fun D7 P7 hp7 => ?_) 
  obtain ⟨hD7, rfl⟩ := hp7
  refine pv_iconst (q := 11) (v := 0) C dX3_writeDelta_10 rfl (by decide) ?_ 
  refine pv_istore (q := 13) C dX3_writeDelta_11 rfl (Nat.le_of_ble_eq_true rfl) rfl ?_ 
  have loop_13 : ∀ (nn : Nat) (v : Nat) (D1 : DT), (4 ≤ v + nn) → v ≤ 3 → (∀ i, (i ≤ B + 3 ∨ B + 39 ≤ i) → D1 i = D i) → Rp D1 B (rowT (m_note rt wr a) (upto v (awk row) z0)) (hx G wr gr) (hx A wr am) (wr + 1) (upto v (nxa row (wr + 1) nx) nx) → PV K X (MK K X (qV X (fun D' P' => (∀ i, (i ≤ B + 3 ∨ B + 39 ≤ i) → D' i = D i) ∧ Rp D' B (rowT (m_note rt wr a) (awk row)) (hx G wr gr) (hx A wr am) (wr + 1) (nxa row (wr + 1) nx) ∧ P = P')) 0 0) (0) (0) 13 [some (.ref (X.2.2 B)), some (.int (nI g)), some (.int a), some (.int s), some (.int (nI v))] [] D1 P := by
    intro nn
    induction nn with
    | zero =>
      intro v D1 hfuel hv3 hsame h1
      exact absurd hfuel (by omega)
    | succ nn ih =>
      intro v D1 hfuel hv3 hsame h1
      refine pv_iload (q := 15) C dX3_writeDelta_13 rfl rfl ?_ 
      refine pv_iconst (q := 16) (v := 3) C dX3_writeDelta_15 rfl (by decide) ?_ 
      refine pv_icmp_geN (q := 19) (tgt := 52) (a := v) (b := 3) C rfl rfl (by omega) (by omega) dX3_writeDelta_16 (by decide) rfl (fun c_16 => ?_) (fun c_16 => ?_) 
      · exact pv_vret C (by
            have e : v = 3 := by omega
            subst e
            refine ⟨hsame, ?_, rfl⟩
            have e1 : rowT (m_note rt wr a) (upto 3 (awk row) z0) = rowT (m_note rt wr a) (awk row) := rowT_cong (fun u hu => by unfold upto; rw [if_pos hu])
            rw [e1] at h1
            exact Rp_nx h1 (fun u hu => by unfold upto; rw [if_pos hu])) (by decide) (by decide) dX3_writeDelta_52
      · obtain ⟨q1, q2, q3, q4, q5, q6, q7, q8, q9, q10, q11⟩ := h1.2.2.2.2.1 v (by omega)
        have hro : rowT (m_note rt wr a) (upto v (awk row) z0) (32 + 38 * v + 32) = row (32 + 38 * v + 32) := by
          rw [rowT_0 (by omega) (by unfold upto; rw [if_neg (by omega)]; rfl)]
          unfold m_note
          rw [va_up_ne _ _ (by omega), va_up_ne _ _ (by omega)]
          exact hr _ (by omega)
        refine pv_aload_n (q := 20) C dX3_writeDelta_19 rfl rfl rfl ?_ 
        refine pg_3_2 (q := 23) C hk tw_132 dX3_writeDelta_20 rfl (fun k20 => ?_) 
        refine pv_iload (q := 25) C dX3_writeDelta_23 rfl rfl ?_ 
        refine pv_aald_12 (q := 26) (j := v) C k20 rfl (by omega) dX3_writeDelta_25 rfl (fun k25 => ?_) 
        refine pg_5_4 (q := 29) C k25 tw_108 dX3_writeDelta_26 rfl ?_ 
        rw [q6, hro]
        refine pv_if_ne (q := 32) (tgt := 46) C dX3_writeDelta_29 (by decide) rfl (fun c_29 => ?_) (fun c_29 => ?_) 
        · refine pv_iinc (q := 49) (v := nI (v + 1)) C dX3_writeDelta_46 rfl rfl (nI_add _ _) rfl ?_
          refine pv_goto (tgt := 13) C dX3_writeDelta_49 (by decide) ?_ 
          exact ih (v + 1) D1 (by omega) (by omega) hsame (by
            have e0 : awk row v = 0 := by unfold awk; rw [if_neg c_29]
            have e1 : upto (v + 1) (nxa row (wr + 1) nx) nx = upto v (nxa row (wr + 1) nx) nx := by
              rw [upto_s]; funext u
              by_cases e : u = v
              · subst e; rw [if_pos rfl]; unfold nxa upto; rw [if_neg c_29, if_neg (by omega)]
              · rw [if_neg e]
            rw [rowT_up0 e0, e1]; exact h1)
        · refine pv_aload_n (q := 33) C dX3_writeDelta_32 rfl rfl rfl ?_
          refine pg_3_2 (q := 36) C hk tw_132 dX3_writeDelta_33 rfl (fun k33 => ?_) 
          refine pv_iload (q := 38) C dX3_writeDelta_36 rfl rfl ?_ 
          refine pv_aald_12 (q := 39) (j := v) C k33 rfl (by omega) dX3_writeDelta_38 rfl (fun k38 => ?_) 
          refine pv_aload_n (q := 40) C dX3_writeDelta_39 rfl rfl rfl ?_ 
          refine pg_3_1 (q := 43) C hk tw_130 dX3_writeDelta_40 rfl (fun k40 => ?_) 
          refine pv_callVv (q := 46) C hKl (c_X5_seeWaiting l X D1 P (B + 8 + 1 + 10 * v) (B + 4) k38 k40 (upto v (nxa row (wr + 1) nx) nx v) (wr + 1) q1 h1.1 q3 (by have := h1.2.2.1; omega) (hx G wr gr) (hx A wr am) (fun d a b => (q9 d a b).1) q10) tw_640 k38 (by decide) rfl mm_X5_seeWaiting ⟨rfl, rfl⟩ (by rw [hKR]; exact ⟨Nat.le_of_ble_eq_true rfl, Nat.le_of_ble_eq_true rfl⟩) (by rw [hKR]; exact ⟨Nat.le_of_ble_eq_true rfl, Nat.le_of_ble_eq_true rfl⟩) rfl rfl rfl (Nat.le_of_ble_eq_true rfl) dX3_writeDelta_43 rfl (fun D43 P43 hp43 => ?_) 
          obtain ⟨s1, s2, s3, s4, rfl⟩ := hp43
          refine pv_iinc (q := 49) (v := nI (v + 1)) C dX3_writeDelta_46 rfl rfl (nI_add _ _) rfl ?_ 
          refine pv_goto (tgt := 13) C dX3_writeDelta_49 (by decide) ?_ 
          exact ih (v + 1) D43 (by omega) (by omega) (fun i hi => by rw [s1 i (by omega)]; exact hsame i hi) (by
            have e0 : awk row v = 1 := by unfold awk; rw [if_pos c_29]
            have e1 : upto (v + 1) (nxa row (wr + 1) nx) nx = fun u => if u = v then wr + 1 else upto v (nxa row (wr + 1) nx) nx u := by
              rw [upto_s]; funext u
              by_cases e : u = v
              · subst e; rw [if_pos rfl, if_pos rfl]; unfold nxa; rw [if_pos c_29]
              · rw [if_neg e, if_neg e]
            have hR := Rp_see (D2 := D43) (m := 1) (row2 := rowT (rowT (m_note rt wr a) (upto v (awk row) z0)) (one v 1)) h1 (by omega : v < 3) (Or.inl rfl) (fun i a b => s1 i b) (fun k a b => s2 k (by omega)) s3 s4 (fun _ => ⟨s2 4 (by omega), s2 5 (by omega)⟩) (fun z => absurd z (by decide)) (fun _ _ => rfl) (fun j a b => by rw [s1 B (by omega), rowT_out (by omega)]; exact h1.2.2.2.2.2 j a b)
            rw [e1, ← rowT_up (by rw [e0]; decide), e0]
            exact hR)
  have hR := Rp_note h hn hw hp hg ho hst hr ht
  rw [← hD7] at hR
  exact loop_13 4 0 D7 (by omega) (by omega) (fun i hi => by rw [hD7, up2_ne _ _ _ (by omega), up2_ne _ _ _ (by omega), up2_ne _ _ _ (by omega), up2_ne _ _ _ (by omega)]) (by rw [upto_0, upto_0, rowT_z0]; exact hR)
set_option maxRecDepth 100000 in
set_option maxHeartbeats 4000000 in
theorem c_X3_wakeViewsTooFarBehind (l : Launch) (X : XT) (D : DT) (P : PT) (B : Nat) (hk : kd B = 3) (row : Nat → Int32) (G A : Nat → Nat → Int32) (wr : Nat) (nx : Nat → Nat) (h : Rp D B row G A wr nx)  : CG l X yX3_wakeViewsTooFarBehind (.code yX3_wakeViewsTooFarBehind cX3_wakeViewsTooFarBehind 2 none :: AW) ({ frames := 3, cells := 0, slots := 0, locals := 108 } : Room) [.ref (X.2.2 B)] (qV X (fun D' P' => (∀ i, (i < B ∨ B + 39 ≤ i ∨ i = B + 1 ∨ i = B + 1 + 1 ∨ i = B + 1 + 2) → D' i = D i) ∧ (∃ nx', Rp D' B (m_far row) G A wr nx') ∧ P = P')) D P 0 0 := by
  refine cg_of (by decide +kernel) (Nat.le_of_ble_eq_true rfl) ?_
  intro K hKl hKR C
  refine PV_lv (lv' := [some (.ref (X.2.2 B)), none]) rfl ?_
  have f0 : ∀ v k, v < 3 → 32 ≤ k → k < 38 → m_farv row v (32 + 38 * v + k) = row (32 + 38 * v + k) := fun v k hv a b => by
    unfold m_farv
    rw [if_neg (by omega), rowT_0 b (by unfold upto; rw [if_neg (by omega)]; rfl)]
  have f1 : ∀ v, m_farv row v 178 = row 178 := fun v => by
    unfold m_farv
    rw [if_neg (by omega), rowT_out (by omega)]
  refine pv_iconst (q := 1) (v := 0) C dX3_wakeViewsTooFarBehind_0 rfl (by decide) ?_ 
  refine pv_istore_n (q := 2) C dX3_wakeViewsTooFarBehind_1 rfl rfl (Nat.le_of_ble_eq_true rfl) rfl ?_ 
  have loop_2 : ∀ (nn : Nat) (v : Nat) (D1 : DT) (nx1 : Nat → Nat), (4 ≤ v + nn) → v ≤ 3 → (∀ i, (i < B ∨ B + 39 ≤ i ∨ i = B + 1 ∨ i = B + 1 + 1 ∨ i = B + 1 + 2) → D1 i = D i) → Rp D1 B (m_farv row v) G A wr nx1 → PV K X (MK K X (qV X (fun D' P' => (∀ i, (i < B ∨ B + 39 ≤ i ∨ i = B + 1 ∨ i = B + 1 + 1 ∨ i = B + 1 + 2) → D' i = D i) ∧ (∃ nx', Rp D' B (m_far row) G A wr nx') ∧ P = P')) 0 0) (0) (0) 2 [some (.ref (X.2.2 B)), some (.int (nI v))] [] D1 P := by
    intro nn
    induction nn with
    | zero =>
      intro v D1 nx1 hfuel hv3 hsame h1
      exact absurd hfuel (by omega)
    | succ nn ih =>
      intro v D1 nx1 hfuel hv3 hsame h1
      refine pv_iload_n (q := 3) C dX3_wakeViewsTooFarBehind_2 rfl rfl rfl ?_ 
      refine pv_iconst (q := 4) (v := 3) C dX3_wakeViewsTooFarBehind_3 rfl (by decide) ?_ 
      refine pv_icmp_geN (q := 7) (tgt := 70) (a := v) (b := 3) C rfl rfl (by omega) (by omega) dX3_wakeViewsTooFarBehind_4 (by decide) rfl (fun c_4 => ?_) (fun c_4 => ?_) 
      · exact pv_vret C (⟨hsame, ⟨nx1, by unfold m_far; rw [show v = 3 by omega] at h1; exact h1⟩, rfl⟩) (by decide) (by decide) dX3_wakeViewsTooFarBehind_70
      · obtain ⟨q1, q2, q3, q4, q5, q6, q7, q8, q9, q10, q11⟩ := h1.2.2.2.2.1 v (by omega)
        have hv : v < 3 := by omega
        rw [f0 v 32 hv (by omega) (by omega)] at q6 q8
        refine pv_aload_n (q := 8) C dX3_wakeViewsTooFarBehind_7 rfl rfl rfl ?_ 
        refine pg_3_2 (q := 11) C hk tw_132 dX3_wakeViewsTooFarBehind_8 rfl (fun k8 => ?_) 
        refine pv_iload_n (q := 12) C dX3_wakeViewsTooFarBehind_11 rfl rfl rfl ?_ 
        refine pv_aald_12 (q := 13) (j := v) C k8 rfl (by omega) dX3_wakeViewsTooFarBehind_12 rfl (fun k12 => ?_) 
        refine pg_5_4 (q := 16) C k12 tw_108 dX3_wakeViewsTooFarBehind_13 rfl ?_ 
        rw [q6]
        refine pv_if_eq (q := 19) (tgt := 64) C dX3_wakeViewsTooFarBehind_16 (by decide) rfl (fun c_16 => ?_) (fun c_16 => ?_) 
        · refine pv_iinc (q := 67) (v := nI (v + 1)) C dX3_wakeViewsTooFarBehind_64 rfl rfl (nI_add _ _) rfl ?_
          refine pv_goto (tgt := 2) C dX3_wakeViewsTooFarBehind_67 (by decide) ?_ 
          exact ih (v + 1) D1 nx1 (by omega) (by omega) hsame (by rw [m_farv_n (by unfold farm; rw [if_neg (fun z => absurd (c_16.symm.trans z.1) (by decide))]; decide)]; exact h1)
        · refine pv_aload_n (q := 20) C dX3_wakeViewsTooFarBehind_19 rfl rfl rfl ?_
          refine pg_3_2 (q := 23) C hk tw_132 dX3_wakeViewsTooFarBehind_20 rfl (fun k20 => ?_) 
          refine pv_iload_n (q := 24) C dX3_wakeViewsTooFarBehind_23 rfl rfl rfl ?_ 
          refine pv_aald_12 (q := 25) (j := v) C k20 rfl (by omega) dX3_wakeViewsTooFarBehind_24 rfl (fun k24 => ?_) 
          refine pv_aload_n (q := 26) C dX3_wakeViewsTooFarBehind_25 rfl rfl rfl ?_ 
          refine pg_3_1 (q := 29) C hk tw_130 dX3_wakeViewsTooFarBehind_26 rfl (fun k26 => ?_) 
          refine pv_callVi (q := 32) C hKl (c_X5_countWaiting l X D1 P (B + 8 + 1 + 10 * v) (B + 4) k24 k26) tw_645 k24 (by decide) rfl mm_X5_countWaiting ⟨rfl, rfl⟩ (by rw [hKR]; exact ⟨Nat.le_of_ble_eq_true rfl, Nat.le_of_ble_eq_true rfl⟩) (by rw [hKR]; exact ⟨Nat.le_of_ble_eq_true rfl, Nat.le_of_ble_eq_true rfl⟩) rfl rfl rfl (Nat.le_of_ble_eq_true rfl) dX3_wakeViewsTooFarBehind_29 rfl (fun r29 D29 P29 hp29 => ?_) 
          obtain ⟨rfl, rfl, rfl⟩ := hp29
          rw [show D1 (B + 4) 3 - D1 (B + 8 + 1 + 10 * v) 6 = row 178 - row (32 + 38 * v + 37) by rw [h1.1, ← h1.2.1, q1, ← q2, f1, f0 v 37 hv (by omega) (by omega)]]
          refine pv_aload_n (q := 33) C dX3_wakeViewsTooFarBehind_32 rfl rfl rfl ?_ 
          refine pg_3_2 (q := 36) C hk tw_132 dX3_wakeViewsTooFarBehind_33 rfl (fun k33 => ?_) 
          refine pv_iload_n (q := 37) C dX3_wakeViewsTooFarBehind_36 rfl rfl rfl ?_ 
          refine pv_aald_12 (q := 38) (j := v) C k33 rfl (by omega) dX3_wakeViewsTooFarBehind_37 rfl (fun k37 => ?_) 
          refine pg_5_2 (q := 41) C k37 tw_101 dX3_wakeViewsTooFarBehind_38 rfl ?_ 
          rw [show D1 (B + 8 + 1 + 10 * v) 2 = row (32 + 38 * v + 35) by rw [q5 2 (by omega) (by omega), f0 v 35 hv (by omega) (by omega)]]
          refine pv_icmp_le (q := 44) (tgt := 64) C dX3_wakeViewsTooFarBehind_41 (by decide) rfl (fun c_41 => ?_) (fun c_41 => ?_) 
          · refine pv_iinc (q := 67) (v := nI (v + 1)) C dX3_wakeViewsTooFarBehind_64 rfl rfl (nI_add _ _) rfl ?_
            refine pv_goto (tgt := 2) C dX3_wakeViewsTooFarBehind_67 (by decide) ?_ 
            exact ih (v + 1) D1 nx1 (by omega) (by omega) hsame (by rw [m_farv_n (by unfold farm; rw [if_neg (fun z => absurd z.2 (Int32.not_lt.mpr c_41))]; decide)]; exact h1)
          · refine pv_aload_n (q := 45) C dX3_wakeViewsTooFarBehind_44 rfl rfl rfl ?_
            refine pv_aload_n (q := 46) C dX3_wakeViewsTooFarBehind_45 rfl rfl rfl ?_ 
            refine pg_3_2 (q := 49) C hk tw_132 dX3_wakeViewsTooFarBehind_46 rfl (fun k46 => ?_) 
            refine pv_iload_n (q := 50) C dX3_wakeViewsTooFarBehind_49 rfl rfl rfl ?_ 
            refine pv_aald_12 (q := 51) (j := v) C k46 rfl (by omega) dX3_wakeViewsTooFarBehind_50 rfl (fun k50 => ?_) 
            refine pv_callVv (q := 54) C hKl (c_X3_wakeView l X D1 P B v hk hv k50 (m_farv row v) G A wr nx1 h1) tw_646 hk (by decide) rfl mm_X3_wakeView ⟨rfl, rfl⟩ (by rw [hKR]; exact ⟨Nat.le_of_ble_eq_true rfl, Nat.le_of_ble_eq_true rfl⟩) (by rw [hKR]; exact ⟨Nat.le_of_ble_eq_true rfl, Nat.le_of_ble_eq_true rfl⟩) rfl rfl rfl (Nat.le_of_ble_eq_true rfl) dX3_wakeViewsTooFarBehind_51 rfl (fun D51 P51 hp51 => ?_) 
            obtain ⟨w1, w2, rfl⟩ := hp51
            refine pv_aload_n (q := 55) C dX3_wakeViewsTooFarBehind_54 rfl rfl rfl ?_ 
            refine pv_dup (q := 56) C dX3_wakeViewsTooFarBehind_55 rfl rfl ?_ 
            refine pg_3_5 (q := 59) C hk tw_138 dX3_wakeViewsTooFarBehind_56 rfl ?_ 
            refine pv_iconst (q := 60) (v := 1) C dX3_wakeViewsTooFarBehind_59 rfl (by decide) ?_ 
            refine pv_iadd (q := 61) C dX3_wakeViewsTooFarBehind_60 rfl ?_ 
            refine pp_3_5 (q := 64) C hk tw_138 dX3_wakeViewsTooFarBehind_61 rfl (fun D61 hD61 => ?_) 
            refine pv_iinc (q := 67) (v := nI (v + 1)) C dX3_wakeViewsTooFarBehind_64 rfl rfl (nI_add _ _) rfl ?_ 
            refine pv_goto (tgt := 2) C dX3_wakeViewsTooFarBehind_67 (by decide) ?_ 
            exact ih (v + 1) D61 _ (by omega) (by omega) (fun i hi => by rw [hD61, up2_ne _ _ _ (by omega), w1 i hi]; exact hsame i hi) (by
              have hR := Rp_cnt w2 hD61 (by omega)
              have hy : farm row v = 2 := by unfold farm; rw [if_pos ⟨q8.resolve_left c_16, Int32.not_le.mp c_41⟩]
              unfold m_wake at hR
              rw [m_farv_y hy] at hR
              exact hR)
  exact loop_2 4 0 D nx (by omega) (by omega) (fun _ _ => rfl) (by rw [m_farv_0]; exact h)
