/-! one call by chance -/
theorem rgAm {k c : Nat} (hk : k ≤ c + 99) (hc : c ≤ 99) : rg (nI k - nI c) (-99) 99 := by
  rcases Nat.lt_or_ge k c with q | q
  · rw [neg_sub (by omega)]
    have e : ∀ m, m < 100 → rg (-(nI m)) (-99) 99 := by decide +kernel
    exact e _ (by omega)
  · rw [pk_sub q]
    exact rg_nn (by omega)
set_option maxRecDepth 100000 in
set_option maxHeartbeats 4000000 in
theorem ta_144a {M : DT} {V x y p w v n : Nat} (hx : x < 2 ^ 31) (hy : y < 2 ^ 31) (hp : p < 16) (hw : w < 2 ^ 31) (hv : v < 3) (hn : n < 2 ^ 31) (hj : JM M V) (hk5 : M 6 5 = 0 ∨ M 6 5 = 1) (h3 : n % 3 = 0) : ∃ (r : Int64) (E : DT), JM E (V + 7000) ∧ ∀ {l : Launch} {K : KT} {X : XT} {w0 : Cond} {W : Nat} (_ : LK l K X cL_act RL w0 7 (some .long) ({ frames := 10, cells := 160, slots := 960, locals := 360 } : Room)) (_ : W + 40000 < 2 ^ 29) (D : DT) (P : PT) (_ : RI D P M W), PV K X (XK K X (qL X (fun r' D' P' => r' = r ∧ RI D' P' E (W + 10000))) (fun _ _ _ => False) 160 960) 0 0 144 [some (.ref (X.2.2 0)), some (.int (nI x)), some (.int (nI y)), some (.int (nI p)), some (.int (nI w)), some (.int (nI v)), some (.int (nI n))] [] D P := by
  have ep : ix (nI p) = p := ix_n (by omega)
  have ev : ix (nI v) = v := ix_n (by omega)
  refine ⟨wv (kIns (M 7) (nI p) (nI (w % 4)) (nI (n % 199) - 99)) ((nI (tk (m_ins (M 7) (ix (nI p)) (nI (w % 4)) (nI (n % 199) - 99))) : Int32).toInt64) cIXS, we (kIns (M 7) (nI p) (nI (w % 4)) (nI (n % 199) - 99)) (va_up (m_save (clr M)) 7 (m_ins (M 7) (ix (nI p)) (nI (w % 4)) (nI (n % 199) - 99))) M, JM_we hj (by omega) (fun z => JM_op hj (by omega) (JJ_V (JJ_ins hj.1 (by omega) (rg_g (by omega)) (rgAm (c := 99) (by omega) (by omega))) (by omega))), ?_⟩
  intro l K X w0 W L hW D P h
  obtain ⟨hKl, hKR, C, Z, hNC, hfl⟩ := id L
  refine pv_aload_n (q := 145) C dL_act_144 rfl rfl rfl ?_
  refine pv_iload_n (q := 146) C dL_act_145 rfl rfl rfl ?_
  refine pv_iload (q := 148) C dL_act_146 rfl rfl ?_
  refine pv_iconst (q := 149) (v := 4) C dL_act_148 rfl (by decide) ?_
  refine pv_iremN (q := 150) (a := w) (b := 4) C rfl rfl (by omega) (by decide) (by decide) dL_act_149 rfl ?_
  refine pv_iload (q := 152) C dL_act_150 rfl rfl ?_
  refine pv_iconst (q := 153) (v := 3) C dL_act_152 rfl (by decide) ?_
  refine pv_iremN (q := 154) (a := n) (b := 3) C rfl rfl (by omega) (by decide) (by decide) dL_act_153 rfl ?_
  refine pv_if_ne (q := 157) (tgt := 169) C dL_act_154 (by decide) rfl (fun c154_1 => False.elim (c154_1 (by rw [h3]; rfl))) (fun _ => ?_)
  refine pv_iload (q := 159) C dL_act_157 rfl rfl ?_
  refine pv_sipush (q := 162) (v := 199) C dL_act_159 rfl (by decide) ?_
  refine pv_iremN (q := 163) (a := n) (b := 199) C rfl rfl (by omega) (by decide) (by decide) dL_act_162 rfl ?_
  refine pv_bipush (q := 165) (v := 99) C dL_act_163 rfl (by decide) ?_
  refine pv_isub (q := 166) C dL_act_165 rfl ?_
  refine pv_goto (tgt := 177) C dL_act_166 (by decide) ?_
  refine pv_callLl (q := 180) (rest := []) C Z hNC hKl (c_L_insert l X D P hfl M (W) h (by omega) (nI p) (nI (w % 4)) ((nI (n % 199)) - 99)) tw_598 mw_L_insert ⟨rfl, rfl⟩ (by rw [hKR]; exact ⟨Nat.le_of_ble_eq_true rfl, Nat.le_of_ble_eq_true rfl⟩) (by rw [hKR]; constructor <;> (dsimp only; omega)) rfl rfl rfl (Nat.le_of_ble_eq_true rfl) dL_act_177 rfl (fun r2 D2 P2 q2 => ?_)
  obtain ⟨rfl, hR2⟩ := QE.toE q2
  exact XK.of (pv_lret C ⟨rfl, RI_W hR2 (by omega)⟩ (by omega) (by omega) dL_act_180)
set_option maxRecDepth 100000 in
set_option maxHeartbeats 4000000 in
theorem ta_144b {M : DT} {V x y p w v n : Nat} (hx : x < 2 ^ 31) (hy : y < 2 ^ 31) (hp : p < 16) (hw : w < 2 ^ 31) (hv : v < 3) (hn : n < 2 ^ 31) (hj : JM M V) (hk5 : M 6 5 = 0 ∨ M 6 5 = 1) (h3 : ¬ n % 3 = 0) : ∃ (r : Int64) (E : DT), JM E (V + 7000) ∧ ∀ {l : Launch} {K : KT} {X : XT} {w0 : Cond} {W : Nat} (_ : LK l K X cL_act RL w0 7 (some .long) ({ frames := 10, cells := 160, slots := 960, locals := 360 } : Room)) (_ : W + 40000 < 2 ^ 29) (D : DT) (P : PT) (_ : RI D P M W), PV K X (XK K X (qL X (fun r' D' P' => r' = r ∧ RI D' P' E (W + 10000))) (fun _ _ _ => False) 160 960) 0 0 144 [some (.ref (X.2.2 0)), some (.int (nI x)), some (.int (nI y)), some (.int (nI p)), some (.int (nI w)), some (.int (nI v)), some (.int (nI n))] [] D P := by
  have ep : ix (nI p) = p := ix_n (by omega)
  have ev : ix (nI v) = v := ix_n (by omega)
  refine ⟨wv (kIns (M 7) (nI p) (nI (w % 4)) (nI (n % 21) - 10)) ((nI (tk (m_ins (M 7) (ix (nI p)) (nI (w % 4)) (nI (n % 21) - 10))) : Int32).toInt64) cIXS, we (kIns (M 7) (nI p) (nI (w % 4)) (nI (n % 21) - 10)) (va_up (m_save (clr M)) 7 (m_ins (M 7) (ix (nI p)) (nI (w % 4)) (nI (n % 21) - 10))) M, JM_we hj (by omega) (fun z => JM_op hj (by omega) (JJ_V (JJ_ins hj.1 (by omega) (rg_g (by omega)) (rgAm (c := 10) (by omega) (by omega))) (by omega))), ?_⟩
  intro l K X w0 W L hW D P h
  obtain ⟨hKl, hKR, C, Z, hNC, hfl⟩ := id L
  refine pv_aload_n (q := 145) C dL_act_144 rfl rfl rfl ?_
  refine pv_iload_n (q := 146) C dL_act_145 rfl rfl rfl ?_
  refine pv_iload (q := 148) C dL_act_146 rfl rfl ?_
  refine pv_iconst (q := 149) (v := 4) C dL_act_148 rfl (by decide) ?_
  refine pv_iremN (q := 150) (a := w) (b := 4) C rfl rfl (by omega) (by decide) (by decide) dL_act_149 rfl ?_
  refine pv_iload (q := 152) C dL_act_150 rfl rfl ?_
  refine pv_iconst (q := 153) (v := 3) C dL_act_152 rfl (by decide) ?_
  refine pv_iremN (q := 154) (a := n) (b := 3) C rfl rfl (by omega) (by decide) (by decide) dL_act_153 rfl ?_
  refine pv_if_ne (q := 157) (tgt := 169) C dL_act_154 (by decide) rfl (fun _ => ?_) (fun c154_1 => False.elim (absurd c154_1 (nI_ne0 (by omega) (by omega))))
  refine pv_iload (q := 171) C dL_act_169 rfl rfl ?_
  refine pv_bipush (q := 173) (v := 21) C dL_act_171 rfl (by decide) ?_
  refine pv_iremN (q := 174) (a := n) (b := 21) C rfl rfl (by omega) (by decide) (by decide) dL_act_173 rfl ?_
  refine pv_bipush (q := 176) (v := 10) C dL_act_174 rfl (by decide) ?_
  refine pv_isub (q := 177) C dL_act_176 rfl ?_
  refine pv_callLl (q := 180) (rest := []) C Z hNC hKl (c_L_insert l X D P hfl M (W) h (by omega) (nI p) (nI (w % 4)) ((nI (n % 21)) - 10)) tw_598 mw_L_insert ⟨rfl, rfl⟩ (by rw [hKR]; exact ⟨Nat.le_of_ble_eq_true rfl, Nat.le_of_ble_eq_true rfl⟩) (by rw [hKR]; constructor <;> (dsimp only; omega)) rfl rfl rfl (Nat.le_of_ble_eq_true rfl) dL_act_177 rfl (fun r2 D2 P2 q2 => ?_)
  obtain ⟨rfl, hR2⟩ := QE.toE q2
  exact XK.of (pv_lret C ⟨rfl, RI_W hR2 (by omega)⟩ (by omega) (by omega) dL_act_180)
set_option maxRecDepth 100000 in
set_option maxHeartbeats 4000000 in
theorem ta_181 {M : DT} {V x y p w v n : Nat} (hx : x < 2 ^ 31) (hy : y < 2 ^ 31) (hp : p < 16) (hw : w < 2 ^ 31) (hv : v < 3) (hn : n < 2 ^ 31) (hj : JM M V) (hk5 : M 6 5 = 0 ∨ M 6 5 = 1)  : ∃ (r : Int64) (E : DT), JM E (V + 7000) ∧ ∀ {l : Launch} {K : KT} {X : XT} {w0 : Cond} {W : Nat} (_ : LK l K X cL_act RL w0 7 (some .long) ({ frames := 10, cells := 160, slots := 960, locals := 360 } : Room)) (_ : W + 40000 < 2 ^ 29) (D : DT) (P : PT) (_ : RI D P M W), PV K X (XK K X (qL X (fun r' D' P' => r' = r ∧ RI D' P' E (W + 10000))) (fun _ _ _ => False) 160 960) 0 0 181 [some (.ref (X.2.2 0)), some (.int (nI x)), some (.int (nI y)), some (.int (nI p)), some (.int (nI w)), some (.int (nI v)), some (.int (nI n))] [] D P := by
  have ep : ix (nI p) = p := ix_n (by omega)
  have ev : ix (nI v) = v := ix_n (by omega)
  refine ⟨wv (kChg (M 7) (nI p) (nI (n % 21) - 10)) ((M 7 (16 + ix (nI p)) : Int32).toInt64) cIXS, we (kChg (M 7) (nI p) (nI (n % 21) - 10)) (va_up (m_save (clr M)) 7 (m_rep (M 7) (ix (nI p)) (M 7 (ix (nI p))) (nI (n % 21) - 10))) M, JM_we hj (by omega) (fun z => JM_op hj (by omega) (JJ_V (JJ_rep hj.1 (by omega) (hj.1.1 _ (Or.inl (by omega))) (rgAm (c := 10) (by omega) (by omega))) (by omega))), ?_⟩
  intro l K X w0 W L hW D P h
  obtain ⟨hKl, hKR, C, Z, hNC, hfl⟩ := id L
  refine pv_aload_n (q := 182) C dL_act_181 rfl rfl rfl ?_
  refine pv_iload_n (q := 183) C dL_act_182 rfl rfl rfl ?_
  refine pv_iload (q := 185) C dL_act_183 rfl rfl ?_
  refine pv_bipush (q := 187) (v := 21) C dL_act_185 rfl (by decide) ?_
  refine pv_iremN (q := 188) (a := n) (b := 21) C rfl rfl (by omega) (by decide) (by decide) dL_act_187 rfl ?_
  refine pv_bipush (q := 190) (v := 10) C dL_act_188 rfl (by decide) ?_
  refine pv_isub (q := 191) C dL_act_190 rfl ?_
  refine pv_callLl (q := 194) (rest := []) C Z hNC hKl (c_L_change l X D P hfl M (W) h (by omega) (nI p) ((nI (n % 21)) - 10)) tw_656 mw_L_change ⟨rfl, rfl⟩ (by rw [hKR]; exact ⟨Nat.le_of_ble_eq_true rfl, Nat.le_of_ble_eq_true rfl⟩) (by rw [hKR]; constructor <;> (dsimp only; omega)) rfl rfl rfl (Nat.le_of_ble_eq_true rfl) dL_act_191 rfl (fun r1 D1 P1 q1 => ?_)
  obtain ⟨rfl, hR1⟩ := QE.toE q1
  exact XK.of (pv_lret C ⟨rfl, RI_W hR1 (by omega)⟩ (by omega) (by omega) dL_act_194)
set_option maxRecDepth 100000 in
set_option maxHeartbeats 4000000 in
theorem ta_195 {M : DT} {V x y p w v n : Nat} (hx : x < 2 ^ 31) (hy : y < 2 ^ 31) (hp : p < 16) (hw : w < 2 ^ 31) (hv : v < 3) (hn : n < 2 ^ 31) (hj : JM M V) (hk5 : M 6 5 = 0 ∨ M 6 5 = 1)  : ∃ (r : Int64) (E : DT), JM E (V + 7000) ∧ ∀ {l : Launch} {K : KT} {X : XT} {w0 : Cond} {W : Nat} (_ : LK l K X cL_act RL w0 7 (some .long) ({ frames := 10, cells := 160, slots := 960, locals := 360 } : Room)) (_ : W + 40000 < 2 ^ 29) (D : DT) (P : PT) (_ : RI D P M W), PV K X (XK K X (qL X (fun r' D' P' => r' = r ∧ RI D' P' E (W + 10000))) (fun _ _ _ => False) 160 960) 0 0 195 [some (.ref (X.2.2 0)), some (.int (nI x)), some (.int (nI y)), some (.int (nI p)), some (.int (nI w)), some (.int (nI v)), some (.int (nI n))] [] D P := by
  have ep : ix (nI p) = p := ix_n (by omega)
  have ev : ix (nI v) = v := ix_n (by omega)
  refine ⟨wv (kReg (M 7) (nI p) (nI (w % 4))) ((M 7 (ix (nI p)) - 1 : Int32).toInt64) cIS, we (kReg (M 7) (nI p) (nI (w % 4))) (va_up (m_save (clr M)) 7 (m_rep (M 7) (ix (nI p)) ((nI (w % 4)) + 1) (M 7 (16 + ix (nI p))))) M, JM_we hj (by omega) (fun z => JM_op hj (by omega) (JJ_V (JJ_rep hj.1 (by omega) (rg_g1 (rg_g (by omega))) (hj.1.1 _ (Or.inl (by omega)))) (by omega))), ?_⟩
  intro l K X w0 W L hW D P h
  obtain ⟨hKl, hKR, C, Z, hNC, hfl⟩ := id L
  refine pv_aload_n (q := 196) C dL_act_195 rfl rfl rfl ?_
  refine pv_iload_n (q := 197) C dL_act_196 rfl rfl rfl ?_
  refine pv_iload (q := 199) C dL_act_197 rfl rfl ?_
  refine pv_iconst (q := 200) (v := 4) C dL_act_199 rfl (by decide) ?_
  refine pv_iremN (q := 201) (a := w) (b := 4) C rfl rfl (by omega) (by decide) (by decide) dL_act_200 rfl ?_
  refine pv_callLl (q := 204) (rest := []) C Z hNC hKl (c_L_regroup l X D P hfl M (W) h (by omega) (nI p) (nI (w % 4))) tw_667 mw_L_regroup ⟨rfl, rfl⟩ (by rw [hKR]; exact ⟨Nat.le_of_ble_eq_true rfl, Nat.le_of_ble_eq_true rfl⟩) (by rw [hKR]; constructor <;> (dsimp only; omega)) rfl rfl rfl (Nat.le_of_ble_eq_true rfl) dL_act_201 rfl (fun r1 D1 P1 q1 => ?_)
  obtain ⟨rfl, hR1⟩ := QE.toE q1
  exact XK.of (pv_lret C ⟨rfl, RI_W hR1 (by omega)⟩ (by omega) (by omega) dL_act_204)
set_option maxRecDepth 100000 in
set_option maxHeartbeats 4000000 in
theorem ta_205 {M : DT} {V x y p w v n : Nat} (hx : x < 2 ^ 31) (hy : y < 2 ^ 31) (hp : p < 16) (hw : w < 2 ^ 31) (hv : v < 3) (hn : n < 2 ^ 31) (hj : JM M V) (hk5 : M 6 5 = 0 ∨ M 6 5 = 1)  : ∃ (r : Int64) (E : DT), JM E (V + 7000) ∧ ∀ {l : Launch} {K : KT} {X : XT} {w0 : Cond} {W : Nat} (_ : LK l K X cL_act RL w0 7 (some .long) ({ frames := 10, cells := 160, slots := 960, locals := 360 } : Room)) (_ : W + 40000 < 2 ^ 29) (D : DT) (P : PT) (_ : RI D P M W), PV K X (XK K X (qL X (fun r' D' P' => r' = r ∧ RI D' P' E (W + 10000))) (fun _ _ _ => False) 160 960) 0 0 205 [some (.ref (X.2.2 0)), some (.int (nI x)), some (.int (nI y)), some (.int (nI p)), some (.int (nI w)), some (.int (nI v)), some (.int (nI n))] [] D P := by
  have ep : ix (nI p) = p := ix_n (by omega)
  have ev : ix (nI v) = v := ix_n (by omega)
  refine ⟨wv (kRow (M 7) (nI p)) ((M 7 (16 + ix (nI p)) : Int32).toInt64) cIS, we (kRow (M 7) (nI p)) (va_up (m_save (clr M)) 7 (m_del (M 7) (ix (nI p)))) M, JM_we hj (by omega) (fun z => JM_op hj (by omega) (JJ_V (JJ_del hj.1 (by omega)) (by omega))), ?_⟩
  intro l K X w0 W L hW D P h
  obtain ⟨hKl, hKR, C, Z, hNC, hfl⟩ := id L
  refine pv_aload_n (q := 206) C dL_act_205 rfl rfl rfl ?_
  refine pv_iload_n (q := 207) C dL_act_206 rfl rfl rfl ?_
  refine pv_callLl (q := 210) (rest := []) C Z hNC hKl (c_L_delete l X D P hfl M (W) h (by omega) (nI p)) tw_674 mw_L_delete ⟨rfl, rfl⟩ (by rw [hKR]; exact ⟨Nat.le_of_ble_eq_true rfl, Nat.le_of_ble_eq_true rfl⟩) (by rw [hKR]; constructor <;> (dsimp only; omega)) rfl rfl rfl (Nat.le_of_ble_eq_true rfl) dL_act_207 rfl (fun r1 D1 P1 q1 => ?_)
  obtain ⟨rfl, hR1⟩ := QE.toE q1
  exact XK.of (pv_lret C ⟨rfl, RI_W hR1 (by omega)⟩ (by omega) (by omega) dL_act_210)
set_option maxRecDepth 100000 in
set_option maxHeartbeats 4000000 in
theorem ta_211 {M : DT} {V x y p w v n : Nat} (hx : x < 2 ^ 31) (hy : y < 2 ^ 31) (hp : p < 16) (hw : w < 2 ^ 31) (hv : v < 3) (hn : n < 2 ^ 31) (hj : JM M V) (hk5 : M 6 5 = 0 ∨ M 6 5 = 1)  : ∃ (r : Int64) (E : DT), JM E (V + 7000) ∧ ∀ {l : Launch} {K : KT} {X : XT} {w0 : Cond} {W : Nat} (_ : LK l K X cL_act RL w0 7 (some .long) ({ frames := 10, cells := 160, slots := 960, locals := 360 } : Room)) (_ : W + 40000 < 2 ^ 29) (D : DT) (P : PT) (_ : RI D P M W), PV K X (XK K X (qL X (fun r' D' P' => r' = r ∧ RI D' P' E (W + 10000))) (fun _ _ _ => False) 160 960) 0 0 211 [some (.ref (X.2.2 0)), some (.int (nI x)), some (.int (nI y)), some (.int (nI p)), some (.int (nI w)), some (.int (nI v)), some (.int (nI n))] [] D P := by
  have ep : ix (nI p) = p := ix_n (by omega)
  have ev : ix (nI v) = v := ix_n (by omega)
  refine ⟨wv (kNap (M 7) (nI v)) ((nI (nps (m_nap (M 7) (ix (nI v)))) : Int32).toInt64) cIS, we (kNap (M 7) (nI v)) (va_up (m_save (clr M)) 7 (m_nap (M 7) (ix (nI v)))) M, JM_we hj (by omega) (fun z => JM_op hj (by omega) (JJ_V (JJ_nap hj.1 (by omega)) (by omega))), ?_⟩
  intro l K X w0 W L hW D P h
  obtain ⟨hKl, hKR, C, Z, hNC, hfl⟩ := id L
  refine pv_aload_n (q := 212) C dL_act_211 rfl rfl rfl ?_
  refine pv_iload (q := 214) C dL_act_212 rfl rfl ?_
  refine pv_callLl (q := 217) (rest := []) C Z hNC hKl (c_L_nap l X D P hfl M (W) h (by omega) (nI v)) tw_685 mw_L_nap ⟨rfl, rfl⟩ (by rw [hKR]; exact ⟨Nat.le_of_ble_eq_true rfl, Nat.le_of_ble_eq_true rfl⟩) (by rw [hKR]; constructor <;> (dsimp only; omega)) rfl rfl rfl (Nat.le_of_ble_eq_true rfl) dL_act_214 rfl (fun r1 D1 P1 q1 => ?_)
  obtain ⟨rfl, hR1⟩ := QE.toE q1
  exact XK.of (pv_lret C ⟨rfl, RI_W hR1 (by omega)⟩ (by omega) (by omega) dL_act_217)
set_option maxRecDepth 100000 in
set_option maxHeartbeats 4000000 in
theorem ta_218a {M : DT} {V x y p w v n : Nat} (hx : x < 2 ^ 31) (hy : y < 2 ^ 31) (hp : p < 16) (hw : w < 2 ^ 31) (hv : v < 3) (hn : n < 2 ^ 31) (hj : JM M V) (hk5 : M 6 5 = 0 ∨ M 6 5 = 1) (h3 : n % 2 = 0) : ∃ (r : Int64) (E : DT), JM E (V + 7000) ∧ ∀ {l : Launch} {K : KT} {X : XT} {w0 : Cond} {W : Nat} (_ : LK l K X cL_act RL w0 7 (some .long) ({ frames := 10, cells := 160, slots := 960, locals := 360 } : Room)) (_ : W + 40000 < 2 ^ 29) (D : DT) (P : PT) (_ : RI D P M W), PV K X (XK K X (qL X (fun r' D' P' => r' = r ∧ RI D' P' E (W + 10000))) (fun _ _ _ => False) 160 960) 0 0 218 [some (.ref (X.2.2 0)), some (.int (nI x)), some (.int (nI y)), some (.int (nI p)), some (.int (nI w)), some (.int (nI v)), some (.int (nI n))] [] D P := by
  have ep : ix (nI p) = p := ix_n (by omega)
  have ev : ix (nI v) = v := ix_n (by omega)
  refine ⟨wv (kWak (M 7) (nI v)) ((wt (M 7) (ix (nI v)) : Int32).toInt64) cIS, we (kWak (M 7) (nI v)) (va_up (m_save (clr M)) 7 (m_wake (M 7) (ix (nI v)))) M, JM_we hj (by omega) (fun z => JM_op hj (by omega) (JJ_V (JJ_wake hj.1) (by omega))), ?_⟩
  intro l K X w0 W L hW D P h
  obtain ⟨hKl, hKR, C, Z, hNC, hfl⟩ := id L
  refine pv_iload (q := 220) C dL_act_218 rfl rfl ?_
  refine pv_iconst (q := 221) (v := 2) C dL_act_220 rfl (by decide) ?_
  refine pv_iremN (q := 222) (a := n) (b := 2) C rfl rfl (by omega) (by decide) (by decide) dL_act_221 rfl ?_
  refine pv_if_ne (q := 225) (tgt := 234) C dL_act_222 (by decide) rfl (fun c222_1 => False.elim (c222_1 (by rw [h3]; rfl))) (fun _ => ?_)
  refine pv_aload_n (q := 226) C dL_act_225 rfl rfl rfl ?_
  refine pv_iload (q := 228) C dL_act_226 rfl rfl ?_
  refine pv_callLl (q := 231) (rest := []) C Z hNC hKl (c_L_wake l X D P hfl M (W) h (by omega) (nI v)) tw_701 mw_L_wake ⟨rfl, rfl⟩ (by rw [hKR]; exact ⟨Nat.le_of_ble_eq_true rfl, Nat.le_of_ble_eq_true rfl⟩) (by rw [hKR]; constructor <;> (dsimp only; omega)) rfl rfl rfl (Nat.le_of_ble_eq_true rfl) dL_act_228 rfl (fun r2 D2 P2 q2 => ?_)
  obtain ⟨rfl, hR2⟩ := QE.toE q2
  refine pv_goto (tgt := 240) C dL_act_231 (by decide) ?_
  exact XK.of (pv_lret C ⟨rfl, RI_W hR2 (by omega)⟩ (by omega) (by omega) dL_act_240)
set_option maxRecDepth 100000 in
set_option maxHeartbeats 4000000 in
theorem ta_218b {M : DT} {V x y p w v n : Nat} (hx : x < 2 ^ 31) (hy : y < 2 ^ 31) (hp : p < 16) (hw : w < 2 ^ 31) (hv : v < 3) (hn : n < 2 ^ 31) (hj : JM M V) (hk5 : M 6 5 = 0 ∨ M 6 5 = 1) (h3 : ¬ n % 2 = 0) : ∃ (r : Int64) (E : DT), JM E (V + 7000) ∧ ∀ {l : Launch} {K : KT} {X : XT} {w0 : Cond} {W : Nat} (_ : LK l K X cL_act RL w0 7 (some .long) ({ frames := 10, cells := 160, slots := 960, locals := 360 } : Room)) (_ : W + 40000 < 2 ^ 29) (D : DT) (P : PT) (_ : RI D P M W), PV K X (XK K X (qL X (fun r' D' P' => r' = r ∧ RI D' P' E (W + 10000))) (fun _ _ _ => False) 160 960) 0 0 218 [some (.ref (X.2.2 0)), some (.int (nI x)), some (.int (nI y)), some (.int (nI p)), some (.int (nI w)), some (.int (nI v)), some (.int (nI n))] [] D P := by
  have ep : ix (nI p) = p := ix_n (by omega)
  have ev : ix (nI v) = v := ix_n (by omega)
  refine ⟨wv (kView (nI v)) ((wt (M 7) (ix (nI v)) : Int32).toInt64) cI, we (kView (nI v)) (va_up (m_save (clr M)) 7 (m_ref (M 7) (ix (nI v)))) M, JM_we hj (by omega) (fun z => JM_op hj (by omega) (JJ_V (JJ_ref hj.1) (by omega))), ?_⟩
  intro l K X w0 W L hW D P h
  obtain ⟨hKl, hKR, C, Z, hNC, hfl⟩ := id L
  refine pv_iload (q := 220) C dL_act_218 rfl rfl ?_
  refine pv_iconst (q := 221) (v := 2) C dL_act_220 rfl (by decide) ?_
  refine pv_iremN (q := 222) (a := n) (b := 2) C rfl rfl (by omega) (by decide) (by decide) dL_act_221 rfl ?_
  refine pv_if_ne (q := 225) (tgt := 234) C dL_act_222 (by decide) rfl (fun _ => ?_) (fun c222_1 => False.elim (absurd c222_1 (nI_ne0 (by omega) (by omega))))
  refine pv_aload_n (q := 235) C dL_act_234 rfl rfl rfl ?_
  refine pv_iload (q := 237) C dL_act_235 rfl rfl ?_
  refine pv_callLl (q := 240) (rest := []) C Z hNC hKl (c_L_refresh l X D P hfl M (W) h (by omega) (nI v)) tw_710 mw_L_refresh ⟨rfl, rfl⟩ (by rw [hKR]; exact ⟨Nat.le_of_ble_eq_true rfl, Nat.le_of_ble_eq_true rfl⟩) (by rw [hKR]; constructor <;> (dsimp only; omega)) rfl rfl rfl (Nat.le_of_ble_eq_true rfl) dL_act_237 rfl (fun r2 D2 P2 q2 => ?_)
  obtain ⟨rfl, hR2⟩ := QE.toE q2
  exact XK.of (pv_lret C ⟨rfl, RI_W hR2 (by omega)⟩ (by omega) (by omega) dL_act_240)
set_option maxRecDepth 100000 in
set_option maxHeartbeats 4000000 in
theorem ta_241 {M : DT} {V x y p w v n : Nat} (hx : x < 2 ^ 31) (hy : y < 2 ^ 31) (hp : p < 16) (hw : w < 2 ^ 31) (hv : v < 3) (hn : n < 2 ^ 31) (hj : JM M V) (hk5 : M 6 5 = 0 ∨ M 6 5 = 1)  : ∃ (r : Int64) (E : DT), JM E (V + 7000) ∧ ∀ {l : Launch} {K : KT} {X : XT} {w0 : Cond} {W : Nat} (_ : LK l K X cL_act RL w0 7 (some .long) ({ frames := 10, cells := 160, slots := 960, locals := 360 } : Room)) (_ : W + 40000 < 2 ^ 29) (D : DT) (P : PT) (_ : RI D P M W), PV K X (XK K X (qL X (fun r' D' P' => r' = r ∧ RI D' P' E (W + 10000))) (fun _ _ _ => False) 160 960) 0 0 241 [some (.ref (X.2.2 0)), some (.int (nI x)), some (.int (nI y)), some (.int (nI p)), some (.int (nI w)), some (.int (nI v)), some (.int (nI n))] [] D P := by
  have ep : ix (nI p) = p := ix_n (by omega)
  have ev : ix (nI v) = v := ix_n (by omega)
  refine ⟨wv (kSet (nI v) (nI (n % 41) - 20) (-99) 99) ((M 7 (32 + 38 * ix (nI v) + 34) : Int32).toInt64) cIX, we (kSet (nI v) (nI (n % 41) - 20) (-99) 99) (va_up (m_save (clr M)) 7 (m_ref (setV (M 7) (ix (nI v)) 34 (nI (n % 41) - 20)) (ix (nI v)))) M, JM_we hj (by omega) (fun z => JM_op hj (by omega) (JJ_V (JJ_ref (JJ_set hj.1 (by omega) (Or.inl ⟨rfl, rgAm (c := 20) (by omega) (by omega)⟩))) (by omega))), ?_⟩
  intro l K X w0 W L hW D P h
  obtain ⟨hKl, hKR, C, Z, hNC, hfl⟩ := id L
  refine pv_aload_n (q := 242) C dL_act_241 rfl rfl rfl ?_
  refine pv_iload (q := 244) C dL_act_242 rfl rfl ?_
  refine pv_iload (q := 246) C dL_act_244 rfl rfl ?_
  refine pv_bipush (q := 248) (v := 41) C dL_act_246 rfl (by decide) ?_
  refine pv_iremN (q := 249) (a := n) (b := 41) C rfl rfl (by omega) (by decide) (by decide) dL_act_248 rfl ?_
  refine pv_bipush (q := 251) (v := 20) C dL_act_249 rfl (by decide) ?_
  refine pv_isub (q := 252) C dL_act_251 rfl ?_
  refine pv_callLl (q := 255) (rest := []) C Z hNC hKl (c_L_setFilter l X D P hfl M (W) h (by omega) (nI v) ((nI (n % 41)) - 20)) tw_726 mw_L_setFilter ⟨rfl, rfl⟩ (by rw [hKR]; exact ⟨Nat.le_of_ble_eq_true rfl, Nat.le_of_ble_eq_true rfl⟩) (by rw [hKR]; constructor <;> (dsimp only; omega)) rfl rfl rfl (Nat.le_of_ble_eq_true rfl) dL_act_252 rfl (fun r1 D1 P1 q1 => ?_)
  obtain ⟨rfl, hR1⟩ := QE.toE q1
  exact XK.of (pv_lret C ⟨rfl, RI_W hR1 (by omega)⟩ (by omega) (by omega) dL_act_255)
set_option maxRecDepth 100000 in
set_option maxHeartbeats 4000000 in
theorem ta_256a {M : DT} {V x y p w v n : Nat} (hx : x < 2 ^ 31) (hy : y < 2 ^ 31) (hp : p < 16) (hw : w < 2 ^ 31) (hv : v < 3) (hn : n < 2 ^ 31) (hj : JM M V) (hk5 : M 6 5 = 0 ∨ M 6 5 = 1) (h3 : n % 2 = 0) : ∃ (r : Int64) (E : DT), JM E (V + 7000) ∧ ∀ {l : Launch} {K : KT} {X : XT} {w0 : Cond} {W : Nat} (_ : LK l K X cL_act RL w0 7 (some .long) ({ frames := 10, cells := 160, slots := 960, locals := 360 } : Room)) (_ : W + 40000 < 2 ^ 29) (D : DT) (P : PT) (_ : RI D P M W), PV K X (XK K X (qL X (fun r' D' P' => r' = r ∧ RI D' P' E (W + 10000))) (fun _ _ _ => False) 160 960) 0 0 256 [some (.ref (X.2.2 0)), some (.int (nI x)), some (.int (nI y)), some (.int (nI p)), some (.int (nI w)), some (.int (nI v)), some (.int (nI n))] [] D P := by
  have ep : ix (nI p) = p := ix_n (by omega)
  have ev : ix (nI v) = v := ix_n (by omega)
  refine ⟨wv (kSet (nI v) (nI (1 + n % 12)) 1 30) ((M 7 (32 + 38 * ix (nI v) + 35) : Int32).toInt64) cIX, we (kSet (nI v) (nI (1 + n % 12)) 1 30) (va_up (m_save (clr M)) 7 (m_settle (setV (M 7) (ix (nI v)) 35 (nI (1 + n % 12))))) M, JM_we hj (by omega) (fun z => JM_op hj (by omega) (JJ_V (JJ_settle (JJ_set hj.1 (by omega) (Or.inr (Or.inl rfl)))) (by omega))), ?_⟩
  intro l K X w0 W L hW D P h
  obtain ⟨hKl, hKR, C, Z, hNC, hfl⟩ := id L
  refine pv_iload (q := 258) C dL_act_256 rfl rfl ?_
  refine pv_iconst (q := 259) (v := 2) C dL_act_258 rfl (by decide) ?_
  refine pv_iremN (q := 260) (a := n) (b := 2) C rfl rfl (by omega) (by decide) (by decide) dL_act_259 rfl ?_
  refine pv_if_ne (q := 263) (tgt := 279) C dL_act_260 (by decide) rfl (fun c260_1 => False.elim (c260_1 (by rw [h3]; rfl))) (fun _ => ?_)
  refine pv_aload_n (q := 264) C dL_act_263 rfl rfl rfl ?_
  refine pv_iload (q := 266) C dL_act_264 rfl rfl ?_
  refine pv_iconst (q := 267) (v := 1) C dL_act_266 rfl (by decide) ?_
  refine pv_iload (q := 269) C dL_act_267 rfl rfl ?_
  refine pv_bipush (q := 271) (v := 12) C dL_act_269 rfl (by decide) ?_
  refine pv_iremN (q := 272) (a := n) (b := 12) C rfl rfl (by omega) (by decide) (by decide) dL_act_271 rfl ?_
  refine pv_iaddN (q := 273) (a := 1) (b := (n % 12)) C rfl rfl dL_act_272 rfl ?_
  refine pv_callLl (q := 276) (rest := []) C Z hNC hKl (c_L_setBehind l X D P hfl M (W) h (by omega) (nI v) (nI (1 + (n % 12)))) tw_733 mw_L_setBehind ⟨rfl, rfl⟩ (by rw [hKR]; exact ⟨Nat.le_of_ble_eq_true rfl, Nat.le_of_ble_eq_true rfl⟩) (by rw [hKR]; constructor <;> (dsimp only; omega)) rfl rfl rfl (Nat.le_of_ble_eq_true rfl) dL_act_273 rfl (fun r2 D2 P2 q2 => ?_)
  obtain ⟨rfl, hR2⟩ := QE.toE q2
  refine pv_goto (tgt := 292) C dL_act_276 (by decide) ?_
  exact XK.of (pv_lret C ⟨rfl, RI_W hR2 (by omega)⟩ (by omega) (by omega) dL_act_292)
set_option maxRecDepth 100000 in
set_option maxHeartbeats 4000000 in
theorem ta_256b {M : DT} {V x y p w v n : Nat} (hx : x < 2 ^ 31) (hy : y < 2 ^ 31) (hp : p < 16) (hw : w < 2 ^ 31) (hv : v < 3) (hn : n < 2 ^ 31) (hj : JM M V) (hk5 : M 6 5 = 0 ∨ M 6 5 = 1) (h3 : ¬ n % 2 = 0) : ∃ (r : Int64) (E : DT), JM E (V + 7000) ∧ ∀ {l : Launch} {K : KT} {X : XT} {w0 : Cond} {W : Nat} (_ : LK l K X cL_act RL w0 7 (some .long) ({ frames := 10, cells := 160, slots := 960, locals := 360 } : Room)) (_ : W + 40000 < 2 ^ 29) (D : DT) (P : PT) (_ : RI D P M W), PV K X (XK K X (qL X (fun r' D' P' => r' = r ∧ RI D' P' E (W + 10000))) (fun _ _ _ => False) 160 960) 0 0 256 [some (.ref (X.2.2 0)), some (.int (nI x)), some (.int (nI y)), some (.int (nI p)), some (.int (nI w)), some (.int (nI v)), some (.int (nI n))] [] D P := by
  have ep : ix (nI p) = p := ix_n (by omega)
  have ev : ix (nI v) = v := ix_n (by omega)
  refine ⟨wv (kSet (nI v) (nI (1 + n % 12)) 1 30) ((M 7 (32 + 38 * ix (nI v) + 36) : Int32).toInt64) cIX, we (kSet (nI v) (nI (1 + n % 12)) 1 30) (va_up (m_save (clr M)) 7 (setV (M 7) (ix (nI v)) 36 (nI (1 + n % 12)))) M, JM_we hj (by omega) (fun z => JM_op hj (by omega) (JJ_V (JJ_set hj.1 (by omega) (Or.inr (Or.inr ⟨rfl, 1 + n % 12, by omega, by omega, rfl⟩))) (by omega))), ?_⟩
  intro l K X w0 W L hW D P h
  obtain ⟨hKl, hKR, C, Z, hNC, hfl⟩ := id L
  refine pv_iload (q := 258) C dL_act_256 rfl rfl ?_
  refine pv_iconst (q := 259) (v := 2) C dL_act_258 rfl (by decide) ?_
  refine pv_iremN (q := 260) (a := n) (b := 2) C rfl rfl (by omega) (by decide) (by decide) dL_act_259 rfl ?_
  refine pv_if_ne (q := 263) (tgt := 279) C dL_act_260 (by decide) rfl (fun _ => ?_) (fun c260_1 => False.elim (absurd c260_1 (nI_ne0 (by omega) (by omega))))
  refine pv_aload_n (q := 280) C dL_act_279 rfl rfl rfl ?_
  refine pv_iload (q := 282) C dL_act_280 rfl rfl ?_
  refine pv_iconst (q := 283) (v := 1) C dL_act_282 rfl (by decide) ?_
  refine pv_iload (q := 285) C dL_act_283 rfl rfl ?_
  refine pv_bipush (q := 287) (v := 12) C dL_act_285 rfl (by decide) ?_
  refine pv_iremN (q := 288) (a := n) (b := 12) C rfl rfl (by omega) (by decide) (by decide) dL_act_287 rfl ?_
  refine pv_iaddN (q := 289) (a := 1) (b := (n % 12)) C rfl rfl dL_act_288 rfl ?_
  refine pv_callLl (q := 292) (rest := []) C Z hNC hKl (c_L_setLongest l X D P hfl M (W) h (by omega) (nI v) (nI (1 + (n % 12)))) tw_745 mw_L_setLongest ⟨rfl, rfl⟩ (by rw [hKR]; exact ⟨Nat.le_of_ble_eq_true rfl, Nat.le_of_ble_eq_true rfl⟩) (by rw [hKR]; constructor <;> (dsimp only; omega)) rfl rfl rfl (Nat.le_of_ble_eq_true rfl) dL_act_289 rfl (fun r2 D2 P2 q2 => ?_)
  obtain ⟨rfl, hR2⟩ := QE.toE q2
  exact XK.of (pv_lret C ⟨rfl, RI_W hR2 (by omega)⟩ (by omega) (by omega) dL_act_292)
set_option maxRecDepth 100000 in
set_option maxHeartbeats 4000000 in
theorem ta_293 {M : DT} {V x y p w v n : Nat} (hx : x < 2 ^ 31) (hy : y < 2 ^ 31) (hp : p < 16) (hw : w < 2 ^ 31) (hv : v < 3) (hn : n < 2 ^ 31) (hj : JM M V) (hk5 : M 6 5 = 0 ∨ M 6 5 = 1)  : ∃ (r : Int64) (E : DT), JM E (V + 7000) ∧ ∀ {l : Launch} {K : KT} {X : XT} {w0 : Cond} {W : Nat} (_ : LK l K X cL_act RL w0 7 (some .long) ({ frames := 10, cells := 160, slots := 960, locals := 360 } : Room)) (_ : W + 40000 < 2 ^ 29) (D : DT) (P : PT) (_ : RI D P M W), PV K X (XK K X (qL X (fun r' D' P' => r' = r ∧ RI D' P' E (W + 10000))) (fun _ _ _ => False) 160 960) 0 0 293 [some (.ref (X.2.2 0)), some (.int (nI x)), some (.int (nI y)), some (.int (nI p)), some (.int (nI w)), some (.int (nI v)), some (.int (nI n))] [] D P := by
  have ep : ix (nI p) = p := ix_n (by omega)
  have ev : ix (nI v) = v := ix_n (by omega)
  have et : ix (nI (1 + n % 3)) = 1 + n % 3 := ix_n (by omega)
  refine ⟨wv (kRg (nI (1 + n % 3)) 1 30) ((m_ticks (M 7) (ix (nI (1 + n % 3))) 181 - M 7 181 : Int32).toInt64) cX, we (kRg (nI (1 + n % 3)) 1 30) (va_up (m_save (clr M)) 7 (m_ticks (M 7) (ix (nI (1 + n % 3))))) M, JM_we hj (by omega) (fun z => JM_op hj (by omega) (JJ_V (JJ_ticks hj.1 _) (by omega))), ?_⟩
  intro l K X w0 W L hW D P h
  obtain ⟨hKl, hKR, C, Z, hNC, hfl⟩ := id L
  refine pv_aload_n (q := 294) C dL_act_293 rfl rfl rfl ?_
  refine pv_iconst (q := 295) (v := 1) C dL_act_294 rfl (by decide) ?_
  refine pv_iload (q := 297) C dL_act_295 rfl rfl ?_
  refine pv_iconst (q := 298) (v := 3) C dL_act_297 rfl (by decide) ?_
  refine pv_iremN (q := 299) (a := n) (b := 3) C rfl rfl (by omega) (by decide) (by decide) dL_act_298 rfl ?_
  refine pv_iaddN (q := 300) (a := 1) (b := (n % 3)) C rfl rfl dL_act_299 rfl ?_
  refine pv_callLl (q := 303) (rest := []) C Z hNC hKl (c_L_pass l X D P hfl M (W) h (by omega) (nI (1 + (n % 3)))) tw_752 mw_L_pass ⟨rfl, rfl⟩ (by rw [hKR]; exact ⟨Nat.le_of_ble_eq_true rfl, Nat.le_of_ble_eq_true rfl⟩) (by rw [hKR]; constructor <;> (dsimp only; omega)) rfl rfl rfl (Nat.le_of_ble_eq_true rfl) dL_act_300 rfl (fun r1 D1 P1 q1 => ?_)
  obtain ⟨rfl, hR1⟩ := QE.toE q1
  exact XK.of (pv_lret C ⟨rfl, RI_W hR1 (by omega)⟩ (by omega) (by omega) dL_act_303)
set_option maxRecDepth 100000 in
set_option maxHeartbeats 4000000 in
theorem ta_304 {M : DT} {V x y p w v n : Nat} (hx : x < 2 ^ 31) (hy : y < 2 ^ 31) (hp : p < 16) (hw : w < 2 ^ 31) (hv : v < 3) (hn : n < 2 ^ 31) (hj : JM M V) (hk5 : M 6 5 = 0 ∨ M 6 5 = 1)  : ∃ (r : Int64) (E : DT), JM E (V + 7000) ∧ ∀ {l : Launch} {K : KT} {X : XT} {w0 : Cond} {W : Nat} (_ : LK l K X cL_act RL w0 7 (some .long) ({ frames := 10, cells := 160, slots := 960, locals := 360 } : Room)) (_ : W + 40000 < 2 ^ 29) (D : DT) (P : PT) (_ : RI D P M W), PV K X (XK K X (qL X (fun r' D' P' => r' = r ∧ RI D' P' E (W + 10000))) (fun _ _ _ => False) 160 960) 0 0 304 [some (.ref (X.2.2 0)), some (.int (nI x)), some (.int (nI y)), some (.int (nI p)), some (.int (nI w)), some (.int (nI v)), some (.int (nI n))] [] D P := by
  obtain ⟨r, E, c1, c2⟩ := told_ex (x := n) hn hj
  refine ⟨r, E, JM_V c1 (by omega), ?_⟩
  intro l K X w0 W L hW D P h
  obtain ⟨hKl, hKR, C, Z, hNC, hfl⟩ := id L
  refine pv_aload_n (q := 305) C dL_act_304 rfl rfl rfl ?_
  refine pv_iload (q := 307) C dL_act_305 rfl rfl ?_
  refine pv_callMl (q := 310) (rest := []) C Z hNC hKl (c2 l X D P W hfl h (by omega)) tw_986 mm_L_told ⟨rfl, rfl⟩ (by rw [hKR]; exact ⟨Nat.le_of_ble_eq_true rfl, Nat.le_of_ble_eq_true rfl⟩) (by rw [hKR]; constructor <;> (dsimp only; omega)) rfl rfl rfl (Nat.le_of_ble_eq_true rfl) dL_act_307 rfl (fun r1 D1 P1 q1 => ?_)
  obtain ⟨rfl, hR1⟩ := q1
  exact XK.of (pv_lret C ⟨rfl, RI_W hR1 (by omega)⟩ (by omega) (by omega) dL_act_310)
set_option maxRecDepth 100000 in
set_option maxHeartbeats 4000000 in
theorem ta_311 {M : DT} {V x y p w v n : Nat} (hx : x < 2 ^ 31) (hy : y < 2 ^ 31) (hp : p < 16) (hw : w < 2 ^ 31) (hv : v < 3) (hn : n < 2 ^ 31) (hj : JM M V) (hk5 : M 6 5 = 0 ∨ M 6 5 = 1)  : ∃ (r : Int64) (E : DT), JM E (V + 7000) ∧ ∀ {l : Launch} {K : KT} {X : XT} {w0 : Cond} {W : Nat} (_ : LK l K X cL_act RL w0 7 (some .long) ({ frames := 10, cells := 160, slots := 960, locals := 360 } : Room)) (_ : W + 40000 < 2 ^ 29) (D : DT) (P : PT) (_ : RI D P M W), PV K X (XK K X (qL X (fun r' D' P' => r' = r ∧ RI D' P' E (W + 10000))) (fun _ _ _ => False) 160 960) 0 0 311 [some (.ref (X.2.2 0)), some (.int (nI x)), some (.int (nI y)), some (.int (nI p)), some (.int (nI w)), some (.int (nI v)), some (.int (nI n))] [] D P := by
  have ep : ix (nI p) = p := ix_n (by omega)
  have ev : ix (nI v) = v := ix_n (by omega)
  obtain ⟨s, hs5, hs3⟩ : ∃ s, s ≤ 5 ∧ M 6 3 = nI s := by
    obtain ⟨-, ⟨s, a, b, -⟩, -⟩ := hj
    exact ⟨s, a, b⟩
  refine ⟨wv (if s = 0 then 1 else 0) ((nI (s - 1) : Int32).toInt64) cS, we (if s = 0 then 1 else 0) (m_und (clr M) s) M, JM_we hj (by omega) (fun z => JM_V (JM_und hj hs3 hs5 (Nat.pos_of_ne_zero (fun q => absurd z (by rw [if_pos q]; decide)))) (by omega)), ?_⟩
  intro l K X w0 W L hW D P h
  obtain ⟨hKl, hKR, C, Z, hNC, hfl⟩ := id L
  refine pv_aload_n (q := 312) C dL_act_311 rfl rfl rfl ?_
  refine pv_callLl (q := 315) (rest := []) C Z hNC hKl (c_L_undo l X D P hfl M (W) h (by omega) s hs5 hs3) tw_938 mw_L_undo ⟨rfl, rfl⟩ (by rw [hKR]; exact ⟨Nat.le_of_ble_eq_true rfl, Nat.le_of_ble_eq_true rfl⟩) (by rw [hKR]; constructor <;> (dsimp only; omega)) rfl rfl rfl (Nat.le_of_ble_eq_true rfl) dL_act_312 rfl (fun r1 D1 P1 q1 => ?_)
  obtain ⟨rfl, hR1⟩ := QE.toE q1
  exact XK.of (pv_lret C ⟨rfl, RI_W hR1 (by omega)⟩ (by omega) (by omega) dL_act_315)
set_option maxRecDepth 100000 in
set_option maxHeartbeats 4000000 in
theorem ta_316a {M : DT} {V x y p w v n : Nat} (hx : x < 2 ^ 31) (hy : y < 2 ^ 31) (hp : p < 16) (hw : w < 2 ^ 31) (hv : v < 3) (hn : n < 2 ^ 31) (hj : JM M V) (hk5 : M 6 5 = 0 ∨ M 6 5 = 1) (h3 : w % 2 = 0) : ∃ (r : Int64) (E : DT), JM E (V + 7000) ∧ ∀ {l : Launch} {K : KT} {X : XT} {w0 : Cond} {W : Nat} (_ : LK l K X cL_act RL w0 7 (some .long) ({ frames := 10, cells := 160, slots := 960, locals := 360 } : Room)) (_ : W + 40000 < 2 ^ 29) (D : DT) (P : PT) (_ : RI D P M W), PV K X (XK K X (qL X (fun r' D' P' => r' = r ∧ RI D' P' E (W + 10000))) (fun _ _ _ => False) 160 960) 0 0 316 [some (.ref (X.2.2 0)), some (.int (nI x)), some (.int (nI y)), some (.int (nI p)), some (.int (nI w)), some (.int (nI v)), some (.int (nI n))] [] D P := by
  refine ⟨(nI (tk (M 7)) : Int32).toInt64, m_keep (clr M), JM_V (JM_keep (JM_clr hj)) (by omega), ?_⟩
  intro l K X w0 W L hW D P h
  obtain ⟨hKl, hKR, C, Z, hNC, hfl⟩ := id L
  refine pv_iload (q := 318) C dL_act_316 rfl rfl ?_
  refine pv_iconst (q := 319) (v := 2) C dL_act_318 rfl (by decide) ?_
  refine pv_iremN (q := 320) (a := w) (b := 2) C rfl rfl (by omega) (by decide) (by decide) dL_act_319 rfl ?_
  refine pv_if_ne (q := 323) (tgt := 331) C dL_act_320 (by decide) rfl (fun c320_1 => False.elim (c320_1 (by rw [h3]; rfl))) (fun _ => ?_)
  refine pv_aload_n (q := 324) C dL_act_323 rfl rfl rfl ?_
  refine pv_callVi (q := 327) (rest := []) C hKl (c_X6_keep l X D P M (W) h (by omega)) tw_226 (show kd 0 = 6 from rfl) (by decide) rfl mm_X6_keep ⟨rfl, rfl⟩ (by rw [hKR]; exact ⟨Nat.le_of_ble_eq_true rfl, Nat.le_of_ble_eq_true rfl⟩) (by rw [hKR]; constructor <;> (dsimp only; omega)) rfl rfl rfl (Nat.le_of_ble_eq_true rfl) dL_act_324 rfl (fun r2 D2 P2 q2 => ?_)
  obtain ⟨rfl, hR2, -⟩ := q2
  refine pv_i2l (q := 328) C dL_act_327 rfl ?_
  refine pv_goto (tgt := 335) C dL_act_328 (by decide) ?_
  exact XK.of (pv_lret C ⟨rfl, RI_W hR2 (by omega)⟩ (by omega) (by omega) dL_act_335)
set_option maxRecDepth 100000 in
set_option maxHeartbeats 4000000 in
theorem ta_316b {M : DT} {V x y p w v n : Nat} (hx : x < 2 ^ 31) (hy : y < 2 ^ 31) (hp : p < 16) (hw : w < 2 ^ 31) (hv : v < 3) (hn : n < 2 ^ 31) (hj : JM M V) (hk5 : M 6 5 = 0 ∨ M 6 5 = 1) (h3 : ¬ w % 2 = 0) : ∃ (r : Int64) (E : DT), JM E (V + 7000) ∧ ∀ {l : Launch} {K : KT} {X : XT} {w0 : Cond} {W : Nat} (_ : LK l K X cL_act RL w0 7 (some .long) ({ frames := 10, cells := 160, slots := 960, locals := 360 } : Room)) (_ : W + 40000 < 2 ^ 29) (D : DT) (P : PT) (_ : RI D P M W), PV K X (XK K X (qL X (fun r' D' P' => r' = r ∧ RI D' P' E (W + 10000))) (fun _ _ _ => False) 160 960) 0 0 316 [some (.ref (X.2.2 0)), some (.int (nI x)), some (.int (nI y)), some (.int (nI p)), some (.int (nI w)), some (.int (nI v)), some (.int (nI n))] [] D P := by
  have ep : ix (nI p) = p := ix_n (by omega)
  have ev : ix (nI v) = v := ix_n (by omega)
  have h5 : (if M 6 5 = 0 then (1 : Int32) else 0) = 0 → m_save (clr M) 6 5 = 1 := by
    intro z
    obtain ⟨s, hs5, hs3⟩ : ∃ s, s ≤ 5 ∧ M 6 3 = nI s := by
      obtain ⟨-, ⟨s, a, b, -⟩, -⟩ := hj
      exact ⟨s, a, b⟩
    rw [(sv_8 hs3 hs5).2.2.1]
    rcases hk5 with q | q
    · rw [if_pos q] at z; exact absurd z (by decide)
    · exact q
  refine ⟨wv (if M 6 5 = 0 then 1 else 0) ((nI (tk (M 9)) : Int32).toInt64) cS, we (if M 6 5 = 0 then 1 else 0) (m_rest (m_save (clr M))) M, JM_we hj (by omega) (fun z => JM_V (JM_rest (JM_save (JM_clr hj)) (h5 z)) (by omega)), ?_⟩
  intro l K X w0 W L hW D P h
  obtain ⟨hKl, hKR, C, Z, hNC, hfl⟩ := id L
  refine pv_iload (q := 318) C dL_act_316 rfl rfl ?_
  refine pv_iconst (q := 319) (v := 2) C dL_act_318 rfl (by decide) ?_
  refine pv_iremN (q := 320) (a := w) (b := 2) C rfl rfl (by omega) (by decide) (by decide) dL_act_319 rfl ?_
  refine pv_if_ne (q := 323) (tgt := 331) C dL_act_320 (by decide) rfl (fun _ => ?_) (fun c320_1 => False.elim (absurd c320_1 (nI_ne0 (by omega) (by omega))))
  refine pv_aload_n (q := 332) C dL_act_331 rfl rfl rfl ?_
  refine pv_callLl (q := 335) (rest := []) C Z hNC hKl (c_L_restore l X D P hfl M (W) h (by omega)) tw_268 mw_L_restore ⟨rfl, rfl⟩ (by rw [hKR]; exact ⟨Nat.le_of_ble_eq_true rfl, Nat.le_of_ble_eq_true rfl⟩) (by rw [hKR]; constructor <;> (dsimp only; omega)) rfl rfl rfl (Nat.le_of_ble_eq_true rfl) dL_act_332 rfl (fun r2 D2 P2 q2 => ?_)
  obtain ⟨rfl, hR2⟩ := QE.toE q2
  exact XK.of (pv_lret C ⟨rfl, RI_W hR2 (by omega)⟩ (by omega) (by omega) dL_act_335)
set_option maxRecDepth 100000 in
set_option maxHeartbeats 4000000 in
theorem ta_336 {M : DT} {V x y p w v n : Nat} (hx : x < 2 ^ 31) (hy : y < 2 ^ 31) (hp : p < 16) (hw : w < 2 ^ 31) (hv : v < 3) (hn : n < 2 ^ 31) (hj : JM M V) (hk5 : M 6 5 = 0 ∨ M 6 5 = 1)  : ∃ (r : Int64) (E : DT), JM E (V + 7000) ∧ ∀ {l : Launch} {K : KT} {X : XT} {w0 : Cond} {W : Nat} (_ : LK l K X cL_act RL w0 7 (some .long) ({ frames := 10, cells := 160, slots := 960, locals := 360 } : Room)) (_ : W + 40000 < 2 ^ 29) (D : DT) (P : PT) (_ : RI D P M W), PV K X (XK K X (qL X (fun r' D' P' => r' = r ∧ RI D' P' E (W + 10000))) (fun _ _ _ => False) 160 960) 0 0 336 [some (.ref (X.2.2 0)), some (.int (nI x)), some (.int (nI y)), some (.int (nI p)), some (.int (nI w)), some (.int (nI v)), some (.int (nI n))] [] D P := by
  have ep : ix (nI p) = p := ix_n (by omega)
  have ev : ix (nI v) = v := ix_n (by omega)
  refine ⟨wv (kIns (M 7) (nI p) (0) (nI (n % 9))) ((nI (tk (m_ins (M 7) (ix (nI p)) (0) (nI (n % 9)))) : Int32).toInt64) cIXS, we (kIns (M 7) (nI p) (0) (nI (n % 9))) (va_up (m_save (clr M)) 7 (m_ins (M 7) (ix (nI p)) (0) (nI (n % 9)))) M, JM_we hj (by omega) (fun z => JM_op hj (by omega) (JJ_V (JJ_ins hj.1 (by omega) (by decide) (rg_nn (by omega))) (by omega))), ?_⟩
  intro l K X w0 W L hW D P h
  obtain ⟨hKl, hKR, C, Z, hNC, hfl⟩ := id L
  refine pv_aload_n (q := 337) C dL_act_336 rfl rfl rfl ?_
  refine pv_iload_n (q := 338) C dL_act_337 rfl rfl rfl ?_
  refine pv_iconst (q := 339) (v := 0) C dL_act_338 rfl (by decide) ?_
  refine pv_iload (q := 341) C dL_act_339 rfl rfl ?_
  refine pv_bipush (q := 343) (v := 9) C dL_act_341 rfl (by decide) ?_
  refine pv_iremN (q := 344) (a := n) (b := 9) C rfl rfl (by omega) (by decide) (by decide) dL_act_343 rfl ?_
  refine pv_callLl (q := 347) (rest := []) C Z hNC hKl (c_L_insert l X D P hfl M (W) h (by omega) (nI p) 0 (nI (n % 9))) tw_598 mw_L_insert ⟨rfl, rfl⟩ (by rw [hKR]; exact ⟨Nat.le_of_ble_eq_true rfl, Nat.le_of_ble_eq_true rfl⟩) (by rw [hKR]; constructor <;> (dsimp only; omega)) rfl rfl rfl (Nat.le_of_ble_eq_true rfl) dL_act_344 rfl (fun r1 D1 P1 q1 => ?_)
  obtain ⟨rfl, hR1⟩ := QE.toE q1
  exact XK.of (pv_lret C ⟨rfl, RI_W hR1 (by omega)⟩ (by omega) (by omega) dL_act_347)
set_option maxRecDepth 100000 in
set_option maxHeartbeats 4000000 in
theorem ta_any {M : DT} {V x y p w v n : Nat} (hx : x < 2 ^ 31) (hy : y < 2 ^ 31) (hp : p < 16) (hw : w < 2 ^ 31) (hv : v < 3) (hn : n < 2 ^ 31) (hj : JM M V) (hk5 : M 6 5 = 0 ∨ M 6 5 = 1) {c : Nat} (hc : c < 24) : ∃ (r : Int64) (E : DT), JM E (V + 7000) ∧ ∀ {l : Launch} {K : KT} {X : XT} {w0 : Cond} {W : Nat} (_ : LK l K X cL_act RL w0 7 (some .long) ({ frames := 10, cells := 160, slots := 960, locals := 360 } : Room)) (_ : W + 40000 < 2 ^ 29) (D : DT) (P : PT) (_ : RI D P M W), PV K X (XK K X (qL X (fun r' D' P' => r' = r ∧ RI D' P' E (W + 10000))) (fun _ _ _ => False) 160 960) 0 0 39 [some (.ref (X.2.2 0)), some (.int (nI x)), some (.int (nI y)), some (.int (nI p)), some (.int (nI w)), some (.int (nI v)), some (.int (nI n))] [.int (nI c)] D P := by
  have k144 : ∃ (r : Int64) (E : DT), JM E (V + 7000) ∧ ∀ {l : Launch} {K : KT} {X : XT} {w0 : Cond} {W : Nat} (_ : LK l K X cL_act RL w0 7 (some .long) ({ frames := 10, cells := 160, slots := 960, locals := 360 } : Room)) (_ : W + 40000 < 2 ^ 29) (D : DT) (P : PT) (_ : RI D P M W), PV K X (XK K X (qL X (fun r' D' P' => r' = r ∧ RI D' P' E (W + 10000))) (fun _ _ _ => False) 160 960) 0 0 144 [some (.ref (X.2.2 0)), some (.int (nI x)), some (.int (nI y)), some (.int (nI p)), some (.int (nI w)), some (.int (nI v)), some (.int (nI n))] [] D P := by
    by_cases h3 : n % 3 = 0
    · exact ta_144a hx hy hp hw hv hn hj hk5 h3
    · exact ta_144b hx hy hp hw hv hn hj hk5 h3
  have k218 : ∃ (r : Int64) (E : DT), JM E (V + 7000) ∧ ∀ {l : Launch} {K : KT} {X : XT} {w0 : Cond} {W : Nat} (_ : LK l K X cL_act RL w0 7 (some .long) ({ frames := 10, cells := 160, slots := 960, locals := 360 } : Room)) (_ : W + 40000 < 2 ^ 29) (D : DT) (P : PT) (_ : RI D P M W), PV K X (XK K X (qL X (fun r' D' P' => r' = r ∧ RI D' P' E (W + 10000))) (fun _ _ _ => False) 160 960) 0 0 218 [some (.ref (X.2.2 0)), some (.int (nI x)), some (.int (nI y)), some (.int (nI p)), some (.int (nI w)), some (.int (nI v)), some (.int (nI n))] [] D P := by
    by_cases h3 : n % 2 = 0
    · exact ta_218a hx hy hp hw hv hn hj hk5 h3
    · exact ta_218b hx hy hp hw hv hn hj hk5 h3
  have k256 : ∃ (r : Int64) (E : DT), JM E (V + 7000) ∧ ∀ {l : Launch} {K : KT} {X : XT} {w0 : Cond} {W : Nat} (_ : LK l K X cL_act RL w0 7 (some .long) ({ frames := 10, cells := 160, slots := 960, locals := 360 } : Room)) (_ : W + 40000 < 2 ^ 29) (D : DT) (P : PT) (_ : RI D P M W), PV K X (XK K X (qL X (fun r' D' P' => r' = r ∧ RI D' P' E (W + 10000))) (fun _ _ _ => False) 160 960) 0 0 256 [some (.ref (X.2.2 0)), some (.int (nI x)), some (.int (nI y)), some (.int (nI p)), some (.int (nI w)), some (.int (nI v)), some (.int (nI n))] [] D P := by
    by_cases h3 : n % 2 = 0
    · exact ta_256a hx hy hp hw hv hn hj hk5 h3
    · exact ta_256b hx hy hp hw hv hn hj hk5 h3
  have k316 : ∃ (r : Int64) (E : DT), JM E (V + 7000) ∧ ∀ {l : Launch} {K : KT} {X : XT} {w0 : Cond} {W : Nat} (_ : LK l K X cL_act RL w0 7 (some .long) ({ frames := 10, cells := 160, slots := 960, locals := 360 } : Room)) (_ : W + 40000 < 2 ^ 29) (D : DT) (P : PT) (_ : RI D P M W), PV K X (XK K X (qL X (fun r' D' P' => r' = r ∧ RI D' P' E (W + 10000))) (fun _ _ _ => False) 160 960) 0 0 316 [some (.ref (X.2.2 0)), some (.int (nI x)), some (.int (nI y)), some (.int (nI p)), some (.int (nI w)), some (.int (nI v)), some (.int (nI n))] [] D P := by
    by_cases h3 : w % 2 = 0
    · exact ta_316a hx hy hp hw hv hn hj hk5 h3
    · exact ta_316b hx hy hp hw hv hn hj hk5 h3
  rcases (show c = 0 ∨ c = 1 ∨ c = 2 ∨ c = 3 ∨ c = 4 ∨ c = 5 ∨ c = 6 ∨ c = 7 ∨ c = 8 ∨ c = 9 ∨ c = 10 ∨ c = 11 ∨ c = 12 ∨ c = 13 ∨ c = 14 ∨ c = 15 ∨ c = 16 ∨ c = 17 ∨ c = 18 ∨ c = 19 ∨ c = 20 ∨ c = 21 ∨ c = 22 ∨ c = 23 by omega) with rfl | rfl | rfl | rfl | rfl | rfl | rfl | rfl | rfl | rfl | rfl | rfl | rfl | rfl | rfl | rfl | rfl | rfl | rfl | rfl | rfl | rfl | rfl | rfl
  · obtain ⟨r, E, b1, b2⟩ := k144
    exact ⟨r, E, b1, fun L hW D P h => pv_tableIn (tgt := 144) (off := 105) L.2.2.1 dL_act_39 (by decide) (by decide) rfl (by decide) (b2 L hW D P h)⟩
  · obtain ⟨r, E, b1, b2⟩ := k144
    exact ⟨r, E, b1, fun L hW D P h => pv_tableIn (tgt := 144) (off := 105) L.2.2.1 dL_act_39 (by decide) (by decide) rfl (by decide) (b2 L hW D P h)⟩
  · obtain ⟨r, E, b1, b2⟩ := k144
    exact ⟨r, E, b1, fun L hW D P h => pv_tableIn (tgt := 144) (off := 105) L.2.2.1 dL_act_39 (by decide) (by decide) rfl (by decide) (b2 L hW D P h)⟩
  · obtain ⟨r, E, b1, b2⟩ := k144
    exact ⟨r, E, b1, fun L hW D P h => pv_tableIn (tgt := 144) (off := 105) L.2.2.1 dL_act_39 (by decide) (by decide) rfl (by decide) (b2 L hW D P h)⟩
  · obtain ⟨r, E, b1, b2⟩ := k144
    exact ⟨r, E, b1, fun L hW D P h => pv_tableIn (tgt := 144) (off := 105) L.2.2.1 dL_act_39 (by decide) (by decide) rfl (by decide) (b2 L hW D P h)⟩
  · obtain ⟨r, E, b1, b2⟩ := ta_181 hx hy hp hw hv hn hj hk5
    exact ⟨r, E, b1, fun L hW D P h => pv_tableIn (tgt := 181) (off := 142) L.2.2.1 dL_act_39 (by decide) (by decide) rfl (by decide) (b2 L hW D P h)⟩
  · obtain ⟨r, E, b1, b2⟩ := ta_181 hx hy hp hw hv hn hj hk5
    exact ⟨r, E, b1, fun L hW D P h => pv_tableIn (tgt := 181) (off := 142) L.2.2.1 dL_act_39 (by decide) (by decide) rfl (by decide) (b2 L hW D P h)⟩
  · obtain ⟨r, E, b1, b2⟩ := ta_181 hx hy hp hw hv hn hj hk5
    exact ⟨r, E, b1, fun L hW D P h => pv_tableIn (tgt := 181) (off := 142) L.2.2.1 dL_act_39 (by decide) (by decide) rfl (by decide) (b2 L hW D P h)⟩
  · obtain ⟨r, E, b1, b2⟩ := ta_195 hx hy hp hw hv hn hj hk5
    exact ⟨r, E, b1, fun L hW D P h => pv_tableIn (tgt := 195) (off := 156) L.2.2.1 dL_act_39 (by decide) (by decide) rfl (by decide) (b2 L hW D P h)⟩
  · obtain ⟨r, E, b1, b2⟩ := ta_205 hx hy hp hw hv hn hj hk5
    exact ⟨r, E, b1, fun L hW D P h => pv_tableIn (tgt := 205) (off := 166) L.2.2.1 dL_act_39 (by decide) (by decide) rfl (by decide) (b2 L hW D P h)⟩
  · obtain ⟨r, E, b1, b2⟩ := ta_211 hx hy hp hw hv hn hj hk5
    exact ⟨r, E, b1, fun L hW D P h => pv_tableIn (tgt := 211) (off := 172) L.2.2.1 dL_act_39 (by decide) (by decide) rfl (by decide) (b2 L hW D P h)⟩
  · obtain ⟨r, E, b1, b2⟩ := ta_211 hx hy hp hw hv hn hj hk5
    exact ⟨r, E, b1, fun L hW D P h => pv_tableIn (tgt := 211) (off := 172) L.2.2.1 dL_act_39 (by decide) (by decide) rfl (by decide) (b2 L hW D P h)⟩
  · obtain ⟨r, E, b1, b2⟩ := ta_211 hx hy hp hw hv hn hj hk5
    exact ⟨r, E, b1, fun L hW D P h => pv_tableIn (tgt := 211) (off := 172) L.2.2.1 dL_act_39 (by decide) (by decide) rfl (by decide) (b2 L hW D P h)⟩
  · obtain ⟨r, E, b1, b2⟩ := k218
    exact ⟨r, E, b1, fun L hW D P h => pv_tableIn (tgt := 218) (off := 179) L.2.2.1 dL_act_39 (by decide) (by decide) rfl (by decide) (b2 L hW D P h)⟩
  · obtain ⟨r, E, b1, b2⟩ := ta_241 hx hy hp hw hv hn hj hk5
    exact ⟨r, E, b1, fun L hW D P h => pv_tableIn (tgt := 241) (off := 202) L.2.2.1 dL_act_39 (by decide) (by decide) rfl (by decide) (b2 L hW D P h)⟩
  · obtain ⟨r, E, b1, b2⟩ := k256
    exact ⟨r, E, b1, fun L hW D P h => pv_tableIn (tgt := 256) (off := 217) L.2.2.1 dL_act_39 (by decide) (by decide) rfl (by decide) (b2 L hW D P h)⟩
  · obtain ⟨r, E, b1, b2⟩ := ta_293 hx hy hp hw hv hn hj hk5
    exact ⟨r, E, b1, fun L hW D P h => pv_tableIn (tgt := 293) (off := 254) L.2.2.1 dL_act_39 (by decide) (by decide) rfl (by decide) (b2 L hW D P h)⟩
  · obtain ⟨r, E, b1, b2⟩ := ta_293 hx hy hp hw hv hn hj hk5
    exact ⟨r, E, b1, fun L hW D P h => pv_tableIn (tgt := 293) (off := 254) L.2.2.1 dL_act_39 (by decide) (by decide) rfl (by decide) (b2 L hW D P h)⟩
  · obtain ⟨r, E, b1, b2⟩ := ta_304 hx hy hp hw hv hn hj hk5
    exact ⟨r, E, b1, fun L hW D P h => pv_tableIn (tgt := 304) (off := 265) L.2.2.1 dL_act_39 (by decide) (by decide) rfl (by decide) (b2 L hW D P h)⟩
  · obtain ⟨r, E, b1, b2⟩ := ta_304 hx hy hp hw hv hn hj hk5
    exact ⟨r, E, b1, fun L hW D P h => pv_tableIn (tgt := 304) (off := 265) L.2.2.1 dL_act_39 (by decide) (by decide) rfl (by decide) (b2 L hW D P h)⟩
  · obtain ⟨r, E, b1, b2⟩ := ta_311 hx hy hp hw hv hn hj hk5
    exact ⟨r, E, b1, fun L hW D P h => pv_tableIn (tgt := 311) (off := 272) L.2.2.1 dL_act_39 (by decide) (by decide) rfl (by decide) (b2 L hW D P h)⟩
  · obtain ⟨r, E, b1, b2⟩ := ta_311 hx hy hp hw hv hn hj hk5
    exact ⟨r, E, b1, fun L hW D P h => pv_tableIn (tgt := 311) (off := 272) L.2.2.1 dL_act_39 (by decide) (by decide) rfl (by decide) (b2 L hW D P h)⟩
  · obtain ⟨r, E, b1, b2⟩ := k316
    exact ⟨r, E, b1, fun L hW D P h => pv_tableIn (tgt := 316) (off := 277) L.2.2.1 dL_act_39 (by decide) (by decide) rfl (by decide) (b2 L hW D P h)⟩
  · obtain ⟨r, E, b1, b2⟩ := ta_336 hx hy hp hw hv hn hj hk5
    exact ⟨r, E, b1, fun L hW D P h => pv_tableOut (tgt := 336) L.2.2.1 dL_act_39 (by decide) (by decide) (b2 L hW D P h)⟩
set_option maxRecDepth 100000 in
set_option maxHeartbeats 4000000 in
theorem act_ex {x y V : Nat} {M : DT} (hx : x < 2 ^ 31) (hy : y < 2 ^ 31) (hj : JM M V) (hk5 : M 6 5 = 0 ∨ M 6 5 = 1) : ∃ (r : Int64) (E : DT), JM E (V + 7000) ∧ ∀ (l : Launch) (X : XT) (D : DT) (P : PT) (W : Nat) (_ : l.stackTraces = false) (_ : RI D P M W) (_ : W + 40000 < 2 ^ 29), LM l X yL_act (.code yL_act cL_act 7 (some .long)) ({ frames := 10, cells := 160, slots := 960, locals := 360 } : Room) [.ref (X.2.2 0), .int (nI x), .int (nI y)] (qL X (fun r' D' P' => r' = r ∧ RI D' P' E (W + 10000))) D P 160 960 := by
  obtain ⟨p, hp, hpe⟩ : ∃ p, p < 16 ∧ ((y % 3 = 0 ∧ y % 16 = p) ∨ (¬ y % 3 = 0 ∧ y % 6 = p)) := by
    by_cases q : y % 3 = 0
    · exact ⟨y % 16, by omega, Or.inl ⟨q, rfl⟩⟩
    · exact ⟨y % 6, by omega, Or.inr ⟨q, rfl⟩⟩
  obtain ⟨r, E, b1, b2⟩ := ta_any (x := x) (y := y) (p := p) (w := y / 16) (v := y / 16 % 3) (n := y / 16 / 12) (c := x % 24) hx hy hp (by omega) (by omega) (by omega) hj hk5 (by omega)
  refine ⟨r, E, b1, ?_⟩
  intro l X D P W hfl h hW
  refine lm_of (by decide +kernel) (Nat.le_of_ble_eq_true rfl) ?_
  intro K hKl hKR C Z hNC
  have L : LK l K X cL_act RL _ 7 (some .long) ({ frames := 10, cells := 160, slots := 960, locals := 360 } : Room) := ⟨hKl, hKR, C, Z, hNC, hfl⟩
  refine PV_lv (lv' := [some (.ref (X.2.2 0)), some (.int (nI x)), some (.int (nI y)), none, none, none, none]) rfl ?_
  refine pv_iload_n (q := 1) C dL_act_0 rfl rfl rfl ?_
  refine pv_iload_n (q := 2) C dL_act_1 rfl rfl rfl ?_
  refine pv_iconst (q := 3) (v := 3) C dL_act_2 rfl (by decide) ?_
  refine pv_iremN (q := 4) (a := y) (b := 3) C rfl rfl (by omega) (by decide) (by decide) dL_act_3 rfl ?_
  refine pv_if_ne (q := 7) (tgt := 12) C dL_act_4 (by decide) rfl (fun hne => ?_) (fun he => ?_)
  ·
    have hpp : y % 6 = p := by
      rcases hpe with ⟨z, _⟩ | ⟨_, z⟩
      · exact absurd (by rw [z]; rfl) hne
      · exact z
    refine pv_bipush (q := 14) (v := 6) C dL_act_12 rfl (by decide) ?_
    refine pv_iremN (q := 15) (a := y) (b := 6) C rfl rfl (by omega) (by decide) (by decide) dL_act_14 rfl ?_
    rw [hpp]
    refine pv_istore_n (q := 16) C dL_act_15 rfl rfl (Nat.le_of_ble_eq_true rfl) rfl ?_
    refine pv_iload_n (q := 17) C dL_act_16 rfl rfl rfl ?_
    refine pv_bipush (q := 19) (v := 16) C dL_act_17 rfl (by decide) ?_
    refine pv_idivN (q := 20) (a := y) (b := 16) C rfl rfl (by omega) (by decide) (by decide) dL_act_19 rfl ?_
    refine pv_istore (q := 22) C dL_act_20 rfl (Nat.le_of_ble_eq_true rfl) rfl ?_
    refine pv_iload (q := 24) C dL_act_22 rfl rfl ?_
    refine pv_iconst (q := 25) (v := 3) C dL_act_24 rfl (by decide) ?_
    refine pv_iremN (q := 26) (a := (y / 16)) (b := 3) C rfl rfl (by omega) (by decide) (by decide) dL_act_25 rfl ?_
    refine pv_istore (q := 28) C dL_act_26 rfl (Nat.le_of_ble_eq_true rfl) rfl ?_
    refine pv_iload (q := 30) C dL_act_28 rfl rfl ?_
    refine pv_bipush (q := 32) (v := 12) C dL_act_30 rfl (by decide) ?_
    refine pv_idivN (q := 33) (a := (y / 16)) (b := 12) C rfl rfl (by omega) (by decide) (by decide) dL_act_32 rfl ?_
    refine pv_istore (q := 35) C dL_act_33 rfl (Nat.le_of_ble_eq_true rfl) rfl ?_
    refine pv_iload_n (q := 36) C dL_act_35 rfl rfl rfl ?_
    refine pv_bipush (q := 38) (v := 24) C dL_act_36 rfl (by decide) ?_
    refine pv_iremN (q := 39) (a := x) (b := 24) C rfl rfl (by omega) (by decide) (by decide) dL_act_38 rfl ?_
    exact b2 L hW D P h
  ·
    have hpp : y % 16 = p := by
      rcases hpe with ⟨_, z⟩ | ⟨z, _⟩
      · exact z
      · exact absurd he (nI_ne0 (by omega) (by omega))
    refine pv_bipush (q := 9) (v := 16) C dL_act_7 rfl (by decide) ?_
    refine pv_goto (tgt := 14) C dL_act_9 (by decide) ?_
    refine pv_iremN (q := 15) (a := y) (b := 16) C rfl rfl (by omega) (by decide) (by decide) dL_act_14 rfl ?_
    rw [hpp]
    refine pv_istore_n (q := 16) C dL_act_15 rfl rfl (Nat.le_of_ble_eq_true rfl) rfl ?_
    refine pv_iload_n (q := 17) C dL_act_16 rfl rfl rfl ?_
    refine pv_bipush (q := 19) (v := 16) C dL_act_17 rfl (by decide) ?_
    refine pv_idivN (q := 20) (a := y) (b := 16) C rfl rfl (by omega) (by decide) (by decide) dL_act_19 rfl ?_
    refine pv_istore (q := 22) C dL_act_20 rfl (Nat.le_of_ble_eq_true rfl) rfl ?_
    refine pv_iload (q := 24) C dL_act_22 rfl rfl ?_
    refine pv_iconst (q := 25) (v := 3) C dL_act_24 rfl (by decide) ?_
    refine pv_iremN (q := 26) (a := (y / 16)) (b := 3) C rfl rfl (by omega) (by decide) (by decide) dL_act_25 rfl ?_
    refine pv_istore (q := 28) C dL_act_26 rfl (Nat.le_of_ble_eq_true rfl) rfl ?_
    refine pv_iload (q := 30) C dL_act_28 rfl rfl ?_
    refine pv_bipush (q := 32) (v := 12) C dL_act_30 rfl (by decide) ?_
    refine pv_idivN (q := 33) (a := (y / 16)) (b := 12) C rfl rfl (by omega) (by decide) (by decide) dL_act_32 rfl ?_
    refine pv_istore (q := 35) C dL_act_33 rfl (Nat.le_of_ble_eq_true rfl) rfl ?_
    refine pv_iload_n (q := 36) C dL_act_35 rfl rfl rfl ?_
    refine pv_bipush (q := 38) (v := 24) C dL_act_36 rfl (by decide) ?_
    refine pv_iremN (q := 39) (a := x) (b := 24) C rfl rfl (by omega) (by decide) (by decide) dL_act_38 rfl ?_
    exact b2 L hW D P h
