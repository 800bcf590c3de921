theorem JM_we {kk : Int32} {E M : DT} {V V2 : Nat} (h : JM M V) (hV : V ≤ V2) (hE : kk = 0 → JM E V2) : JM (we kk E M) V2 := by
  unfold we
  split
  · rename_i z; exact hE z
  · exact JM_V h hV
theorem k7 (y : Nat) : y % 7 = 0 ∨ y % 7 = 1 ∨ y % 7 = 2 ∨ y % 7 = 3 ∨ y % 7 = 4 ∨ y % 7 = 5 ∨ y % 7 = 6 := by omega
theorem rl_tok {D : DT} {P : PT} {M : DT} {W : Nat} (h : RI D P M W) : ∃ n, n ≤ 60 ∧ M 6 9 = nI n := by
  obtain ⟨-, -, -, -, -, n, a, b, -⟩ := h
  exact ⟨n, a, b⟩
set_option maxRecDepth 100000 in
set_option maxHeartbeats 4000000 in
theorem tp_0_1_1 {M : DT} {x k n0 : Nat} (hx : x < 2 ^ 31) (hk : k < 6) (hn0 : M 6 9 = nI n0) (hn8 : n0 ≤ 9 * k) (hk0 : k = 0) (hE7 : (x / 2 ^ k) % 7 = 0) (h41 : 20 ≤ (x / 2 ^ k) % 41) : ∃ (E : DT) (n : Nat), E 6 9 = nI n ∧ n ≤ 9 * (k + 1) ∧ (∀ V, JM M V → JM E V) ∧ ∀ {l : Launch} {K : KT} {X : XT} {w0 : Cond} {Q : State → Prop} {W cb : Nat} (_ : LK l K X cL_told RL w0 8 (some .long) ({ frames := 9, cells := 150, slots := 900, locals := 324 } : Room)) (_ : W + 20000 < 2 ^ 29) (_ : cb + 22 ≤ 150) (_ : ∀ (D : DT) (P : PT), RI D P E (W + 1400) → PV K X Q (cb + 22) (6 * (cb + 22)) 263 [some (.ref (X.2.2 0)), some (.int (nI x)), some (.int 1), some (.int (nI k)), none, none, none, none] [] D P) (D : DT) (P : PT) (_ : RI D P M W), PV K X Q (cb) (6 * cb) 28 [some (.ref (X.2.2 0)), some (.int (nI x)), some (.int 1), some (.int (nI k)), none, none, none, none] [] D P := by
  have hY : x / 2 ^ k < 2 ^ 31 := Nat.lt_of_le_of_lt (Nat.div_le_self _ _) hx
  obtain ⟨n1, a1, b1, hn1⟩ := numE_len (m := ((x / 2 ^ k) / 7 % 8)) (M := (ap1 M 105)) (ap1_len hn0)
  obtain ⟨n2, a2, b2, hn2⟩ := numE_len (m := ((x / 2 ^ k) % 41 - 20)) (M := (ap1 (numE ((x / 2 ^ k) / 7 % 8) (ap1 M 105)) (nI (97 + ((x / 2 ^ k) % 4))))) (ap1_len hn1)
  refine ⟨(numE ((x / 2 ^ k) % 41 - 20) (ap1 (numE ((x / 2 ^ k) / 7 % 8) (ap1 M 105)) (nI (97 + ((x / 2 ^ k) % 4))))), n2, hn2, by omega, fun V hj => (JM_num (JM_ap1 (JM_num (JM_ap1 hj)))), ?_⟩
  intro l K X w0 Q W cb L hW hc kk D P h
  obtain ⟨hKl, hKR, C, Z, hNC, hfl⟩ := id L
  refine pv_iload_n (q := 29) C dL_told_28 rfl rfl rfl ?_
  refine pv_iload_n (q := 30) C dL_told_29 rfl rfl rfl ?_
  refine pv_ishr (q := 31) C dL_told_30 rfl ?_
  rw [shr_N hx (by omega)]
  refine pv_istore (q := 33) C dL_told_31 rfl (Nat.le_of_ble_eq_true rfl) rfl ?_
  refine pv_iload (q := 35) C dL_told_33 rfl rfl ?_
  refine pv_bipush (q := 37) (v := 7) C dL_told_35 rfl (by decide) ?_
  refine pv_iremN (q := 38) (a := (x / 2 ^ k)) (b := 7) C rfl rfl (by omega) (by decide) (by decide) dL_told_37 rfl ?_
  refine pv_istore (q := 40) C dL_told_38 rfl (Nat.le_of_ble_eq_true rfl) rfl ?_
  refine pv_iload (q := 42) C dL_told_40 rfl rfl ?_
  refine pv_bipush (q := 44) (v := 7) C dL_told_42 rfl (by decide) ?_
  refine pv_idivN (q := 45) (a := (x / 2 ^ k)) (b := 7) C rfl rfl (by omega) (by decide) (by decide) dL_told_44 rfl ?_
  refine pv_bipush (q := 47) (v := 8) C dL_told_45 rfl (by decide) ?_
  refine pv_iremN (q := 48) (a := ((x / 2 ^ k) / 7)) (b := 8) C rfl rfl (by omega) (by decide) (by decide) dL_told_47 rfl ?_
  refine pv_istore (q := 50) C dL_told_48 rfl (Nat.le_of_ble_eq_true rfl) rfl ?_
  refine pv_iload (q := 52) C dL_told_50 rfl rfl ?_
  refine pv_iconst (q := 53) (v := 2) C dL_told_52 rfl (by decide) ?_
  refine pv_icmp_ge (q := 56) (tgt := 61) C dL_told_53 (by decide) rfl (fun c53_1 => False.elim (absurd c53_1 (by rw [hE7]; decide))) (fun _ => ?_)
  refine pv_bipush (q := 58) (v := 105) C dL_told_56 rfl (by decide) ?_
  refine pv_goto (tgt := 114) C dL_told_58 (by decide) ?_
  refine pv_istore (q := 116) C dL_told_114 rfl (Nat.le_of_ble_eq_true rfl) rfl ?_
  refine pv_iload_n (q := 117) C dL_told_116 rfl rfl rfl ?_
  refine pv_if_eq (q := 120) (tgt := 131) C dL_told_117 (by decide) rfl (fun _ => ?_) (fun c117_2 => False.elim (c117_2 (by rw [hk0]; rfl)))
  refine pv_aload_n (q := 132) C dL_told_131 rfl rfl rfl ?_
  refine pv_iload (q := 134) C dL_told_132 rfl rfl ?_
  refine pv_callLl (q := 137) (rest := []) C Z hNC hKl (c_L_append l X D P hfl M (W) h (by omega) n0 (by omega) hn0 105) tw_768 mw_L_append ⟨rfl, rfl⟩ (by rw [hKR]; exact ⟨Nat.le_of_ble_eq_true rfl, Nat.le_of_ble_eq_true rfl⟩) (by rw [hKR]; constructor <;> (dsimp only; omega)) rfl rfl rfl (Nat.le_of_ble_eq_true rfl) dL_told_134 rfl (fun r3 D3 P3 q3 => ?_)
  obtain ⟨e3, hR3⟩ := QE.ok q3 (kApp_0 (by decide) (by omega))
  obtain rfl : r3 = ((nI n0 + 1).toInt64) := e3.trans (rfl)
  rw [ap1_n hn0 (by omega)] at hR3
  refine pv_lconst (q := 138) (v := 0) C dL_told_137 rfl (by decide) ?_
  refine pv_lcmp (q := 139) C dL_told_138 rfl ?_
  refine pv_if_le (q := 142) (tgt := 185) C dL_told_139 (by decide) rfl (fun c139_4 => False.elim (Int64.not_le.mpr (ap_pos (by omega)) ((lg_cmp_le _ _).mp c139_4))) (fun _ => ?_)
  refine pv_aload_n (q := 143) C dL_told_142 rfl rfl rfl ?_
  refine pv_iload (q := 145) C dL_told_143 rfl rfl ?_
  refine pv_iconst (q := 146) (v := 5) C dL_told_145 rfl (by decide) ?_
  refine pv_icmp_ge (q := 149) (tgt := 154) C dL_told_146 (by decide) rfl (fun c146_5 => False.elim (absurd c146_5 (by rw [hE7]; decide))) (fun _ => ?_)
  refine pv_iload (q := 151) C dL_told_149 rfl rfl ?_
  refine pv_goto (tgt := 175) C dL_told_151 (by decide) ?_
  refine pv_callMi (q := 178) (rest := []) C Z hNC hKl (c_L_numP l X D3 P3 hfl (ap1 M 105) (W + 130) hR3 (by omega) ((x / 2 ^ k) / 7 % 8) (n0 + 1) ((by omega)) (ap1_len hn0) (by omega)) tw_993 mm_L_number ⟨rfl, rfl⟩ (by rw [hKR]; exact ⟨Nat.le_of_ble_eq_true rfl, Nat.le_of_ble_eq_true rfl⟩) (by rw [hKR]; constructor <;> (dsimp only; omega)) rfl rfl rfl (Nat.le_of_ble_eq_true rfl) dL_told_175 rfl (fun r6 D6 P6 q6 => ?_)
  obtain ⟨rfl, hR6⟩ := q6
  refine pv_if_eq (q := 181) (tgt := 185) C dL_told_178 (by decide) rfl (fun c178_7 => absurd c178_7 (by decide)) (fun _ => ?_)
  refine pv_iconst (q := 182) (v := 1) C dL_told_181 rfl (by decide) ?_
  refine pv_goto (tgt := 186) C dL_told_182 (by decide) ?_
  refine pv_istore_n (q := 187) C dL_told_186 rfl rfl (Nat.le_of_ble_eq_true rfl) rfl ?_
  refine pv_iload_n (q := 188) C dL_told_187 rfl rfl rfl ?_
  refine pv_if_eq (q := 191) (tgt := 261) C dL_told_188 (by decide) rfl (fun c188_8 => absurd c188_8 (by decide)) (fun _ => ?_)
  refine pv_iload (q := 193) C dL_told_191 rfl rfl ?_
  refine pv_iconst (q := 194) (v := 2) C dL_told_193 rfl (by decide) ?_
  refine pv_icmp_ne (q := 197) (tgt := 208) C dL_told_194 (by decide) rfl (fun _ => ?_) (fun c194_9 => False.elim (absurd c194_9 (by rw [hE7]; decide)))
  refine pv_iload (q := 210) C dL_told_208 rfl rfl ?_
  refine pv_iconst (q := 211) (v := 1) C dL_told_210 rfl (by decide) ?_
  refine pv_icmp_le (q := 214) (tgt := 220) C dL_told_211 (by decide) rfl (fun _ => ?_) (fun c211_10 => False.elim (c211_10 (by rw [hE7]; decide)))
  refine pv_aload_n (q := 221) C dL_told_220 rfl rfl rfl ?_
  refine pv_bipush (q := 223) (v := 97) C dL_told_221 rfl (by decide) ?_
  refine pv_iload (q := 225) C dL_told_223 rfl rfl ?_
  refine pv_iconst (q := 226) (v := 4) C dL_told_225 rfl (by decide) ?_
  refine pv_iremN (q := 227) (a := (x / 2 ^ k)) (b := 4) C rfl rfl (by omega) (by decide) (by decide) dL_told_226 rfl ?_
  refine pv_iaddN (q := 228) (a := 97) (b := ((x / 2 ^ k) % 4)) C rfl rfl dL_told_227 rfl ?_
  refine pv_callLl (q := 231) (rest := []) C Z hNC hKl (c_L_append l X D6 P6 hfl (numE ((x / 2 ^ k) / 7 % 8) (ap1 M 105)) (W + 130 + 390) hR6 (by omega) n1 (by omega) hn1 (nI (97 + ((x / 2 ^ k) % 4)))) tw_768 mw_L_append ⟨rfl, rfl⟩ (by rw [hKR]; exact ⟨Nat.le_of_ble_eq_true rfl, Nat.le_of_ble_eq_true rfl⟩) (by rw [hKR]; constructor <;> (dsimp only; omega)) rfl rfl rfl (Nat.le_of_ble_eq_true rfl) dL_told_228 rfl (fun r11 D11 P11 q11 => ?_)
  obtain ⟨e11, hR11⟩ := QE.ok q11 (kApp_0 (rg_cN (by omega) (by omega)) (by omega))
  obtain rfl : r11 = ((nI n1 + 1).toInt64) := e11.trans (rfl)
  rw [ap1_n hn1 (by omega)] at hR11
  refine pv_lconst (q := 232) (v := 0) C dL_told_231 rfl (by decide) ?_
  refine pv_lcmp (q := 233) C dL_told_232 rfl ?_
  refine pv_if_le (q := 236) (tgt := 261) C dL_told_233 (by decide) rfl (fun c233_12 => False.elim (Int64.not_le.mpr (ap_pos (by omega)) ((lg_cmp_le _ _).mp c233_12))) (fun _ => ?_)
  refine pv_iload (q := 238) C dL_told_236 rfl rfl ?_
  refine pv_iconst (q := 239) (v := 2) C dL_told_238 rfl (by decide) ?_
  refine pv_icmp_gt (q := 242) (tgt := 257) C dL_told_239 (by decide) rfl (fun c239_13 => False.elim (absurd c239_13 (by rw [hE7]; decide))) (fun _ => ?_)
  refine pv_aload_n (q := 243) C dL_told_242 rfl rfl rfl ?_
  refine pv_iload (q := 245) C dL_told_243 rfl rfl ?_
  refine pv_bipush (q := 247) (v := 41) C dL_told_245 rfl (by decide) ?_
  refine pv_iremN (q := 248) (a := (x / 2 ^ k)) (b := 41) C rfl rfl (by omega) (by decide) (by decide) dL_told_247 rfl ?_
  refine pv_bipush (q := 250) (v := 20) C dL_told_248 rfl (by decide) ?_
  refine pv_isub (q := 251) C dL_told_250 rfl ?_
  rw [show nI ((x / 2 ^ k) % 41) - 20 = nI ((x / 2 ^ k) % 41 - 20) from pk_sub (b := 20) (by omega)]
  refine pv_callMi (q := 254) (rest := []) C Z hNC hKl (c_L_numP l X D11 P11 hfl (ap1 (numE ((x / 2 ^ k) / 7 % 8) (ap1 M 105)) (nI (97 + ((x / 2 ^ k) % 4)))) (W + 130 + 390 + 130) hR11 (by omega) ((x / 2 ^ k) % 41 - 20) (n1 + 1) ((by omega)) (ap1_len hn1) (by omega)) tw_993 mm_L_number ⟨rfl, rfl⟩ (by rw [hKR]; exact ⟨Nat.le_of_ble_eq_true rfl, Nat.le_of_ble_eq_true rfl⟩) (by rw [hKR]; constructor <;> (dsimp only; omega)) rfl rfl rfl (Nat.le_of_ble_eq_true rfl) dL_told_251 rfl (fun r14 D14 P14 q14 => ?_)
  obtain ⟨rfl, hR14⟩ := q14
  refine pv_if_eq (q := 257) (tgt := 261) C dL_told_254 (by decide) rfl (fun c254_15 => absurd c254_15 (by decide)) (fun _ => ?_)
  refine pv_iconst (q := 258) (v := 1) C dL_told_257 rfl (by decide) ?_
  refine pv_goto (tgt := 262) C dL_told_258 (by decide) ?_
  refine pv_istore_n (q := 263) C dL_told_262 rfl rfl (Nat.le_of_ble_eq_true rfl) rfl ?_
  exact PV_widen (by omega) (by omega) (PV_le (kk D14 P14 (RI_W hR14 (by omega))) ⟨Or.inr rfl, Or.inr rfl, Or.inr rfl, Or.inr rfl, Or.inl rfl, Or.inl rfl, Or.inl rfl, Or.inl rfl, trivial⟩)
set_option maxRecDepth 100000 in
set_option maxHeartbeats 4000000 in
theorem tp_0_1_0 {M : DT} {x k n0 : Nat} (hx : x < 2 ^ 31) (hk : k < 6) (hn0 : M 6 9 = nI n0) (hn8 : n0 ≤ 9 * k) (hk0 : k = 0) (hE7 : (x / 2 ^ k) % 7 = 0) (h41 : ¬ 20 ≤ (x / 2 ^ k) % 41) : ∃ (E : DT) (n : Nat), E 6 9 = nI n ∧ n ≤ 9 * (k + 1) ∧ (∀ V, JM M V → JM E V) ∧ ∀ {l : Launch} {K : KT} {X : XT} {w0 : Cond} {Q : State → Prop} {W cb : Nat} (_ : LK l K X cL_told RL w0 8 (some .long) ({ frames := 9, cells := 150, slots := 900, locals := 324 } : Room)) (_ : W + 20000 < 2 ^ 29) (_ : cb + 22 ≤ 150) (_ : ∀ (D : DT) (P : PT), RI D P E (W + 1400) → PV K X Q (cb + 22) (6 * (cb + 22)) 263 [some (.ref (X.2.2 0)), some (.int (nI x)), some (.int 1), some (.int (nI k)), none, none, none, none] [] D P) (D : DT) (P : PT) (_ : RI D P M W), PV K X Q (cb) (6 * cb) 28 [some (.ref (X.2.2 0)), some (.int (nI x)), some (.int 1), some (.int (nI k)), none, none, none, none] [] D P := by
  have hY : x / 2 ^ k < 2 ^ 31 := Nat.lt_of_le_of_lt (Nat.div_le_self _ _) hx
  obtain ⟨n1, a1, b1, hn1⟩ := numE_len (m := ((x / 2 ^ k) / 7 % 8)) (M := (ap1 M 105)) (ap1_len hn0)
  obtain ⟨n2, a2, b2, hn2⟩ := numE_len (m := (20 - (x / 2 ^ k) % 41)) (M := ap1 (ap1 (numE ((x / 2 ^ k) / 7 % 8) (ap1 M 105)) (nI (97 + ((x / 2 ^ k) % 4)))) 45) (ap1_len (ap1_len hn1))
  refine ⟨(numE (20 - (x / 2 ^ k) % 41) (ap1 (ap1 (numE ((x / 2 ^ k) / 7 % 8) (ap1 M 105)) (nI (97 + ((x / 2 ^ k) % 4)))) 45)), n2, hn2, by omega, fun V hj => (JM_num (JM_ap1 (JM_ap1 (JM_num (JM_ap1 hj))))), ?_⟩
  intro l K X w0 Q W cb L hW hc kk D P h
  obtain ⟨hKl, hKR, C, Z, hNC, hfl⟩ := id L
  refine pv_iload_n (q := 29) C dL_told_28 rfl rfl rfl ?_
  refine pv_iload_n (q := 30) C dL_told_29 rfl rfl rfl ?_
  refine pv_ishr (q := 31) C dL_told_30 rfl ?_
  rw [shr_N hx (by omega)]
  refine pv_istore (q := 33) C dL_told_31 rfl (Nat.le_of_ble_eq_true rfl) rfl ?_
  refine pv_iload (q := 35) C dL_told_33 rfl rfl ?_
  refine pv_bipush (q := 37) (v := 7) C dL_told_35 rfl (by decide) ?_
  refine pv_iremN (q := 38) (a := (x / 2 ^ k)) (b := 7) C rfl rfl (by omega) (by decide) (by decide) dL_told_37 rfl ?_
  refine pv_istore (q := 40) C dL_told_38 rfl (Nat.le_of_ble_eq_true rfl) rfl ?_
  refine pv_iload (q := 42) C dL_told_40 rfl rfl ?_
  refine pv_bipush (q := 44) (v := 7) C dL_told_42 rfl (by decide) ?_
  refine pv_idivN (q := 45) (a := (x / 2 ^ k)) (b := 7) C rfl rfl (by omega) (by decide) (by decide) dL_told_44 rfl ?_
  refine pv_bipush (q := 47) (v := 8) C dL_told_45 rfl (by decide) ?_
  refine pv_iremN (q := 48) (a := ((x / 2 ^ k) / 7)) (b := 8) C rfl rfl (by omega) (by decide) (by decide) dL_told_47 rfl ?_
  refine pv_istore (q := 50) C dL_told_48 rfl (Nat.le_of_ble_eq_true rfl) rfl ?_
  refine pv_iload (q := 52) C dL_told_50 rfl rfl ?_
  refine pv_iconst (q := 53) (v := 2) C dL_told_52 rfl (by decide) ?_
  refine pv_icmp_ge (q := 56) (tgt := 61) C dL_told_53 (by decide) rfl (fun c53_1 => False.elim (absurd c53_1 (by rw [hE7]; decide))) (fun _ => ?_)
  refine pv_bipush (q := 58) (v := 105) C dL_told_56 rfl (by decide) ?_
  refine pv_goto (tgt := 114) C dL_told_58 (by decide) ?_
  refine pv_istore (q := 116) C dL_told_114 rfl (Nat.le_of_ble_eq_true rfl) rfl ?_
  refine pv_iload_n (q := 117) C dL_told_116 rfl rfl rfl ?_
  refine pv_if_eq (q := 120) (tgt := 131) C dL_told_117 (by decide) rfl (fun _ => ?_) (fun c117_2 => False.elim (c117_2 (by rw [hk0]; rfl)))
  refine pv_aload_n (q := 132) C dL_told_131 rfl rfl rfl ?_
  refine pv_iload (q := 134) C dL_told_132 rfl rfl ?_
  refine pv_callLl (q := 137) (rest := []) C Z hNC hKl (c_L_append l X D P hfl M (W) h (by omega) n0 (by omega) hn0 105) tw_768 mw_L_append ⟨rfl, rfl⟩ (by rw [hKR]; exact ⟨Nat.le_of_ble_eq_true rfl, Nat.le_of_ble_eq_true rfl⟩) (by rw [hKR]; constructor <;> (dsimp only; omega)) rfl rfl rfl (Nat.le_of_ble_eq_true rfl) dL_told_134 rfl (fun r3 D3 P3 q3 => ?_)
  obtain ⟨e3, hR3⟩ := QE.ok q3 (kApp_0 (by decide) (by omega))
  obtain rfl : r3 = ((nI n0 + 1).toInt64) := e3.trans (rfl)
  rw [ap1_n hn0 (by omega)] at hR3
  refine pv_lconst (q := 138) (v := 0) C dL_told_137 rfl (by decide) ?_
  refine pv_lcmp (q := 139) C dL_told_138 rfl ?_
  refine pv_if_le (q := 142) (tgt := 185) C dL_told_139 (by decide) rfl (fun c139_4 => False.elim (Int64.not_le.mpr (ap_pos (by omega)) ((lg_cmp_le _ _).mp c139_4))) (fun _ => ?_)
  refine pv_aload_n (q := 143) C dL_told_142 rfl rfl rfl ?_
  refine pv_iload (q := 145) C dL_told_143 rfl rfl ?_
  refine pv_iconst (q := 146) (v := 5) C dL_told_145 rfl (by decide) ?_
  refine pv_icmp_ge (q := 149) (tgt := 154) C dL_told_146 (by decide) rfl (fun c146_5 => False.elim (absurd c146_5 (by rw [hE7]; decide))) (fun _ => ?_)
  refine pv_iload (q := 151) C dL_told_149 rfl rfl ?_
  refine pv_goto (tgt := 175) C dL_told_151 (by decide) ?_
  refine pv_callMi (q := 178) (rest := []) C Z hNC hKl (c_L_numP l X D3 P3 hfl (ap1 M 105) (W + 130) hR3 (by omega) ((x / 2 ^ k) / 7 % 8) (n0 + 1) ((by omega)) (ap1_len hn0) (by omega)) tw_993 mm_L_number ⟨rfl, rfl⟩ (by rw [hKR]; exact ⟨Nat.le_of_ble_eq_true rfl, Nat.le_of_ble_eq_true rfl⟩) (by rw [hKR]; constructor <;> (dsimp only; omega)) rfl rfl rfl (Nat.le_of_ble_eq_true rfl) dL_told_175 rfl (fun r6 D6 P6 q6 => ?_)
  obtain ⟨rfl, hR6⟩ := q6
  refine pv_if_eq (q := 181) (tgt := 185) C dL_told_178 (by decide) rfl (fun c178_7 => absurd c178_7 (by decide)) (fun _ => ?_)
  refine pv_iconst (q := 182) (v := 1) C dL_told_181 rfl (by decide) ?_
  refine pv_goto (tgt := 186) C dL_told_182 (by decide) ?_
  refine pv_istore_n (q := 187) C dL_told_186 rfl rfl (Nat.le_of_ble_eq_true rfl) rfl ?_
  refine pv_iload_n (q := 188) C dL_told_187 rfl rfl rfl ?_
  refine pv_if_eq (q := 191) (tgt := 261) C dL_told_188 (by decide) rfl (fun c188_8 => absurd c188_8 (by decide)) (fun _ => ?_)
  refine pv_iload (q := 193) C dL_told_191 rfl rfl ?_
  refine pv_iconst (q := 194) (v := 2) C dL_told_193 rfl (by decide) ?_
  refine pv_icmp_ne (q := 197) (tgt := 208) C dL_told_194 (by decide) rfl (fun _ => ?_) (fun c194_9 => False.elim (absurd c194_9 (by rw [hE7]; decide)))
  refine pv_iload (q := 210) C dL_told_208 rfl rfl ?_
  refine pv_iconst (q := 211) (v := 1) C dL_told_210 rfl (by decide) ?_
  refine pv_icmp_le (q := 214) (tgt := 220) C dL_told_211 (by decide) rfl (fun _ => ?_) (fun c211_10 => False.elim (c211_10 (by rw [hE7]; decide)))
  refine pv_aload_n (q := 221) C dL_told_220 rfl rfl rfl ?_
  refine pv_bipush (q := 223) (v := 97) C dL_told_221 rfl (by decide) ?_
  refine pv_iload (q := 225) C dL_told_223 rfl rfl ?_
  refine pv_iconst (q := 226) (v := 4) C dL_told_225 rfl (by decide) ?_
  refine pv_iremN (q := 227) (a := (x / 2 ^ k)) (b := 4) C rfl rfl (by omega) (by decide) (by decide) dL_told_226 rfl ?_
  refine pv_iaddN (q := 228) (a := 97) (b := ((x / 2 ^ k) % 4)) C rfl rfl dL_told_227 rfl ?_
  refine pv_callLl (q := 231) (rest := []) C Z hNC hKl (c_L_append l X D6 P6 hfl (numE ((x / 2 ^ k) / 7 % 8) (ap1 M 105)) (W + 130 + 390) hR6 (by omega) n1 (by omega) hn1 (nI (97 + ((x / 2 ^ k) % 4)))) tw_768 mw_L_append ⟨rfl, rfl⟩ (by rw [hKR]; exact ⟨Nat.le_of_ble_eq_true rfl, Nat.le_of_ble_eq_true rfl⟩) (by rw [hKR]; constructor <;> (dsimp only; omega)) rfl rfl rfl (Nat.le_of_ble_eq_true rfl) dL_told_228 rfl (fun r11 D11 P11 q11 => ?_)
  obtain ⟨e11, hR11⟩ := QE.ok q11 (kApp_0 (rg_cN (by omega) (by omega)) (by omega))
  obtain rfl : r11 = ((nI n1 + 1).toInt64) := e11.trans (rfl)
  rw [ap1_n hn1 (by omega)] at hR11
  refine pv_lconst (q := 232) (v := 0) C dL_told_231 rfl (by decide) ?_
  refine pv_lcmp (q := 233) C dL_told_232 rfl ?_
  refine pv_if_le (q := 236) (tgt := 261) C dL_told_233 (by decide) rfl (fun c233_12 => False.elim (Int64.not_le.mpr (ap_pos (by omega)) ((lg_cmp_le _ _).mp c233_12))) (fun _ => ?_)
  refine pv_iload (q := 238) C dL_told_236 rfl rfl ?_
  refine pv_iconst (q := 239) (v := 2) C dL_told_238 rfl (by decide) ?_
  refine pv_icmp_gt (q := 242) (tgt := 257) C dL_told_239 (by decide) rfl (fun c239_13 => False.elim (absurd c239_13 (by rw [hE7]; decide))) (fun _ => ?_)
  refine pv_aload_n (q := 243) C dL_told_242 rfl rfl rfl ?_
  refine pv_iload (q := 245) C dL_told_243 rfl rfl ?_
  refine pv_bipush (q := 247) (v := 41) C dL_told_245 rfl (by decide) ?_
  refine pv_iremN (q := 248) (a := (x / 2 ^ k)) (b := 41) C rfl rfl (by omega) (by decide) (by decide) dL_told_247 rfl ?_
  refine pv_bipush (q := 250) (v := 20) C dL_told_248 rfl (by decide) ?_
  refine pv_isub (q := 251) C dL_told_250 rfl ?_
  rw [show nI ((x / 2 ^ k) % 41) - 20 = -(nI (20 - (x / 2 ^ k) % 41)) from neg_sub (b := 20) (by omega)]
  refine pv_callMi (q := 254) (rest := []) C Z hNC hKl (c_L_numN l X D11 P11 hfl (ap1 (numE ((x / 2 ^ k) / 7 % 8) (ap1 M 105)) (nI (97 + ((x / 2 ^ k) % 4)))) (W + 130 + 390 + 130) hR11 (by omega) (20 - (x / 2 ^ k) % 41) (n1 + 1) ((by omega)) (ap1_len hn1) (by omega)) tw_993 mm_L_number ⟨rfl, rfl⟩ (by rw [hKR]; exact ⟨Nat.le_of_ble_eq_true rfl, Nat.le_of_ble_eq_true rfl⟩) (by rw [hKR]; constructor <;> (dsimp only; omega)) rfl rfl rfl (Nat.le_of_ble_eq_true rfl) dL_told_251 rfl (fun r14 D14 P14 q14 => ?_)
  obtain ⟨rfl, hR14⟩ := q14
  refine pv_if_eq (q := 257) (tgt := 261) C dL_told_254 (by decide) rfl (fun c254_15 => absurd c254_15 (by decide)) (fun _ => ?_)
  refine pv_iconst (q := 258) (v := 1) C dL_told_257 rfl (by decide) ?_
  refine pv_goto (tgt := 262) C dL_told_258 (by decide) ?_
  refine pv_istore_n (q := 263) C dL_told_262 rfl rfl (Nat.le_of_ble_eq_true rfl) rfl ?_
  exact PV_widen (by omega) (by omega) (PV_le (kk D14 P14 (RI_W hR14 (by omega))) ⟨Or.inr rfl, Or.inr rfl, Or.inr rfl, Or.inr rfl, Or.inl rfl, Or.inl rfl, Or.inl rfl, Or.inl rfl, trivial⟩)
set_option maxRecDepth 100000 in
set_option maxHeartbeats 4000000 in
theorem tp_0_0_1 {M : DT} {x k n0 : Nat} (hx : x < 2 ^ 31) (hk : k < 6) (hn0 : M 6 9 = nI n0) (hn8 : n0 ≤ 9 * k) (hk0 : ¬ k = 0) (hE7 : (x / 2 ^ k) % 7 = 0) (h41 : 20 ≤ (x / 2 ^ k) % 41) : ∃ (E : DT) (n : Nat), E 6 9 = nI n ∧ n ≤ 9 * (k + 1) ∧ (∀ V, JM M V → JM E V) ∧ ∀ {l : Launch} {K : KT} {X : XT} {w0 : Cond} {Q : State → Prop} {W cb : Nat} (_ : LK l K X cL_told RL w0 8 (some .long) ({ frames := 9, cells := 150, slots := 900, locals := 324 } : Room)) (_ : W + 20000 < 2 ^ 29) (_ : cb + 22 ≤ 150) (_ : ∀ (D : DT) (P : PT), RI D P E (W + 1400) → PV K X Q (cb + 22) (6 * (cb + 22)) 263 [some (.ref (X.2.2 0)), some (.int (nI x)), some (.int 1), some (.int (nI k)), none, none, none, none] [] D P) (D : DT) (P : PT) (_ : RI D P M W), PV K X Q (cb) (6 * cb) 28 [some (.ref (X.2.2 0)), some (.int (nI x)), some (.int 1), some (.int (nI k)), none, none, none, none] [] D P := by
  have hY : x / 2 ^ k < 2 ^ 31 := Nat.lt_of_le_of_lt (Nat.div_le_self _ _) hx
  obtain ⟨n1, a1, b1, hn1⟩ := numE_len (m := ((x / 2 ^ k) / 7 % 8)) (M := (ap1 (ap1 M 59) 105)) (ap1_len (ap1_len hn0))
  obtain ⟨n2, a2, b2, hn2⟩ := numE_len (m := ((x / 2 ^ k) % 41 - 20)) (M := (ap1 (numE ((x / 2 ^ k) / 7 % 8) (ap1 (ap1 M 59) 105)) (nI (97 + ((x / 2 ^ k) % 4))))) (ap1_len hn1)
  refine ⟨(numE ((x / 2 ^ k) % 41 - 20) (ap1 (numE ((x / 2 ^ k) / 7 % 8) (ap1 (ap1 M 59) 105)) (nI (97 + ((x / 2 ^ k) % 4))))), n2, hn2, by omega, fun V hj => (JM_num (JM_ap1 (JM_num (JM_ap1 (JM_ap1 hj))))), ?_⟩
  intro l K X w0 Q W cb L hW hc kk D P h
  obtain ⟨hKl, hKR, C, Z, hNC, hfl⟩ := id L
  refine pv_iload_n (q := 29) C dL_told_28 rfl rfl rfl ?_
  refine pv_iload_n (q := 30) C dL_told_29 rfl rfl rfl ?_
  refine pv_ishr (q := 31) C dL_told_30 rfl ?_
  rw [shr_N hx (by omega)]
  refine pv_istore (q := 33) C dL_told_31 rfl (Nat.le_of_ble_eq_true rfl) rfl ?_
  refine pv_iload (q := 35) C dL_told_33 rfl rfl ?_
  refine pv_bipush (q := 37) (v := 7) C dL_told_35 rfl (by decide) ?_
  refine pv_iremN (q := 38) (a := (x / 2 ^ k)) (b := 7) C rfl rfl (by omega) (by decide) (by decide) dL_told_37 rfl ?_
  refine pv_istore (q := 40) C dL_told_38 rfl (Nat.le_of_ble_eq_true rfl) rfl ?_
  refine pv_iload (q := 42) C dL_told_40 rfl rfl ?_
  refine pv_bipush (q := 44) (v := 7) C dL_told_42 rfl (by decide) ?_
  refine pv_idivN (q := 45) (a := (x / 2 ^ k)) (b := 7) C rfl rfl (by omega) (by decide) (by decide) dL_told_44 rfl ?_
  refine pv_bipush (q := 47) (v := 8) C dL_told_45 rfl (by decide) ?_
  refine pv_iremN (q := 48) (a := ((x / 2 ^ k) / 7)) (b := 8) C rfl rfl (by omega) (by decide) (by decide) dL_told_47 rfl ?_
  refine pv_istore (q := 50) C dL_told_48 rfl (Nat.le_of_ble_eq_true rfl) rfl ?_
  refine pv_iload (q := 52) C dL_told_50 rfl rfl ?_
  refine pv_iconst (q := 53) (v := 2) C dL_told_52 rfl (by decide) ?_
  refine pv_icmp_ge (q := 56) (tgt := 61) C dL_told_53 (by decide) rfl (fun c53_1 => False.elim (absurd c53_1 (by rw [hE7]; decide))) (fun _ => ?_)
  refine pv_bipush (q := 58) (v := 105) C dL_told_56 rfl (by decide) ?_
  refine pv_goto (tgt := 114) C dL_told_58 (by decide) ?_
  refine pv_istore (q := 116) C dL_told_114 rfl (Nat.le_of_ble_eq_true rfl) rfl ?_
  refine pv_iload_n (q := 117) C dL_told_116 rfl rfl rfl ?_
  refine pv_if_eq (q := 120) (tgt := 131) C dL_told_117 (by decide) rfl (fun c117_2 => False.elim (absurd c117_2 (nI_ne0 (by omega) (by omega)))) (fun _ => ?_)
  refine pv_aload_n (q := 121) C dL_told_120 rfl rfl rfl ?_
  refine pv_bipush (q := 123) (v := 59) C dL_told_121 rfl (by decide) ?_
  refine pv_callLl (q := 126) (rest := []) C Z hNC hKl (c_L_append l X D P hfl M (W) h (by omega) n0 (by omega) hn0 59) tw_768 mw_L_append ⟨rfl, rfl⟩ (by rw [hKR]; exact ⟨Nat.le_of_ble_eq_true rfl, Nat.le_of_ble_eq_true rfl⟩) (by rw [hKR]; constructor <;> (dsimp only; omega)) rfl rfl rfl (Nat.le_of_ble_eq_true rfl) dL_told_123 rfl (fun r3 D3 P3 q3 => ?_)
  obtain ⟨e3, hR3⟩ := QE.ok q3 (kApp_0 (by decide) (by omega))
  obtain rfl : r3 = ((nI n0 + 1).toInt64) := e3.trans (rfl)
  rw [ap1_n hn0 (by omega)] at hR3
  refine pv_lconst (q := 127) (v := 0) C dL_told_126 rfl (by decide) ?_
  refine pv_lcmp (q := 128) C dL_told_127 rfl ?_
  refine pv_if_le (q := 131) (tgt := 185) C dL_told_128 (by decide) rfl (fun c128_4 => False.elim (Int64.not_le.mpr (ap_pos (by omega)) ((lg_cmp_le _ _).mp c128_4))) (fun _ => ?_)
  refine pv_aload_n (q := 132) C dL_told_131 rfl rfl rfl ?_
  refine pv_iload (q := 134) C dL_told_132 rfl rfl ?_
  refine pv_callLl (q := 137) (rest := []) C Z hNC hKl (c_L_append l X D3 P3 hfl (ap1 M 59) (W + 130) hR3 (by omega) (n0 + 1) (by omega) (ap1_len hn0) 105) tw_768 mw_L_append ⟨rfl, rfl⟩ (by rw [hKR]; exact ⟨Nat.le_of_ble_eq_true rfl, Nat.le_of_ble_eq_true rfl⟩) (by rw [hKR]; constructor <;> (dsimp only; omega)) rfl rfl rfl (Nat.le_of_ble_eq_true rfl) dL_told_134 rfl (fun r5 D5 P5 q5 => ?_)
  obtain ⟨e5, hR5⟩ := QE.ok q5 (kApp_0 (by decide) (by omega))
  obtain rfl : r5 = ((nI (n0 + 1) + 1).toInt64) := e5.trans (rfl)
  rw [ap1_n (ap1_len hn0) (by omega)] at hR5
  refine pv_lconst (q := 138) (v := 0) C dL_told_137 rfl (by decide) ?_
  refine pv_lcmp (q := 139) C dL_told_138 rfl ?_
  refine pv_if_le (q := 142) (tgt := 185) C dL_told_139 (by decide) rfl (fun c139_6 => False.elim (Int64.not_le.mpr (ap_pos (by omega)) ((lg_cmp_le _ _).mp c139_6))) (fun _ => ?_)
  refine pv_aload_n (q := 143) C dL_told_142 rfl rfl rfl ?_
  refine pv_iload (q := 145) C dL_told_143 rfl rfl ?_
  refine pv_iconst (q := 146) (v := 5) C dL_told_145 rfl (by decide) ?_
  refine pv_icmp_ge (q := 149) (tgt := 154) C dL_told_146 (by decide) rfl (fun c146_7 => False.elim (absurd c146_7 (by rw [hE7]; decide))) (fun _ => ?_)
  refine pv_iload (q := 151) C dL_told_149 rfl rfl ?_
  refine pv_goto (tgt := 175) C dL_told_151 (by decide) ?_
  refine pv_callMi (q := 178) (rest := []) C Z hNC hKl (c_L_numP l X D5 P5 hfl (ap1 (ap1 M 59) 105) (W + 130 + 130) hR5 (by omega) ((x / 2 ^ k) / 7 % 8) ((n0 + 1) + 1) ((by omega)) (ap1_len (ap1_len hn0)) (by omega)) tw_993 mm_L_number ⟨rfl, rfl⟩ (by rw [hKR]; exact ⟨Nat.le_of_ble_eq_true rfl, Nat.le_of_ble_eq_true rfl⟩) (by rw [hKR]; constructor <;> (dsimp only; omega)) rfl rfl rfl (Nat.le_of_ble_eq_true rfl) dL_told_175 rfl (fun r8 D8 P8 q8 => ?_)
  obtain ⟨rfl, hR8⟩ := q8
  refine pv_if_eq (q := 181) (tgt := 185) C dL_told_178 (by decide) rfl (fun c178_9 => absurd c178_9 (by decide)) (fun _ => ?_)
  refine pv_iconst (q := 182) (v := 1) C dL_told_181 rfl (by decide) ?_
  refine pv_goto (tgt := 186) C dL_told_182 (by decide) ?_
  refine pv_istore_n (q := 187) C dL_told_186 rfl rfl (Nat.le_of_ble_eq_true rfl) rfl ?_
  refine pv_iload_n (q := 188) C dL_told_187 rfl rfl rfl ?_
  refine pv_if_eq (q := 191) (tgt := 261) C dL_told_188 (by decide) rfl (fun c188_10 => absurd c188_10 (by decide)) (fun _ => ?_)
  refine pv_iload (q := 193) C dL_told_191 rfl rfl ?_
  refine pv_iconst (q := 194) (v := 2) C dL_told_193 rfl (by decide) ?_
  refine pv_icmp_ne (q := 197) (tgt := 208) C dL_told_194 (by decide) rfl (fun _ => ?_) (fun c194_11 => False.elim (absurd c194_11 (by rw [hE7]; decide)))
  refine pv_iload (q := 210) C dL_told_208 rfl rfl ?_
  refine pv_iconst (q := 211) (v := 1) C dL_told_210 rfl (by decide) ?_
  refine pv_icmp_le (q := 214) (tgt := 220) C dL_told_211 (by decide) rfl (fun _ => ?_) (fun c211_12 => False.elim (c211_12 (by rw [hE7]; decide)))
  refine pv_aload_n (q := 221) C dL_told_220 rfl rfl rfl ?_
  refine pv_bipush (q := 223) (v := 97) C dL_told_221 rfl (by decide) ?_
  refine pv_iload (q := 225) C dL_told_223 rfl rfl ?_
  refine pv_iconst (q := 226) (v := 4) C dL_told_225 rfl (by decide) ?_
  refine pv_iremN (q := 227) (a := (x / 2 ^ k)) (b := 4) C rfl rfl (by omega) (by decide) (by decide) dL_told_226 rfl ?_
  refine pv_iaddN (q := 228) (a := 97) (b := ((x / 2 ^ k) % 4)) C rfl rfl dL_told_227 rfl ?_
  refine pv_callLl (q := 231) (rest := []) C Z hNC hKl (c_L_append l X D8 P8 hfl (numE ((x / 2 ^ k) / 7 % 8) (ap1 (ap1 M 59) 105)) (W + 130 + 130 + 390) hR8 (by omega) n1 (by omega) hn1 (nI (97 + ((x / 2 ^ k) % 4)))) tw_768 mw_L_append ⟨rfl, rfl⟩ (by rw [hKR]; exact ⟨Nat.le_of_ble_eq_true rfl, Nat.le_of_ble_eq_true rfl⟩) (by rw [hKR]; constructor <;> (dsimp only; omega)) rfl rfl rfl (Nat.le_of_ble_eq_true rfl) dL_told_228 rfl (fun r13 D13 P13 q13 => ?_)
  obtain ⟨e13, hR13⟩ := QE.ok q13 (kApp_0 (rg_cN (by omega) (by omega)) (by omega))
  obtain rfl : r13 = ((nI n1 + 1).toInt64) := e13.trans (rfl)
  rw [ap1_n hn1 (by omega)] at hR13
  refine pv_lconst (q := 232) (v := 0) C dL_told_231 rfl (by decide) ?_
  refine pv_lcmp (q := 233) C dL_told_232 rfl ?_
  refine pv_if_le (q := 236) (tgt := 261) C dL_told_233 (by decide) rfl (fun c233_14 => False.elim (Int64.not_le.mpr (ap_pos (by omega)) ((lg_cmp_le _ _).mp c233_14))) (fun _ => ?_)
  refine pv_iload (q := 238) C dL_told_236 rfl rfl ?_
  refine pv_iconst (q := 239) (v := 2) C dL_told_238 rfl (by decide) ?_
  refine pv_icmp_gt (q := 242) (tgt := 257) C dL_told_239 (by decide) rfl (fun c239_15 => False.elim (absurd c239_15 (by rw [hE7]; decide))) (fun _ => ?_)
  refine pv_aload_n (q := 243) C dL_told_242 rfl rfl rfl ?_
  refine pv_iload (q := 245) C dL_told_243 rfl rfl ?_
  refine pv_bipush (q := 247) (v := 41) C dL_told_245 rfl (by decide) ?_
  refine pv_iremN (q := 248) (a := (x / 2 ^ k)) (b := 41) C rfl rfl (by omega) (by decide) (by decide) dL_told_247 rfl ?_
  refine pv_bipush (q := 250) (v := 20) C dL_told_248 rfl (by decide) ?_
  refine pv_isub (q := 251) C dL_told_250 rfl ?_
  rw [show nI ((x / 2 ^ k) % 41) - 20 = nI ((x / 2 ^ k) % 41 - 20) from pk_sub (b := 20) (by omega)]
  refine pv_callMi (q := 254) (rest := []) C Z hNC hKl (c_L_numP l X D13 P13 hfl (ap1 (numE ((x / 2 ^ k) / 7 % 8) (ap1 (ap1 M 59) 105)) (nI (97 + ((x / 2 ^ k) % 4)))) (W + 130 + 130 + 390 + 130) hR13 (by omega) ((x / 2 ^ k) % 41 - 20) (n1 + 1) ((by omega)) (ap1_len hn1) (by omega)) tw_993 mm_L_number ⟨rfl, rfl⟩ (by rw [hKR]; exact ⟨Nat.le_of_ble_eq_true rfl, Nat.le_of_ble_eq_true rfl⟩) (by rw [hKR]; constructor <;> (dsimp only; omega)) rfl rfl rfl (Nat.le_of_ble_eq_true rfl) dL_told_251 rfl (fun r16 D16 P16 q16 => ?_)
  obtain ⟨rfl, hR16⟩ := q16
  refine pv_if_eq (q := 257) (tgt := 261) C dL_told_254 (by decide) rfl (fun c254_17 => absurd c254_17 (by decide)) (fun _ => ?_)
  refine pv_iconst (q := 258) (v := 1) C dL_told_257 rfl (by decide) ?_
  refine pv_goto (tgt := 262) C dL_told_258 (by decide) ?_
  refine pv_istore_n (q := 263) C dL_told_262 rfl rfl (Nat.le_of_ble_eq_true rfl) rfl ?_
  exact PV_widen (by omega) (by omega) (PV_le (kk D16 P16 (RI_W hR16 (by omega))) ⟨Or.inr rfl, Or.inr rfl, Or.inr rfl, Or.inr rfl, Or.inl rfl, Or.inl rfl, Or.inl rfl, Or.inl rfl, trivial⟩)
set_option maxRecDepth 100000 in
set_option maxHeartbeats 4000000 in
theorem tp_0_0_0 {M : DT} {x k n0 : Nat} (hx : x < 2 ^ 31) (hk : k < 6) (hn0 : M 6 9 = nI n0) (hn8 : n0 ≤ 9 * k) (hk0 : ¬ k = 0) (hE7 : (x / 2 ^ k) % 7 = 0) (h41 : ¬ 20 ≤ (x / 2 ^ k) % 41) : ∃ (E : DT) (n : Nat), E 6 9 = nI n ∧ n ≤ 9 * (k + 1) ∧ (∀ V, JM M V → JM E V) ∧ ∀ {l : Launch} {K : KT} {X : XT} {w0 : Cond} {Q : State → Prop} {W cb : Nat} (_ : LK l K X cL_told RL w0 8 (some .long) ({ frames := 9, cells := 150, slots := 900, locals := 324 } : Room)) (_ : W + 20000 < 2 ^ 29) (_ : cb + 22 ≤ 150) (_ : ∀ (D : DT) (P : PT), RI D P E (W + 1400) → PV K X Q (cb + 22) (6 * (cb + 22)) 263 [some (.ref (X.2.2 0)), some (.int (nI x)), some (.int 1), some (.int (nI k)), none, none, none, none] [] D P) (D : DT) (P : PT) (_ : RI D P M W), PV K X Q (cb) (6 * cb) 28 [some (.ref (X.2.2 0)), some (.int (nI x)), some (.int 1), some (.int (nI k)), none, none, none, none] [] D P := by
  have hY : x / 2 ^ k < 2 ^ 31 := Nat.lt_of_le_of_lt (Nat.div_le_self _ _) hx
  obtain ⟨n1, a1, b1, hn1⟩ := numE_len (m := ((x / 2 ^ k) / 7 % 8)) (M := (ap1 (ap1 M 59) 105)) (ap1_len (ap1_len hn0))
  obtain ⟨n2, a2, b2, hn2⟩ := numE_len (m := (20 - (x / 2 ^ k) % 41)) (M := ap1 (ap1 (numE ((x / 2 ^ k) / 7 % 8) (ap1 (ap1 M 59) 105)) (nI (97 + ((x / 2 ^ k) % 4)))) 45) (ap1_len (ap1_len hn1))
  refine ⟨(numE (20 - (x / 2 ^ k) % 41) (ap1 (ap1 (numE ((x / 2 ^ k) / 7 % 8) (ap1 (ap1 M 59) 105)) (nI (97 + ((x / 2 ^ k) % 4)))) 45)), n2, hn2, by omega, fun V hj => (JM_num (JM_ap1 (JM_ap1 (JM_num (JM_ap1 (JM_ap1 hj)))))), ?_⟩
  intro l K X w0 Q W cb L hW hc kk D P h
  obtain ⟨hKl, hKR, C, Z, hNC, hfl⟩ := id L
  refine pv_iload_n (q := 29) C dL_told_28 rfl rfl rfl ?_
  refine pv_iload_n (q := 30) C dL_told_29 rfl rfl rfl ?_
  refine pv_ishr (q := 31) C dL_told_30 rfl ?_
  rw [shr_N hx (by omega)]
  refine pv_istore (q := 33) C dL_told_31 rfl (Nat.le_of_ble_eq_true rfl) rfl ?_
  refine pv_iload (q := 35) C dL_told_33 rfl rfl ?_
  refine pv_bipush (q := 37) (v := 7) C dL_told_35 rfl (by decide) ?_
  refine pv_iremN (q := 38) (a := (x / 2 ^ k)) (b := 7) C rfl rfl (by omega) (by decide) (by decide) dL_told_37 rfl ?_
  refine pv_istore (q := 40) C dL_told_38 rfl (Nat.le_of_ble_eq_true rfl) rfl ?_
  refine pv_iload (q := 42) C dL_told_40 rfl rfl ?_
  refine pv_bipush (q := 44) (v := 7) C dL_told_42 rfl (by decide) ?_
  refine pv_idivN (q := 45) (a := (x / 2 ^ k)) (b := 7) C rfl rfl (by omega) (by decide) (by decide) dL_told_44 rfl ?_
  refine pv_bipush (q := 47) (v := 8) C dL_told_45 rfl (by decide) ?_
  refine pv_iremN (q := 48) (a := ((x / 2 ^ k) / 7)) (b := 8) C rfl rfl (by omega) (by decide) (by decide) dL_told_47 rfl ?_
  refine pv_istore (q := 50) C dL_told_48 rfl (Nat.le_of_ble_eq_true rfl) rfl ?_
  refine pv_iload (q := 52) C dL_told_50 rfl rfl ?_
  refine pv_iconst (q := 53) (v := 2) C dL_told_52 rfl (by decide) ?_
  refine pv_icmp_ge (q := 56) (tgt := 61) C dL_told_53 (by decide) rfl (fun c53_1 => False.elim (absurd c53_1 (by rw [hE7]; decide))) (fun _ => ?_)
  refine pv_bipush (q := 58) (v := 105) C dL_told_56 rfl (by decide) ?_
  refine pv_goto (tgt := 114) C dL_told_58 (by decide) ?_
  refine pv_istore (q := 116) C dL_told_114 rfl (Nat.le_of_ble_eq_true rfl) rfl ?_
  refine pv_iload_n (q := 117) C dL_told_116 rfl rfl rfl ?_
  refine pv_if_eq (q := 120) (tgt := 131) C dL_told_117 (by decide) rfl (fun c117_2 => False.elim (absurd c117_2 (nI_ne0 (by omega) (by omega)))) (fun _ => ?_)
  refine pv_aload_n (q := 121) C dL_told_120 rfl rfl rfl ?_
  refine pv_bipush (q := 123) (v := 59) C dL_told_121 rfl (by decide) ?_
  refine pv_callLl (q := 126) (rest := []) C Z hNC hKl (c_L_append l X D P hfl M (W) h (by omega) n0 (by omega) hn0 59) tw_768 mw_L_append ⟨rfl, rfl⟩ (by rw [hKR]; exact ⟨Nat.le_of_ble_eq_true rfl, Nat.le_of_ble_eq_true rfl⟩) (by rw [hKR]; constructor <;> (dsimp only; omega)) rfl rfl rfl (Nat.le_of_ble_eq_true rfl) dL_told_123 rfl (fun r3 D3 P3 q3 => ?_)
  obtain ⟨e3, hR3⟩ := QE.ok q3 (kApp_0 (by decide) (by omega))
  obtain rfl : r3 = ((nI n0 + 1).toInt64) := e3.trans (rfl)
  rw [ap1_n hn0 (by omega)] at hR3
  refine pv_lconst (q := 127) (v := 0) C dL_told_126 rfl (by decide) ?_
  refine pv_lcmp (q := 128) C dL_told_127 rfl ?_
  refine pv_if_le (q := 131) (tgt := 185) C dL_told_128 (by decide) rfl (fun c128_4 => False.elim (Int64.not_le.mpr (ap_pos (by omega)) ((lg_cmp_le _ _).mp c128_4))) (fun _ => ?_)
  refine pv_aload_n (q := 132) C dL_told_131 rfl rfl rfl ?_
  refine pv_iload (q := 134) C dL_told_132 rfl rfl ?_
  refine pv_callLl (q := 137) (rest := []) C Z hNC hKl (c_L_append l X D3 P3 hfl (ap1 M 59) (W + 130) hR3 (by omega) (n0 + 1) (by omega) (ap1_len hn0) 105) tw_768 mw_L_append ⟨rfl, rfl⟩ (by rw [hKR]; exact ⟨Nat.le_of_ble_eq_true rfl, Nat.le_of_ble_eq_true rfl⟩) (by rw [hKR]; constructor <;> (dsimp only; omega)) rfl rfl rfl (Nat.le_of_ble_eq_true rfl) dL_told_134 rfl (fun r5 D5 P5 q5 => ?_)
  obtain ⟨e5, hR5⟩ := QE.ok q5 (kApp_0 (by decide) (by omega))
  obtain rfl : r5 = ((nI (n0 + 1) + 1).toInt64) := e5.trans (rfl)
  rw [ap1_n (ap1_len hn0) (by omega)] at hR5
  refine pv_lconst (q := 138) (v := 0) C dL_told_137 rfl (by decide) ?_
  refine pv_lcmp (q := 139) C dL_told_138 rfl ?_
  refine pv_if_le (q := 142) (tgt := 185) C dL_told_139 (by decide) rfl (fun c139_6 => False.elim (Int64.not_le.mpr (ap_pos (by omega)) ((lg_cmp_le _ _).mp c139_6))) (fun _ => ?_)
  refine pv_aload_n (q := 143) C dL_told_142 rfl rfl rfl ?_
  refine pv_iload (q := 145) C dL_told_143 rfl rfl ?_
  refine pv_iconst (q := 146) (v := 5) C dL_told_145 rfl (by decide) ?_
  refine pv_icmp_ge (q := 149) (tgt := 154) C dL_told_146 (by decide) rfl (fun c146_7 => False.elim (absurd c146_7 (by rw [hE7]; decide))) (fun _ => ?_)
  refine pv_iload (q := 151) C dL_told_149 rfl rfl ?_
  refine pv_goto (tgt := 175) C dL_told_151 (by decide) ?_
  refine pv_callMi (q := 178) (rest := []) C Z hNC hKl (c_L_numP l X D5 P5 hfl (ap1 (ap1 M 59) 105) (W + 130 + 130) hR5 (by omega) ((x / 2 ^ k) / 7 % 8) ((n0 + 1) + 1) ((by omega)) (ap1_len (ap1_len hn0)) (by omega)) tw_993 mm_L_number ⟨rfl, rfl⟩ (by rw [hKR]; exact ⟨Nat.le_of_ble_eq_true rfl, Nat.le_of_ble_eq_true rfl⟩) (by rw [hKR]; constructor <;> (dsimp only; omega)) rfl rfl rfl (Nat.le_of_ble_eq_true rfl) dL_told_175 rfl (fun r8 D8 P8 q8 => ?_)
  obtain ⟨rfl, hR8⟩ := q8
  refine pv_if_eq (q := 181) (tgt := 185) C dL_told_178 (by decide) rfl (fun c178_9 => absurd c178_9 (by decide)) (fun _ => ?_)
  refine pv_iconst (q := 182) (v := 1) C dL_told_181 rfl (by decide) ?_
  refine pv_goto (tgt := 186) C dL_told_182 (by decide) ?_
  refine pv_istore_n (q := 187) C dL_told_186 rfl rfl (Nat.le_of_ble_eq_true rfl) rfl ?_
  refine pv_iload_n (q := 188) C dL_told_187 rfl rfl rfl ?_
  refine pv_if_eq (q := 191) (tgt := 261) C dL_told_188 (by decide) rfl (fun c188_10 => absurd c188_10 (by decide)) (fun _ => ?_)
  refine pv_iload (q := 193) C dL_told_191 rfl rfl ?_
  refine pv_iconst (q := 194) (v := 2) C dL_told_193 rfl (by decide) ?_
  refine pv_icmp_ne (q := 197) (tgt := 208) C dL_told_194 (by decide) rfl (fun _ => ?_) (fun c194_11 => False.elim (absurd c194_11 (by rw [hE7]; decide)))
  refine pv_iload (q := 210) C dL_told_208 rfl rfl ?_
  refine pv_iconst (q := 211) (v := 1) C dL_told_210 rfl (by decide) ?_
  refine pv_icmp_le (q := 214) (tgt := 220) C dL_told_211 (by decide) rfl (fun _ => ?_) (fun c211_12 => False.elim (c211_12 (by rw [hE7]; decide)))
  refine pv_aload_n (q := 221) C dL_told_220 rfl rfl rfl ?_
  refine pv_bipush (q := 223) (v := 97) C dL_told_221 rfl (by decide) ?_
  refine pv_iload (q := 225) C dL_told_223 rfl rfl ?_
  refine pv_iconst (q := 226) (v := 4) C dL_told_225 rfl (by decide) ?_
  refine pv_iremN (q := 227) (a := (x / 2 ^ k)) (b := 4) C rfl rfl (by omega) (by decide) (by decide) dL_told_226 rfl ?_
  refine pv_iaddN (q := 228) (a := 97) (b := ((x / 2 ^ k) % 4)) C rfl rfl dL_told_227 rfl ?_
  refine pv_callLl (q := 231) (rest := []) C Z hNC hKl (c_L_append l X D8 P8 hfl (numE ((x / 2 ^ k) / 7 % 8) (ap1 (ap1 M 59) 105)) (W + 130 + 130 + 390) hR8 (by omega) n1 (by omega) hn1 (nI (97 + ((x / 2 ^ k) % 4)))) tw_768 mw_L_append ⟨rfl, rfl⟩ (by rw [hKR]; exact ⟨Nat.le_of_ble_eq_true rfl, Nat.le_of_ble_eq_true rfl⟩) (by rw [hKR]; constructor <;> (dsimp only; omega)) rfl rfl rfl (Nat.le_of_ble_eq_true rfl) dL_told_228 rfl (fun r13 D13 P13 q13 => ?_)
  obtain ⟨e13, hR13⟩ := QE.ok q13 (kApp_0 (rg_cN (by omega) (by omega)) (by omega))
  obtain rfl : r13 = ((nI n1 + 1).toInt64) := e13.trans (rfl)
  rw [ap1_n hn1 (by omega)] at hR13
  refine pv_lconst (q := 232) (v := 0) C dL_told_231 rfl (by decide) ?_
  refine pv_lcmp (q := 233) C dL_told_232 rfl ?_
  refine pv_if_le (q := 236) (tgt := 261) C dL_told_233 (by decide) rfl (fun c233_14 => False.elim (Int64.not_le.mpr (ap_pos (by omega)) ((lg_cmp_le _ _).mp c233_14))) (fun _ => ?_)
  refine pv_iload (q := 238) C dL_told_236 rfl rfl ?_
  refine pv_iconst (q := 239) (v := 2) C dL_told_238 rfl (by decide) ?_
  refine pv_icmp_gt (q := 242) (tgt := 257) C dL_told_239 (by decide) rfl (fun c239_15 => False.elim (absurd c239_15 (by rw [hE7]; decide))) (fun _ => ?_)
  refine pv_aload_n (q := 243) C dL_told_242 rfl rfl rfl ?_
  refine pv_iload (q := 245) C dL_told_243 rfl rfl ?_
  refine pv_bipush (q := 247) (v := 41) C dL_told_245 rfl (by decide) ?_
  refine pv_iremN (q := 248) (a := (x / 2 ^ k)) (b := 41) C rfl rfl (by omega) (by decide) (by decide) dL_told_247 rfl ?_
  refine pv_bipush (q := 250) (v := 20) C dL_told_248 rfl (by decide) ?_
  refine pv_isub (q := 251) C dL_told_250 rfl ?_
  rw [show nI ((x / 2 ^ k) % 41) - 20 = -(nI (20 - (x / 2 ^ k) % 41)) from neg_sub (b := 20) (by omega)]
  refine pv_callMi (q := 254) (rest := []) C Z hNC hKl (c_L_numN l X D13 P13 hfl (ap1 (numE ((x / 2 ^ k) / 7 % 8) (ap1 (ap1 M 59) 105)) (nI (97 + ((x / 2 ^ k) % 4)))) (W + 130 + 130 + 390 + 130) hR13 (by omega) (20 - (x / 2 ^ k) % 41) (n1 + 1) ((by omega)) (ap1_len hn1) (by omega)) tw_993 mm_L_number ⟨rfl, rfl⟩ (by rw [hKR]; exact ⟨Nat.le_of_ble_eq_true rfl, Nat.le_of_ble_eq_true rfl⟩) (by rw [hKR]; constructor <;> (dsimp only; omega)) rfl rfl rfl (Nat.le_of_ble_eq_true rfl) dL_told_251 rfl (fun r16 D16 P16 q16 => ?_)
  obtain ⟨rfl, hR16⟩ := q16
  refine pv_if_eq (q := 257) (tgt := 261) C dL_told_254 (by decide) rfl (fun c254_17 => absurd c254_17 (by decide)) (fun _ => ?_)
  refine pv_iconst (q := 258) (v := 1) C dL_told_257 rfl (by decide) ?_
  refine pv_goto (tgt := 262) C dL_told_258 (by decide) ?_
  refine pv_istore_n (q := 263) C dL_told_262 rfl rfl (Nat.le_of_ble_eq_true rfl) rfl ?_
  exact PV_widen (by omega) (by omega) (PV_le (kk D16 P16 (RI_W hR16 (by omega))) ⟨Or.inr rfl, Or.inr rfl, Or.inr rfl, Or.inr rfl, Or.inl rfl, Or.inl rfl, Or.inl rfl, Or.inl rfl, trivial⟩)
set_option maxRecDepth 100000 in
set_option maxHeartbeats 4000000 in
theorem tp_1_1_1 {M : DT} {x k n0 : Nat} (hx : x < 2 ^ 31) (hk : k < 6) (hn0 : M 6 9 = nI n0) (hn8 : n0 ≤ 9 * k) (hk0 : k = 0) (hE7 : (x / 2 ^ k) % 7 = 1) (h41 : 20 ≤ (x / 2 ^ k) % 41) : ∃ (E : DT) (n : Nat), E 6 9 = nI n ∧ n ≤ 9 * (k + 1) ∧ (∀ V, JM M V → JM E V) ∧ ∀ {l : Launch} {K : KT} {X : XT} {w0 : Cond} {Q : State → Prop} {W cb : Nat} (_ : LK l K X cL_told RL w0 8 (some .long) ({ frames := 9, cells := 150, slots := 900, locals := 324 } : Room)) (_ : W + 20000 < 2 ^ 29) (_ : cb + 22 ≤ 150) (_ : ∀ (D : DT) (P : PT), RI D P E (W + 1400) → PV K X Q (cb + 22) (6 * (cb + 22)) 263 [some (.ref (X.2.2 0)), some (.int (nI x)), some (.int 1), some (.int (nI k)), none, none, none, none] [] D P) (D : DT) (P : PT) (_ : RI D P M W), PV K X Q (cb) (6 * cb) 28 [some (.ref (X.2.2 0)), some (.int (nI x)), some (.int 1), some (.int (nI k)), none, none, none, none] [] D P := by
  have hY : x / 2 ^ k < 2 ^ 31 := Nat.lt_of_le_of_lt (Nat.div_le_self _ _) hx
  obtain ⟨n1, a1, b1, hn1⟩ := numE_len (m := ((x / 2 ^ k) / 7 % 8)) (M := (ap1 M 105)) (ap1_len hn0)
  obtain ⟨n2, a2, b2, hn2⟩ := numE_len (m := ((x / 2 ^ k) % 41 - 20)) (M := (ap1 (numE ((x / 2 ^ k) / 7 % 8) (ap1 M 105)) (nI (97 + ((x / 2 ^ k) % 4))))) (ap1_len hn1)
  refine ⟨(numE ((x / 2 ^ k) % 41 - 20) (ap1 (numE ((x / 2 ^ k) / 7 % 8) (ap1 M 105)) (nI (97 + ((x / 2 ^ k) % 4))))), n2, hn2, by omega, fun V hj => (JM_num (JM_ap1 (JM_num (JM_ap1 hj)))), ?_⟩
  intro l K X w0 Q W cb L hW hc kk D P h
  obtain ⟨hKl, hKR, C, Z, hNC, hfl⟩ := id L
  refine pv_iload_n (q := 29) C dL_told_28 rfl rfl rfl ?_
  refine pv_iload_n (q := 30) C dL_told_29 rfl rfl rfl ?_
  refine pv_ishr (q := 31) C dL_told_30 rfl ?_
  rw [shr_N hx (by omega)]
  refine pv_istore (q := 33) C dL_told_31 rfl (Nat.le_of_ble_eq_true rfl) rfl ?_
  refine pv_iload (q := 35) C dL_told_33 rfl rfl ?_
  refine pv_bipush (q := 37) (v := 7) C dL_told_35 rfl (by decide) ?_
  refine pv_iremN (q := 38) (a := (x / 2 ^ k)) (b := 7) C rfl rfl (by omega) (by decide) (by decide) dL_told_37 rfl ?_
  refine pv_istore (q := 40) C dL_told_38 rfl (Nat.le_of_ble_eq_true rfl) rfl ?_
  refine pv_iload (q := 42) C dL_told_40 rfl rfl ?_
  refine pv_bipush (q := 44) (v := 7) C dL_told_42 rfl (by decide) ?_
  refine pv_idivN (q := 45) (a := (x / 2 ^ k)) (b := 7) C rfl rfl (by omega) (by decide) (by decide) dL_told_44 rfl ?_
  refine pv_bipush (q := 47) (v := 8) C dL_told_45 rfl (by decide) ?_
  refine pv_iremN (q := 48) (a := ((x / 2 ^ k) / 7)) (b := 8) C rfl rfl (by omega) (by decide) (by decide) dL_told_47 rfl ?_
  refine pv_istore (q := 50) C dL_told_48 rfl (Nat.le_of_ble_eq_true rfl) rfl ?_
  refine pv_iload (q := 52) C dL_told_50 rfl rfl ?_
  refine pv_iconst (q := 53) (v := 2) C dL_told_52 rfl (by decide) ?_
  refine pv_icmp_ge (q := 56) (tgt := 61) C dL_told_53 (by decide) rfl (fun c53_1 => False.elim (absurd c53_1 (by rw [hE7]; decide))) (fun _ => ?_)
  refine pv_bipush (q := 58) (v := 105) C dL_told_56 rfl (by decide) ?_
  refine pv_goto (tgt := 114) C dL_told_58 (by decide) ?_
  refine pv_istore (q := 116) C dL_told_114 rfl (Nat.le_of_ble_eq_true rfl) rfl ?_
  refine pv_iload_n (q := 117) C dL_told_116 rfl rfl rfl ?_
  refine pv_if_eq (q := 120) (tgt := 131) C dL_told_117 (by decide) rfl (fun _ => ?_) (fun c117_2 => False.elim (c117_2 (by rw [hk0]; rfl)))
  refine pv_aload_n (q := 132) C dL_told_131 rfl rfl rfl ?_
  refine pv_iload (q := 134) C dL_told_132 rfl rfl ?_
  refine pv_callLl (q := 137) (rest := []) C Z hNC hKl (c_L_append l X D P hfl M (W) h (by omega) n0 (by omega) hn0 105) tw_768 mw_L_append ⟨rfl, rfl⟩ (by rw [hKR]; exact ⟨Nat.le_of_ble_eq_true rfl, Nat.le_of_ble_eq_true rfl⟩) (by rw [hKR]; constructor <;> (dsimp only; omega)) rfl rfl rfl (Nat.le_of_ble_eq_true rfl) dL_told_134 rfl (fun r3 D3 P3 q3 => ?_)
  obtain ⟨e3, hR3⟩ := QE.ok q3 (kApp_0 (by decide) (by omega))
  obtain rfl : r3 = ((nI n0 + 1).toInt64) := e3.trans (rfl)
  rw [ap1_n hn0 (by omega)] at hR3
  refine pv_lconst (q := 138) (v := 0) C dL_told_137 rfl (by decide) ?_
  refine pv_lcmp (q := 139) C dL_told_138 rfl ?_
  refine pv_if_le (q := 142) (tgt := 185) C dL_told_139 (by decide) rfl (fun c139_4 => False.elim (Int64.not_le.mpr (ap_pos (by omega)) ((lg_cmp_le _ _).mp c139_4))) (fun _ => ?_)
  refine pv_aload_n (q := 143) C dL_told_142 rfl rfl rfl ?_
  refine pv_iload (q := 145) C dL_told_143 rfl rfl ?_
  refine pv_iconst (q := 146) (v := 5) C dL_told_145 rfl (by decide) ?_
  refine pv_icmp_ge (q := 149) (tgt := 154) C dL_told_146 (by decide) rfl (fun c146_5 => False.elim (absurd c146_5 (by rw [hE7]; decide))) (fun _ => ?_)
  refine pv_iload (q := 151) C dL_told_149 rfl rfl ?_
  refine pv_goto (tgt := 175) C dL_told_151 (by decide) ?_
  refine pv_callMi (q := 178) (rest := []) C Z hNC hKl (c_L_numP l X D3 P3 hfl (ap1 M 105) (W + 130) hR3 (by omega) ((x / 2 ^ k) / 7 % 8) (n0 + 1) ((by omega)) (ap1_len hn0) (by omega)) tw_993 mm_L_number ⟨rfl, rfl⟩ (by rw [hKR]; exact ⟨Nat.le_of_ble_eq_true rfl, Nat.le_of_ble_eq_true rfl⟩) (by rw [hKR]; constructor <;> (dsimp only; omega)) rfl rfl rfl (Nat.le_of_ble_eq_true rfl) dL_told_175 rfl (fun r6 D6 P6 q6 => ?_)
  obtain ⟨rfl, hR6⟩ := q6
  refine pv_if_eq (q := 181) (tgt := 185) C dL_told_178 (by decide) rfl (fun c178_7 => absurd c178_7 (by decide)) (fun _ => ?_)
  refine pv_iconst (q := 182) (v := 1) C dL_told_181 rfl (by decide) ?_
  refine pv_goto (tgt := 186) C dL_told_182 (by decide) ?_
  refine pv_istore_n (q := 187) C dL_told_186 rfl rfl (Nat.le_of_ble_eq_true rfl) rfl ?_
  refine pv_iload_n (q := 188) C dL_told_187 rfl rfl rfl ?_
  refine pv_if_eq (q := 191) (tgt := 261) C dL_told_188 (by decide) rfl (fun c188_8 => absurd c188_8 (by decide)) (fun _ => ?_)
  refine pv_iload (q := 193) C dL_told_191 rfl rfl ?_
  refine pv_iconst (q := 194) (v := 2) C dL_told_193 rfl (by decide) ?_
  refine pv_icmp_ne (q := 197) (tgt := 208) C dL_told_194 (by decide) rfl (fun _ => ?_) (fun c194_9 => False.elim (absurd c194_9 (by rw [hE7]; decide)))
  refine pv_iload (q := 210) C dL_told_208 rfl rfl ?_
  refine pv_iconst (q := 211) (v := 1) C dL_told_210 rfl (by decide) ?_
  refine pv_icmp_le (q := 214) (tgt := 220) C dL_told_211 (by decide) rfl (fun _ => ?_) (fun c211_10 => False.elim (c211_10 (by rw [hE7]; decide)))
  refine pv_aload_n (q := 221) C dL_told_220 rfl rfl rfl ?_
  refine pv_bipush (q := 223) (v := 97) C dL_told_221 rfl (by decide) ?_
  refine pv_iload (q := 225) C dL_told_223 rfl rfl ?_
  refine pv_iconst (q := 226) (v := 4) C dL_told_225 rfl (by decide) ?_
  refine pv_iremN (q := 227) (a := (x / 2 ^ k)) (b := 4) C rfl rfl (by omega) (by decide) (by decide) dL_told_226 rfl ?_
  refine pv_iaddN (q := 228) (a := 97) (b := ((x / 2 ^ k) % 4)) C rfl rfl dL_told_227 rfl ?_
  refine pv_callLl (q := 231) (rest := []) C Z hNC hKl (c_L_append l X D6 P6 hfl (numE ((x / 2 ^ k) / 7 % 8) (ap1 M 105)) (W + 130 + 390) hR6 (by omega) n1 (by omega) hn1 (nI (97 + ((x / 2 ^ k) % 4)))) tw_768 mw_L_append ⟨rfl, rfl⟩ (by rw [hKR]; exact ⟨Nat.le_of_ble_eq_true rfl, Nat.le_of_ble_eq_true rfl⟩) (by rw [hKR]; constructor <;> (dsimp only; omega)) rfl rfl rfl (Nat.le_of_ble_eq_true rfl) dL_told_228 rfl (fun r11 D11 P11 q11 => ?_)
  obtain ⟨e11, hR11⟩ := QE.ok q11 (kApp_0 (rg_cN (by omega) (by omega)) (by omega))
  obtain rfl : r11 = ((nI n1 + 1).toInt64) := e11.trans (rfl)
  rw [ap1_n hn1 (by omega)] at hR11
  refine pv_lconst (q := 232) (v := 0) C dL_told_231 rfl (by decide) ?_
  refine pv_lcmp (q := 233) C dL_told_232 rfl ?_
  refine pv_if_le (q := 236) (tgt := 261) C dL_told_233 (by decide) rfl (fun c233_12 => False.elim (Int64.not_le.mpr (ap_pos (by omega)) ((lg_cmp_le _ _).mp c233_12))) (fun _ => ?_)
  refine pv_iload (q := 238) C dL_told_236 rfl rfl ?_
  refine pv_iconst (q := 239) (v := 2) C dL_told_238 rfl (by decide) ?_
  refine pv_icmp_gt (q := 242) (tgt := 257) C dL_told_239 (by decide) rfl (fun c239_13 => False.elim (absurd c239_13 (by rw [hE7]; decide))) (fun _ => ?_)
  refine pv_aload_n (q := 243) C dL_told_242 rfl rfl rfl ?_
  refine pv_iload (q := 245) C dL_told_243 rfl rfl ?_
  refine pv_bipush (q := 247) (v := 41) C dL_told_245 rfl (by decide) ?_
  refine pv_iremN (q := 248) (a := (x / 2 ^ k)) (b := 41) C rfl rfl (by omega) (by decide) (by decide) dL_told_247 rfl ?_
  refine pv_bipush (q := 250) (v := 20) C dL_told_248 rfl (by decide) ?_
  refine pv_isub (q := 251) C dL_told_250 rfl ?_
  rw [show nI ((x / 2 ^ k) % 41) - 20 = nI ((x / 2 ^ k) % 41 - 20) from pk_sub (b := 20) (by omega)]
  refine pv_callMi (q := 254) (rest := []) C Z hNC hKl (c_L_numP l X D11 P11 hfl (ap1 (numE ((x / 2 ^ k) / 7 % 8) (ap1 M 105)) (nI (97 + ((x / 2 ^ k) % 4)))) (W + 130 + 390 + 130) hR11 (by omega) ((x / 2 ^ k) % 41 - 20) (n1 + 1) ((by omega)) (ap1_len hn1) (by omega)) tw_993 mm_L_number ⟨rfl, rfl⟩ (by rw [hKR]; exact ⟨Nat.le_of_ble_eq_true rfl, Nat.le_of_ble_eq_true rfl⟩) (by rw [hKR]; constructor <;> (dsimp only; omega)) rfl rfl rfl (Nat.le_of_ble_eq_true rfl) dL_told_251 rfl (fun r14 D14 P14 q14 => ?_)
  obtain ⟨rfl, hR14⟩ := q14
  refine pv_if_eq (q := 257) (tgt := 261) C dL_told_254 (by decide) rfl (fun c254_15 => absurd c254_15 (by decide)) (fun _ => ?_)
  refine pv_iconst (q := 258) (v := 1) C dL_told_257 rfl (by decide) ?_
  refine pv_goto (tgt := 262) C dL_told_258 (by decide) ?_
  refine pv_istore_n (q := 263) C dL_told_262 rfl rfl (Nat.le_of_ble_eq_true rfl) rfl ?_
  exact PV_widen (by omega) (by omega) (PV_le (kk D14 P14 (RI_W hR14 (by omega))) ⟨Or.inr rfl, Or.inr rfl, Or.inr rfl, Or.inr rfl, Or.inl rfl, Or.inl rfl, Or.inl rfl, Or.inl rfl, trivial⟩)
set_option maxRecDepth 100000 in
set_option maxHeartbeats 4000000 in
theorem tp_1_1_0 {M : DT} {x k n0 : Nat} (hx : x < 2 ^ 31) (hk : k < 6) (hn0 : M 6 9 = nI n0) (hn8 : n0 ≤ 9 * k) (hk0 : k = 0) (hE7 : (x / 2 ^ k) % 7 = 1) (h41 : ¬ 20 ≤ (x / 2 ^ k) % 41) : ∃ (E : DT) (n : Nat), E 6 9 = nI n ∧ n ≤ 9 * (k + 1) ∧ (∀ V, JM M V → JM E V) ∧ ∀ {l : Launch} {K : KT} {X : XT} {w0 : Cond} {Q : State → Prop} {W cb : Nat} (_ : LK l K X cL_told RL w0 8 (some .long) ({ frames := 9, cells := 150, slots := 900, locals := 324 } : Room)) (_ : W + 20000 < 2 ^ 29) (_ : cb + 22 ≤ 150) (_ : ∀ (D : DT) (P : PT), RI D P E (W + 1400) → PV K X Q (cb + 22) (6 * (cb + 22)) 263 [some (.ref (X.2.2 0)), some (.int (nI x)), some (.int 1), some (.int (nI k)), none, none, none, none] [] D P) (D : DT) (P : PT) (_ : RI D P M W), PV K X Q (cb) (6 * cb) 28 [some (.ref (X.2.2 0)), some (.int (nI x)), some (.int 1), some (.int (nI k)), none, none, none, none] [] D P := by
  have hY : x / 2 ^ k < 2 ^ 31 := Nat.lt_of_le_of_lt (Nat.div_le_self _ _) hx
  obtain ⟨n1, a1, b1, hn1⟩ := numE_len (m := ((x / 2 ^ k) / 7 % 8)) (M := (ap1 M 105)) (ap1_len hn0)
  obtain ⟨n2, a2, b2, hn2⟩ := numE_len (m := (20 - (x / 2 ^ k) % 41)) (M := ap1 (ap1 (numE ((x / 2 ^ k) / 7 % 8) (ap1 M 105)) (nI (97 + ((x / 2 ^ k) % 4)))) 45) (ap1_len (ap1_len hn1))
  refine ⟨(numE (20 - (x / 2 ^ k) % 41) (ap1 (ap1 (numE ((x / 2 ^ k) / 7 % 8) (ap1 M 105)) (nI (97 + ((x / 2 ^ k) % 4)))) 45)), n2, hn2, by omega, fun V hj => (JM_num (JM_ap1 (JM_ap1 (JM_num (JM_ap1 hj))))), ?_⟩
  intro l K X w0 Q W cb L hW hc kk D P h
  obtain ⟨hKl, hKR, C, Z, hNC, hfl⟩ := id L
  refine pv_iload_n (q := 29) C dL_told_28 rfl rfl rfl ?_
  refine pv_iload_n (q := 30) C dL_told_29 rfl rfl rfl ?_
  refine pv_ishr (q := 31) C dL_told_30 rfl ?_
  rw [shr_N hx (by omega)]
  refine pv_istore (q := 33) C dL_told_31 rfl (Nat.le_of_ble_eq_true rfl) rfl ?_
  refine pv_iload (q := 35) C dL_told_33 rfl rfl ?_
  refine pv_bipush (q := 37) (v := 7) C dL_told_35 rfl (by decide) ?_
  refine pv_iremN (q := 38) (a := (x / 2 ^ k)) (b := 7) C rfl rfl (by omega) (by decide) (by decide) dL_told_37 rfl ?_
  refine pv_istore (q := 40) C dL_told_38 rfl (Nat.le_of_ble_eq_true rfl) rfl ?_
  refine pv_iload (q := 42) C dL_told_40 rfl rfl ?_
  refine pv_bipush (q := 44) (v := 7) C dL_told_42 rfl (by decide) ?_
  refine pv_idivN (q := 45) (a := (x / 2 ^ k)) (b := 7) C rfl rfl (by omega) (by decide) (by decide) dL_told_44 rfl ?_
  refine pv_bipush (q := 47) (v := 8) C dL_told_45 rfl (by decide) ?_
  refine pv_iremN (q := 48) (a := ((x / 2 ^ k) / 7)) (b := 8) C rfl rfl (by omega) (by decide) (by decide) dL_told_47 rfl ?_
  refine pv_istore (q := 50) C dL_told_48 rfl (Nat.le_of_ble_eq_true rfl) rfl ?_
  refine pv_iload (q := 52) C dL_told_50 rfl rfl ?_
  refine pv_iconst (q := 53) (v := 2) C dL_told_52 rfl (by decide) ?_
  refine pv_icmp_ge (q := 56) (tgt := 61) C dL_told_53 (by decide) rfl (fun c53_1 => False.elim (absurd c53_1 (by rw [hE7]; decide))) (fun _ => ?_)
  refine pv_bipush (q := 58) (v := 105) C dL_told_56 rfl (by decide) ?_
  refine pv_goto (tgt := 114) C dL_told_58 (by decide) ?_
  refine pv_istore (q := 116) C dL_told_114 rfl (Nat.le_of_ble_eq_true rfl) rfl ?_
  refine pv_iload_n (q := 117) C dL_told_116 rfl rfl rfl ?_
  refine pv_if_eq (q := 120) (tgt := 131) C dL_told_117 (by decide) rfl (fun _ => ?_) (fun c117_2 => False.elim (c117_2 (by rw [hk0]; rfl)))
  refine pv_aload_n (q := 132) C dL_told_131 rfl rfl rfl ?_
  refine pv_iload (q := 134) C dL_told_132 rfl rfl ?_
  refine pv_callLl (q := 137) (rest := []) C Z hNC hKl (c_L_append l X D P hfl M (W) h (by omega) n0 (by omega) hn0 105) tw_768 mw_L_append ⟨rfl, rfl⟩ (by rw [hKR]; exact ⟨Nat.le_of_ble_eq_true rfl, Nat.le_of_ble_eq_true rfl⟩) (by rw [hKR]; constructor <;> (dsimp only; omega)) rfl rfl rfl (Nat.le_of_ble_eq_true rfl) dL_told_134 rfl (fun r3 D3 P3 q3 => ?_)
  obtain ⟨e3, hR3⟩ := QE.ok q3 (kApp_0 (by decide) (by omega))
  obtain rfl : r3 = ((nI n0 + 1).toInt64) := e3.trans (rfl)
  rw [ap1_n hn0 (by omega)] at hR3
  refine pv_lconst (q := 138) (v := 0) C dL_told_137 rfl (by decide) ?_
  refine pv_lcmp (q := 139) C dL_told_138 rfl ?_
  refine pv_if_le (q := 142) (tgt := 185) C dL_told_139 (by decide) rfl (fun c139_4 => False.elim (Int64.not_le.mpr (ap_pos (by omega)) ((lg_cmp_le _ _).mp c139_4))) (fun _ => ?_)
  refine pv_aload_n (q := 143) C dL_told_142 rfl rfl rfl ?_
  refine pv_iload (q := 145) C dL_told_143 rfl rfl ?_
  refine pv_iconst (q := 146) (v := 5) C dL_told_145 rfl (by decide) ?_
  refine pv_icmp_ge (q := 149) (tgt := 154) C dL_told_146 (by decide) rfl (fun c146_5 => False.elim (absurd c146_5 (by rw [hE7]; decide))) (fun _ => ?_)
  refine pv_iload (q := 151) C dL_told_149 rfl rfl ?_
  refine pv_goto (tgt := 175) C dL_told_151 (by decide) ?_
  refine pv_callMi (q := 178) (rest := []) C Z hNC hKl (c_L_numP l X D3 P3 hfl (ap1 M 105) (W + 130) hR3 (by omega) ((x / 2 ^ k) / 7 % 8) (n0 + 1) ((by omega)) (ap1_len hn0) (by omega)) tw_993 mm_L_number ⟨rfl, rfl⟩ (by rw [hKR]; exact ⟨Nat.le_of_ble_eq_true rfl, Nat.le_of_ble_eq_true rfl⟩) (by rw [hKR]; constructor <;> (dsimp only; omega)) rfl rfl rfl (Nat.le_of_ble_eq_true rfl) dL_told_175 rfl (fun r6 D6 P6 q6 => ?_)
  obtain ⟨rfl, hR6⟩ := q6
  refine pv_if_eq (q := 181) (tgt := 185) C dL_told_178 (by decide) rfl (fun c178_7 => absurd c178_7 (by decide)) (fun _ => ?_)
  refine pv_iconst (q := 182) (v := 1) C dL_told_181 rfl (by decide) ?_
  refine pv_goto (tgt := 186) C dL_told_182 (by decide) ?_
  refine pv_istore_n (q := 187) C dL_told_186 rfl rfl (Nat.le_of_ble_eq_true rfl) rfl ?_
  refine pv_iload_n (q := 188) C dL_told_187 rfl rfl rfl ?_
  refine pv_if_eq (q := 191) (tgt := 261) C dL_told_188 (by decide) rfl (fun c188_8 => absurd c188_8 (by decide)) (fun _ => ?_)
  refine pv_iload (q := 193) C dL_told_191 rfl rfl ?_
  refine pv_iconst (q := 194) (v := 2) C dL_told_193 rfl (by decide) ?_
  refine pv_icmp_ne (q := 197) (tgt := 208) C dL_told_194 (by decide) rfl (fun _ => ?_) (fun c194_9 => False.elim (absurd c194_9 (by rw [hE7]; decide)))
  refine pv_iload (q := 210) C dL_told_208 rfl rfl ?_
  refine pv_iconst (q := 211) (v := 1) C dL_told_210 rfl (by decide) ?_
  refine pv_icmp_le (q := 214) (tgt := 220) C dL_told_211 (by decide) rfl (fun _ => ?_) (fun c211_10 => False.elim (c211_10 (by rw [hE7]; decide)))
  refine pv_aload_n (q := 221) C dL_told_220 rfl rfl rfl ?_
  refine pv_bipush (q := 223) (v := 97) C dL_told_221 rfl (by decide) ?_
  refine pv_iload (q := 225) C dL_told_223 rfl rfl ?_
  refine pv_iconst (q := 226) (v := 4) C dL_told_225 rfl (by decide) ?_
  refine pv_iremN (q := 227) (a := (x / 2 ^ k)) (b := 4) C rfl rfl (by omega) (by decide) (by decide) dL_told_226 rfl ?_
  refine pv_iaddN (q := 228) (a := 97) (b := ((x / 2 ^ k) % 4)) C rfl rfl dL_told_227 rfl ?_
  refine pv_callLl (q := 231) (rest := []) C Z hNC hKl (c_L_append l X D6 P6 hfl (numE ((x / 2 ^ k) / 7 % 8) (ap1 M 105)) (W + 130 + 390) hR6 (by omega) n1 (by omega) hn1 (nI (97 + ((x / 2 ^ k) % 4)))) tw_768 mw_L_append ⟨rfl, rfl⟩ (by rw [hKR]; exact ⟨Nat.le_of_ble_eq_true rfl, Nat.le_of_ble_eq_true rfl⟩) (by rw [hKR]; constructor <;> (dsimp only; omega)) rfl rfl rfl (Nat.le_of_ble_eq_true rfl) dL_told_228 rfl (fun r11 D11 P11 q11 => ?_)
  obtain ⟨e11, hR11⟩ := QE.ok q11 (kApp_0 (rg_cN (by omega) (by omega)) (by omega))
  obtain rfl : r11 = ((nI n1 + 1).toInt64) := e11.trans (rfl)
  rw [ap1_n hn1 (by omega)] at hR11
  refine pv_lconst (q := 232) (v := 0) C dL_told_231 rfl (by decide) ?_
  refine pv_lcmp (q := 233) C dL_told_232 rfl ?_
  refine pv_if_le (q := 236) (tgt := 261) C dL_told_233 (by decide) rfl (fun c233_12 => False.elim (Int64.not_le.mpr (ap_pos (by omega)) ((lg_cmp_le _ _).mp c233_12))) (fun _ => ?_)
  refine pv_iload (q := 238) C dL_told_236 rfl rfl ?_
  refine pv_iconst (q := 239) (v := 2) C dL_told_238 rfl (by decide) ?_
  refine pv_icmp_gt (q := 242) (tgt := 257) C dL_told_239 (by decide) rfl (fun c239_13 => False.elim (absurd c239_13 (by rw [hE7]; decide))) (fun _ => ?_)
  refine pv_aload_n (q := 243) C dL_told_242 rfl rfl rfl ?_
  refine pv_iload (q := 245) C dL_told_243 rfl rfl ?_
  refine pv_bipush (q := 247) (v := 41) C dL_told_245 rfl (by decide) ?_
  refine pv_iremN (q := 248) (a := (x / 2 ^ k)) (b := 41) C rfl rfl (by omega) (by decide) (by decide) dL_told_247 rfl ?_
  refine pv_bipush (q := 250) (v := 20) C dL_told_248 rfl (by decide) ?_
  refine pv_isub (q := 251) C dL_told_250 rfl ?_
  rw [show nI ((x / 2 ^ k) % 41) - 20 = -(nI (20 - (x / 2 ^ k) % 41)) from neg_sub (b := 20) (by omega)]
  refine pv_callMi (q := 254) (rest := []) C Z hNC hKl (c_L_numN l X D11 P11 hfl (ap1 (numE ((x / 2 ^ k) / 7 % 8) (ap1 M 105)) (nI (97 + ((x / 2 ^ k) % 4)))) (W + 130 + 390 + 130) hR11 (by omega) (20 - (x / 2 ^ k) % 41) (n1 + 1) ((by omega)) (ap1_len hn1) (by omega)) tw_993 mm_L_number ⟨rfl, rfl⟩ (by rw [hKR]; exact ⟨Nat.le_of_ble_eq_true rfl, Nat.le_of_ble_eq_true rfl⟩) (by rw [hKR]; constructor <;> (dsimp only; omega)) rfl rfl rfl (Nat.le_of_ble_eq_true rfl) dL_told_251 rfl (fun r14 D14 P14 q14 => ?_)
  obtain ⟨rfl, hR14⟩ := q14
  refine pv_if_eq (q := 257) (tgt := 261) C dL_told_254 (by decide) rfl (fun c254_15 => absurd c254_15 (by decide)) (fun _ => ?_)
  refine pv_iconst (q := 258) (v := 1) C dL_told_257 rfl (by decide) ?_
  refine pv_goto (tgt := 262) C dL_told_258 (by decide) ?_
  refine pv_istore_n (q := 263) C dL_told_262 rfl rfl (Nat.le_of_ble_eq_true rfl) rfl ?_
  exact PV_widen (by omega) (by omega) (PV_le (kk D14 P14 (RI_W hR14 (by omega))) ⟨Or.inr rfl, Or.inr rfl, Or.inr rfl, Or.inr rfl, Or.inl rfl, Or.inl rfl, Or.inl rfl, Or.inl rfl, trivial⟩)
set_option maxRecDepth 100000 in
set_option maxHeartbeats 4000000 in
theorem tp_1_0_1 {M : DT} {x k n0 : Nat} (hx : x < 2 ^ 31) (hk : k < 6) (hn0 : M 6 9 = nI n0) (hn8 : n0 ≤ 9 * k) (hk0 : ¬ k = 0) (hE7 : (x / 2 ^ k) % 7 = 1) (h41 : 20 ≤ (x / 2 ^ k) % 41) : ∃ (E : DT) (n : Nat), E 6 9 = nI n ∧ n ≤ 9 * (k + 1) ∧ (∀ V, JM M V → JM E V) ∧ ∀ {l : Launch} {K : KT} {X : XT} {w0 : Cond} {Q : State → Prop} {W cb : Nat} (_ : LK l K X cL_told RL w0 8 (some .long) ({ frames := 9, cells := 150, slots := 900, locals := 324 } : Room)) (_ : W + 20000 < 2 ^ 29) (_ : cb + 22 ≤ 150) (_ : ∀ (D : DT) (P : PT), RI D P E (W + 1400) → PV K X Q (cb + 22) (6 * (cb + 22)) 263 [some (.ref (X.2.2 0)), some (.int (nI x)), some (.int 1), some (.int (nI k)), none, none, none, none] [] D P) (D : DT) (P : PT) (_ : RI D P M W), PV K X Q (cb) (6 * cb) 28 [some (.ref (X.2.2 0)), some (.int (nI x)), some (.int 1), some (.int (nI k)), none, none, none, none] [] D P := by
  have hY : x / 2 ^ k < 2 ^ 31 := Nat.lt_of_le_of_lt (Nat.div_le_self _ _) hx
  obtain ⟨n1, a1, b1, hn1⟩ := numE_len (m := ((x / 2 ^ k) / 7 % 8)) (M := (ap1 (ap1 M 59) 105)) (ap1_len (ap1_len hn0))
  obtain ⟨n2, a2, b2, hn2⟩ := numE_len (m := ((x / 2 ^ k) % 41 - 20)) (M := (ap1 (numE ((x / 2 ^ k) / 7 % 8) (ap1 (ap1 M 59) 105)) (nI (97 + ((x / 2 ^ k) % 4))))) (ap1_len hn1)
  refine ⟨(numE ((x / 2 ^ k) % 41 - 20) (ap1 (numE ((x / 2 ^ k) / 7 % 8) (ap1 (ap1 M 59) 105)) (nI (97 + ((x / 2 ^ k) % 4))))), n2, hn2, by omega, fun V hj => (JM_num (JM_ap1 (JM_num (JM_ap1 (JM_ap1 hj))))), ?_⟩
  intro l K X w0 Q W cb L hW hc kk D P h
  obtain ⟨hKl, hKR, C, Z, hNC, hfl⟩ := id L
  refine pv_iload_n (q := 29) C dL_told_28 rfl rfl rfl ?_
  refine pv_iload_n (q := 30) C dL_told_29 rfl rfl rfl ?_
  refine pv_ishr (q := 31) C dL_told_30 rfl ?_
  rw [shr_N hx (by omega)]
  refine pv_istore (q := 33) C dL_told_31 rfl (Nat.le_of_ble_eq_true rfl) rfl ?_
  refine pv_iload (q := 35) C dL_told_33 rfl rfl ?_
  refine pv_bipush (q := 37) (v := 7) C dL_told_35 rfl (by decide) ?_
  refine pv_iremN (q := 38) (a := (x / 2 ^ k)) (b := 7) C rfl rfl (by omega) (by decide) (by decide) dL_told_37 rfl ?_
  refine pv_istore (q := 40) C dL_told_38 rfl (Nat.le_of_ble_eq_true rfl) rfl ?_
  refine pv_iload (q := 42) C dL_told_40 rfl rfl ?_
  refine pv_bipush (q := 44) (v := 7) C dL_told_42 rfl (by decide) ?_
  refine pv_idivN (q := 45) (a := (x / 2 ^ k)) (b := 7) C rfl rfl (by omega) (by decide) (by decide) dL_told_44 rfl ?_
  refine pv_bipush (q := 47) (v := 8) C dL_told_45 rfl (by decide) ?_
  refine pv_iremN (q := 48) (a := ((x / 2 ^ k) / 7)) (b := 8) C rfl rfl (by omega) (by decide) (by decide) dL_told_47 rfl ?_
  refine pv_istore (q := 50) C dL_told_48 rfl (Nat.le_of_ble_eq_true rfl) rfl ?_
  refine pv_iload (q := 52) C dL_told_50 rfl rfl ?_
  refine pv_iconst (q := 53) (v := 2) C dL_told_52 rfl (by decide) ?_
  refine pv_icmp_ge (q := 56) (tgt := 61) C dL_told_53 (by decide) rfl (fun c53_1 => False.elim (absurd c53_1 (by rw [hE7]; decide))) (fun _ => ?_)
  refine pv_bipush (q := 58) (v := 105) C dL_told_56 rfl (by decide) ?_
  refine pv_goto (tgt := 114) C dL_told_58 (by decide) ?_
  refine pv_istore (q := 116) C dL_told_114 rfl (Nat.le_of_ble_eq_true rfl) rfl ?_
  refine pv_iload_n (q := 117) C dL_told_116 rfl rfl rfl ?_
  refine pv_if_eq (q := 120) (tgt := 131) C dL_told_117 (by decide) rfl (fun c117_2 => False.elim (absurd c117_2 (nI_ne0 (by omega) (by omega)))) (fun _ => ?_)
  refine pv_aload_n (q := 121) C dL_told_120 rfl rfl rfl ?_
  refine pv_bipush (q := 123) (v := 59) C dL_told_121 rfl (by decide) ?_
  refine pv_callLl (q := 126) (rest := []) C Z hNC hKl (c_L_append l X D P hfl M (W) h (by omega) n0 (by omega) hn0 59) tw_768 mw_L_append ⟨rfl, rfl⟩ (by rw [hKR]; exact ⟨Nat.le_of_ble_eq_true rfl, Nat.le_of_ble_eq_true rfl⟩) (by rw [hKR]; constructor <;> (dsimp only; omega)) rfl rfl rfl (Nat.le_of_ble_eq_true rfl) dL_told_123 rfl (fun r3 D3 P3 q3 => ?_)
  obtain ⟨e3, hR3⟩ := QE.ok q3 (kApp_0 (by decide) (by omega))
  obtain rfl : r3 = ((nI n0 + 1).toInt64) := e3.trans (rfl)
  rw [ap1_n hn0 (by omega)] at hR3
  refine pv_lconst (q := 127) (v := 0) C dL_told_126 rfl (by decide) ?_
  refine pv_lcmp (q := 128) C dL_told_127 rfl ?_
  refine pv_if_le (q := 131) (tgt := 185) C dL_told_128 (by decide) rfl (fun c128_4 => False.elim (Int64.not_le.mpr (ap_pos (by omega)) ((lg_cmp_le _ _).mp c128_4))) (fun _ => ?_)
  refine pv_aload_n (q := 132) C dL_told_131 rfl rfl rfl ?_
  refine pv_iload (q := 134) C dL_told_132 rfl rfl ?_
  refine pv_callLl (q := 137) (rest := []) C Z hNC hKl (c_L_append l X D3 P3 hfl (ap1 M 59) (W + 130) hR3 (by omega) (n0 + 1) (by omega) (ap1_len hn0) 105) tw_768 mw_L_append ⟨rfl, rfl⟩ (by rw [hKR]; exact ⟨Nat.le_of_ble_eq_true rfl, Nat.le_of_ble_eq_true rfl⟩) (by rw [hKR]; constructor <;> (dsimp only; omega)) rfl rfl rfl (Nat.le_of_ble_eq_true rfl) dL_told_134 rfl (fun r5 D5 P5 q5 => ?_)
  obtain ⟨e5, hR5⟩ := QE.ok q5 (kApp_0 (by decide) (by omega))
  obtain rfl : r5 = ((nI (n0 + 1) + 1).toInt64) := e5.trans (rfl)
  rw [ap1_n (ap1_len hn0) (by omega)] at hR5
  refine pv_lconst (q := 138) (v := 0) C dL_told_137 rfl (by decide) ?_
  refine pv_lcmp (q := 139) C dL_told_138 rfl ?_
  refine pv_if_le (q := 142) (tgt := 185) C dL_told_139 (by decide) rfl (fun c139_6 => False.elim (Int64.not_le.mpr (ap_pos (by omega)) ((lg_cmp_le _ _).mp c139_6))) (fun _ => ?_)
  refine pv_aload_n (q := 143) C dL_told_142 rfl rfl rfl ?_
  refine pv_iload (q := 145) C dL_told_143 rfl rfl ?_
  refine pv_iconst (q := 146) (v := 5) C dL_told_145 rfl (by decide) ?_
  refine pv_icmp_ge (q := 149) (tgt := 154) C dL_told_146 (by decide) rfl (fun c146_7 => False.elim (absurd c146_7 (by rw [hE7]; decide))) (fun _ => ?_)
  refine pv_iload (q := 151) C dL_told_149 rfl rfl ?_
  refine pv_goto (tgt := 175) C dL_told_151 (by decide) ?_
  refine pv_callMi (q := 178) (rest := []) C Z hNC hKl (c_L_numP l X D5 P5 hfl (ap1 (ap1 M 59) 105) (W + 130 + 130) hR5 (by omega) ((x / 2 ^ k) / 7 % 8) ((n0 + 1) + 1) ((by omega)) (ap1_len (ap1_len hn0)) (by omega)) tw_993 mm_L_number ⟨rfl, rfl⟩ (by rw [hKR]; exact ⟨Nat.le_of_ble_eq_true rfl, Nat.le_of_ble_eq_true rfl⟩) (by rw [hKR]; constructor <;> (dsimp only; omega)) rfl rfl rfl (Nat.le_of_ble_eq_true rfl) dL_told_175 rfl (fun r8 D8 P8 q8 => ?_)
  obtain ⟨rfl, hR8⟩ := q8
  refine pv_if_eq (q := 181) (tgt := 185) C dL_told_178 (by decide) rfl (fun c178_9 => absurd c178_9 (by decide)) (fun _ => ?_)
  refine pv_iconst (q := 182) (v := 1) C dL_told_181 rfl (by decide) ?_
  refine pv_goto (tgt := 186) C dL_told_182 (by decide) ?_
  refine pv_istore_n (q := 187) C dL_told_186 rfl rfl (Nat.le_of_ble_eq_true rfl) rfl ?_
  refine pv_iload_n (q := 188) C dL_told_187 rfl rfl rfl ?_
  refine pv_if_eq (q := 191) (tgt := 261) C dL_told_188 (by decide) rfl (fun c188_10 => absurd c188_10 (by decide)) (fun _ => ?_)
  refine pv_iload (q := 193) C dL_told_191 rfl rfl ?_
  refine pv_iconst (q := 194) (v := 2) C dL_told_193 rfl (by decide) ?_
  refine pv_icmp_ne (q := 197) (tgt := 208) C dL_told_194 (by decide) rfl (fun _ => ?_) (fun c194_11 => False.elim (absurd c194_11 (by rw [hE7]; decide)))
  refine pv_iload (q := 210) C dL_told_208 rfl rfl ?_
  refine pv_iconst (q := 211) (v := 1) C dL_told_210 rfl (by decide) ?_
  refine pv_icmp_le (q := 214) (tgt := 220) C dL_told_211 (by decide) rfl (fun _ => ?_) (fun c211_12 => False.elim (c211_12 (by rw [hE7]; decide)))
  refine pv_aload_n (q := 221) C dL_told_220 rfl rfl rfl ?_
  refine pv_bipush (q := 223) (v := 97) C dL_told_221 rfl (by decide) ?_
  refine pv_iload (q := 225) C dL_told_223 rfl rfl ?_
  refine pv_iconst (q := 226) (v := 4) C dL_told_225 rfl (by decide) ?_
  refine pv_iremN (q := 227) (a := (x / 2 ^ k)) (b := 4) C rfl rfl (by omega) (by decide) (by decide) dL_told_226 rfl ?_
  refine pv_iaddN (q := 228) (a := 97) (b := ((x / 2 ^ k) % 4)) C rfl rfl dL_told_227 rfl ?_
  refine pv_callLl (q := 231) (rest := []) C Z hNC hKl (c_L_append l X D8 P8 hfl (numE ((x / 2 ^ k) / 7 % 8) (ap1 (ap1 M 59) 105)) (W + 130 + 130 + 390) hR8 (by omega) n1 (by omega) hn1 (nI (97 + ((x / 2 ^ k) % 4)))) tw_768 mw_L_append ⟨rfl, rfl⟩ (by rw [hKR]; exact ⟨Nat.le_of_ble_eq_true rfl, Nat.le_of_ble_eq_true rfl⟩) (by rw [hKR]; constructor <;> (dsimp only; omega)) rfl rfl rfl (Nat.le_of_ble_eq_true rfl) dL_told_228 rfl (fun r13 D13 P13 q13 => ?_)
  obtain ⟨e13, hR13⟩ := QE.ok q13 (kApp_0 (rg_cN (by omega) (by omega)) (by omega))
  obtain rfl : r13 = ((nI n1 + 1).toInt64) := e13.trans (rfl)
  rw [ap1_n hn1 (by omega)] at hR13
  refine pv_lconst (q := 232) (v := 0) C dL_told_231 rfl (by decide) ?_
  refine pv_lcmp (q := 233) C dL_told_232 rfl ?_
  refine pv_if_le (q := 236) (tgt := 261) C dL_told_233 (by decide) rfl (fun c233_14 => False.elim (Int64.not_le.mpr (ap_pos (by omega)) ((lg_cmp_le _ _).mp c233_14))) (fun _ => ?_)
  refine pv_iload (q := 238) C dL_told_236 rfl rfl ?_
  refine pv_iconst (q := 239) (v := 2) C dL_told_238 rfl (by decide) ?_
  refine pv_icmp_gt (q := 242) (tgt := 257) C dL_told_239 (by decide) rfl (fun c239_15 => False.elim (absurd c239_15 (by rw [hE7]; decide))) (fun _ => ?_)
  refine pv_aload_n (q := 243) C dL_told_242 rfl rfl rfl ?_
  refine pv_iload (q := 245) C dL_told_243 rfl rfl ?_
  refine pv_bipush (q := 247) (v := 41) C dL_told_245 rfl (by decide) ?_
  refine pv_iremN (q := 248) (a := (x / 2 ^ k)) (b := 41) C rfl rfl (by omega) (by decide) (by decide) dL_told_247 rfl ?_
  refine pv_bipush (q := 250) (v := 20) C dL_told_248 rfl (by decide) ?_
  refine pv_isub (q := 251) C dL_told_250 rfl ?_
  rw [show nI ((x / 2 ^ k) % 41) - 20 = nI ((x / 2 ^ k) % 41 - 20) from pk_sub (b := 20) (by omega)]
  refine pv_callMi (q := 254) (rest := []) C Z hNC hKl (c_L_numP l X D13 P13 hfl (ap1 (numE ((x / 2 ^ k) / 7 % 8) (ap1 (ap1 M 59) 105)) (nI (97 + ((x / 2 ^ k) % 4)))) (W + 130 + 130 + 390 + 130) hR13 (by omega) ((x / 2 ^ k) % 41 - 20) (n1 + 1) ((by omega)) (ap1_len hn1) (by omega)) tw_993 mm_L_number ⟨rfl, rfl⟩ (by rw [hKR]; exact ⟨Nat.le_of_ble_eq_true rfl, Nat.le_of_ble_eq_true rfl⟩) (by rw [hKR]; constructor <;> (dsimp only; omega)) rfl rfl rfl (Nat.le_of_ble_eq_true rfl) dL_told_251 rfl (fun r16 D16 P16 q16 => ?_)
  obtain ⟨rfl, hR16⟩ := q16
  refine pv_if_eq (q := 257) (tgt := 261) C dL_told_254 (by decide) rfl (fun c254_17 => absurd c254_17 (by decide)) (fun _ => ?_)
  refine pv_iconst (q := 258) (v := 1) C dL_told_257 rfl (by decide) ?_
  refine pv_goto (tgt := 262) C dL_told_258 (by decide) ?_
  refine pv_istore_n (q := 263) C dL_told_262 rfl rfl (Nat.le_of_ble_eq_true rfl) rfl ?_
  exact PV_widen (by omega) (by omega) (PV_le (kk D16 P16 (RI_W hR16 (by omega))) ⟨Or.inr rfl, Or.inr rfl, Or.inr rfl, Or.inr rfl, Or.inl rfl, Or.inl rfl, Or.inl rfl, Or.inl rfl, trivial⟩)
set_option maxRecDepth 100000 in
set_option maxHeartbeats 4000000 in
theorem tp_1_0_0 {M : DT} {x k n0 : Nat} (hx : x < 2 ^ 31) (hk : k < 6) (hn0 : M 6 9 = nI n0) (hn8 : n0 ≤ 9 * k) (hk0 : ¬ k = 0) (hE7 : (x / 2 ^ k) % 7 = 1) (h41 : ¬ 20 ≤ (x / 2 ^ k) % 41) : ∃ (E : DT) (n : Nat), E 6 9 = nI n ∧ n ≤ 9 * (k + 1) ∧ (∀ V, JM M V → JM E V) ∧ ∀ {l : Launch} {K : KT} {X : XT} {w0 : Cond} {Q : State → Prop} {W cb : Nat} (_ : LK l K X cL_told RL w0 8 (some .long) ({ frames := 9, cells := 150, slots := 900, locals := 324 } : Room)) (_ : W + 20000 < 2 ^ 29) (_ : cb + 22 ≤ 150) (_ : ∀ (D : DT) (P : PT), RI D P E (W + 1400) → PV K X Q (cb + 22) (6 * (cb + 22)) 263 [some (.ref (X.2.2 0)), some (.int (nI x)), some (.int 1), some (.int (nI k)), none, none, none, none] [] D P) (D : DT) (P : PT) (_ : RI D P M W), PV K X Q (cb) (6 * cb) 28 [some (.ref (X.2.2 0)), some (.int (nI x)), some (.int 1), some (.int (nI k)), none, none, none, none] [] D P := by
  have hY : x / 2 ^ k < 2 ^ 31 := Nat.lt_of_le_of_lt (Nat.div_le_self _ _) hx
  obtain ⟨n1, a1, b1, hn1⟩ := numE_len (m := ((x / 2 ^ k) / 7 % 8)) (M := (ap1 (ap1 M 59) 105)) (ap1_len (ap1_len hn0))
  obtain ⟨n2, a2, b2, hn2⟩ := numE_len (m := (20 - (x / 2 ^ k) % 41)) (M := ap1 (ap1 (numE ((x / 2 ^ k) / 7 % 8) (ap1 (ap1 M 59) 105)) (nI (97 + ((x / 2 ^ k) % 4)))) 45) (ap1_len (ap1_len hn1))
  refine ⟨(numE (20 - (x / 2 ^ k) % 41) (ap1 (ap1 (numE ((x / 2 ^ k) / 7 % 8) (ap1 (ap1 M 59) 105)) (nI (97 + ((x / 2 ^ k) % 4)))) 45)), n2, hn2, by omega, fun V hj => (JM_num (JM_ap1 (JM_ap1 (JM_num (JM_ap1 (JM_ap1 hj)))))), ?_⟩
  intro l K X w0 Q W cb L hW hc kk D P h
  obtain ⟨hKl, hKR, C, Z, hNC, hfl⟩ := id L
  refine pv_iload_n (q := 29) C dL_told_28 rfl rfl rfl ?_
  refine pv_iload_n (q := 30) C dL_told_29 rfl rfl rfl ?_
  refine pv_ishr (q := 31) C dL_told_30 rfl ?_
  rw [shr_N hx (by omega)]
  refine pv_istore (q := 33) C dL_told_31 rfl (Nat.le_of_ble_eq_true rfl) rfl ?_
  refine pv_iload (q := 35) C dL_told_33 rfl rfl ?_
  refine pv_bipush (q := 37) (v := 7) C dL_told_35 rfl (by decide) ?_
  refine pv_iremN (q := 38) (a := (x / 2 ^ k)) (b := 7) C rfl rfl (by omega) (by decide) (by decide) dL_told_37 rfl ?_
  refine pv_istore (q := 40) C dL_told_38 rfl (Nat.le_of_ble_eq_true rfl) rfl ?_
  refine pv_iload (q := 42) C dL_told_40 rfl rfl ?_
  refine pv_bipush (q := 44) (v := 7) C dL_told_42 rfl (by decide) ?_
  refine pv_idivN (q := 45) (a := (x / 2 ^ k)) (b := 7) C rfl rfl (by omega) (by decide) (by decide) dL_told_44 rfl ?_
  refine pv_bipush (q := 47) (v := 8) C dL_told_45 rfl (by decide) ?_
  refine pv_iremN (q := 48) (a := ((x / 2 ^ k) / 7)) (b := 8) C rfl rfl (by omega) (by decide) (by decide) dL_told_47 rfl ?_
  refine pv_istore (q := 50) C dL_told_48 rfl (Nat.le_of_ble_eq_true rfl) rfl ?_
  refine pv_iload (q := 52) C dL_told_50 rfl rfl ?_
  refine pv_iconst (q := 53) (v := 2) C dL_told_52 rfl (by decide) ?_
  refine pv_icmp_ge (q := 56) (tgt := 61) C dL_told_53 (by decide) rfl (fun c53_1 => False.elim (absurd c53_1 (by rw [hE7]; decide))) (fun _ => ?_)
  refine pv_bipush (q := 58) (v := 105) C dL_told_56 rfl (by decide) ?_
  refine pv_goto (tgt := 114) C dL_told_58 (by decide) ?_
  refine pv_istore (q := 116) C dL_told_114 rfl (Nat.le_of_ble_eq_true rfl) rfl ?_
  refine pv_iload_n (q := 117) C dL_told_116 rfl rfl rfl ?_
  refine pv_if_eq (q := 120) (tgt := 131) C dL_told_117 (by decide) rfl (fun c117_2 => False.elim (absurd c117_2 (nI_ne0 (by omega) (by omega)))) (fun _ => ?_)
  refine pv_aload_n (q := 121) C dL_told_120 rfl rfl rfl ?_
  refine pv_bipush (q := 123) (v := 59) C dL_told_121 rfl (by decide) ?_
  refine pv_callLl (q := 126) (rest := []) C Z hNC hKl (c_L_append l X D P hfl M (W) h (by omega) n0 (by omega) hn0 59) tw_768 mw_L_append ⟨rfl, rfl⟩ (by rw [hKR]; exact ⟨Nat.le_of_ble_eq_true rfl, Nat.le_of_ble_eq_true rfl⟩) (by rw [hKR]; constructor <;> (dsimp only; omega)) rfl rfl rfl (Nat.le_of_ble_eq_true rfl) dL_told_123 rfl (fun r3 D3 P3 q3 => ?_)
  obtain ⟨e3, hR3⟩ := QE.ok q3 (kApp_0 (by decide) (by omega))
  obtain rfl : r3 = ((nI n0 + 1).toInt64) := e3.trans (rfl)
  rw [ap1_n hn0 (by omega)] at hR3
  refine pv_lconst (q := 127) (v := 0) C dL_told_126 rfl (by decide) ?_
  refine pv_lcmp (q := 128) C dL_told_127 rfl ?_
  refine pv_if_le (q := 131) (tgt := 185) C dL_told_128 (by decide) rfl (fun c128_4 => False.elim (Int64.not_le.mpr (ap_pos (by omega)) ((lg_cmp_le _ _).mp c128_4))) (fun _ => ?_)
  refine pv_aload_n (q := 132) C dL_told_131 rfl rfl rfl ?_
  refine pv_iload (q := 134) C dL_told_132 rfl rfl ?_
  refine pv_callLl (q := 137) (rest := []) C Z hNC hKl (c_L_append l X D3 P3 hfl (ap1 M 59) (W + 130) hR3 (by omega) (n0 + 1) (by omega) (ap1_len hn0) 105) tw_768 mw_L_append ⟨rfl, rfl⟩ (by rw [hKR]; exact ⟨Nat.le_of_ble_eq_true rfl, Nat.le_of_ble_eq_true rfl⟩) (by rw [hKR]; constructor <;> (dsimp only; omega)) rfl rfl rfl (Nat.le_of_ble_eq_true rfl) dL_told_134 rfl (fun r5 D5 P5 q5 => ?_)
  obtain ⟨e5, hR5⟩ := QE.ok q5 (kApp_0 (by decide) (by omega))
  obtain rfl : r5 = ((nI (n0 + 1) + 1).toInt64) := e5.trans (rfl)
  rw [ap1_n (ap1_len hn0) (by omega)] at hR5
  refine pv_lconst (q := 138) (v := 0) C dL_told_137 rfl (by decide) ?_
  refine pv_lcmp (q := 139) C dL_told_138 rfl ?_
  refine pv_if_le (q := 142) (tgt := 185) C dL_told_139 (by decide) rfl (fun c139_6 => False.elim (Int64.not_le.mpr (ap_pos (by omega)) ((lg_cmp_le _ _).mp c139_6))) (fun _ => ?_)
  refine pv_aload_n (q := 143) C dL_told_142 rfl rfl rfl ?_
  refine pv_iload (q := 145) C dL_told_143 rfl rfl ?_
  refine pv_iconst (q := 146) (v := 5) C dL_told_145 rfl (by decide) ?_
  refine pv_icmp_ge (q := 149) (tgt := 154) C dL_told_146 (by decide) rfl (fun c146_7 => False.elim (absurd c146_7 (by rw [hE7]; decide))) (fun _ => ?_)
  refine pv_iload (q := 151) C dL_told_149 rfl rfl ?_
  refine pv_goto (tgt := 175) C dL_told_151 (by decide) ?_
  refine pv_callMi (q := 178) (rest := []) C Z hNC hKl (c_L_numP l X D5 P5 hfl (ap1 (ap1 M 59) 105) (W + 130 + 130) hR5 (by omega) ((x / 2 ^ k) / 7 % 8) ((n0 + 1) + 1) ((by omega)) (ap1_len (ap1_len hn0)) (by omega)) tw_993 mm_L_number ⟨rfl, rfl⟩ (by rw [hKR]; exact ⟨Nat.le_of_ble_eq_true rfl, Nat.le_of_ble_eq_true rfl⟩) (by rw [hKR]; constructor <;> (dsimp only; omega)) rfl rfl rfl (Nat.le_of_ble_eq_true rfl) dL_told_175 rfl (fun r8 D8 P8 q8 => ?_)
  obtain ⟨rfl, hR8⟩ := q8
  refine pv_if_eq (q := 181) (tgt := 185) C dL_told_178 (by decide) rfl (fun c178_9 => absurd c178_9 (by decide)) (fun _ => ?_)
  refine pv_iconst (q := 182) (v := 1) C dL_told_181 rfl (by decide) ?_
  refine pv_goto (tgt := 186) C dL_told_182 (by decide) ?_
  refine pv_istore_n (q := 187) C dL_told_186 rfl rfl (Nat.le_of_ble_eq_true rfl) rfl ?_
  refine pv_iload_n (q := 188) C dL_told_187 rfl rfl rfl ?_
  refine pv_if_eq (q := 191) (tgt := 261) C dL_told_188 (by decide) rfl (fun c188_10 => absurd c188_10 (by decide)) (fun _ => ?_)
  refine pv_iload (q := 193) C dL_told_191 rfl rfl ?_
  refine pv_iconst (q := 194) (v := 2) C dL_told_193 rfl (by decide) ?_
  refine pv_icmp_ne (q := 197) (tgt := 208) C dL_told_194 (by decide) rfl (fun _ => ?_) (fun c194_11 => False.elim (absurd c194_11 (by rw [hE7]; decide)))
  refine pv_iload (q := 210) C dL_told_208 rfl rfl ?_
  refine pv_iconst (q := 211) (v := 1) C dL_told_210 rfl (by decide) ?_
  refine pv_icmp_le (q := 214) (tgt := 220) C dL_told_211 (by decide) rfl (fun _ => ?_) (fun c211_12 => False.elim (c211_12 (by rw [hE7]; decide)))
  refine pv_aload_n (q := 221) C dL_told_220 rfl rfl rfl ?_
  refine pv_bipush (q := 223) (v := 97) C dL_told_221 rfl (by decide) ?_
  refine pv_iload (q := 225) C dL_told_223 rfl rfl ?_
  refine pv_iconst (q := 226) (v := 4) C dL_told_225 rfl (by decide) ?_
  refine pv_iremN (q := 227) (a := (x / 2 ^ k)) (b := 4) C rfl rfl (by omega) (by decide) (by decide) dL_told_226 rfl ?_
  refine pv_iaddN (q := 228) (a := 97) (b := ((x / 2 ^ k) % 4)) C rfl rfl dL_told_227 rfl ?_
  refine pv_callLl (q := 231) (rest := []) C Z hNC hKl (c_L_append l X D8 P8 hfl (numE ((x / 2 ^ k) / 7 % 8) (ap1 (ap1 M 59) 105)) (W + 130 + 130 + 390) hR8 (by omega) n1 (by omega) hn1 (nI (97 + ((x / 2 ^ k) % 4)))) tw_768 mw_L_append ⟨rfl, rfl⟩ (by rw [hKR]; exact ⟨Nat.le_of_ble_eq_true rfl, Nat.le_of_ble_eq_true rfl⟩) (by rw [hKR]; constructor <;> (dsimp only; omega)) rfl rfl rfl (Nat.le_of_ble_eq_true rfl) dL_told_228 rfl (fun r13 D13 P13 q13 => ?_)
  obtain ⟨e13, hR13⟩ := QE.ok q13 (kApp_0 (rg_cN (by omega) (by omega)) (by omega))
  obtain rfl : r13 = ((nI n1 + 1).toInt64) := e13.trans (rfl)
  rw [ap1_n hn1 (by omega)] at hR13
  refine pv_lconst (q := 232) (v := 0) C dL_told_231 rfl (by decide) ?_
  refine pv_lcmp (q := 233) C dL_told_232 rfl ?_
  refine pv_if_le (q := 236) (tgt := 261) C dL_told_233 (by decide) rfl (fun c233_14 => False.elim (Int64.not_le.mpr (ap_pos (by omega)) ((lg_cmp_le _ _).mp c233_14))) (fun _ => ?_)
  refine pv_iload (q := 238) C dL_told_236 rfl rfl ?_
  refine pv_iconst (q := 239) (v := 2) C dL_told_238 rfl (by decide) ?_
  refine pv_icmp_gt (q := 242) (tgt := 257) C dL_told_239 (by decide) rfl (fun c239_15 => False.elim (absurd c239_15 (by rw [hE7]; decide))) (fun _ => ?_)
  refine pv_aload_n (q := 243) C dL_told_242 rfl rfl rfl ?_
  refine pv_iload (q := 245) C dL_told_243 rfl rfl ?_
  refine pv_bipush (q := 247) (v := 41) C dL_told_245 rfl (by decide) ?_
  refine pv_iremN (q := 248) (a := (x / 2 ^ k)) (b := 41) C rfl rfl (by omega) (by decide) (by decide) dL_told_247 rfl ?_
  refine pv_bipush (q := 250) (v := 20) C dL_told_248 rfl (by decide) ?_
  refine pv_isub (q := 251) C dL_told_250 rfl ?_
  rw [show nI ((x / 2 ^ k) % 41) - 20 = -(nI (20 - (x / 2 ^ k) % 41)) from neg_sub (b := 20) (by omega)]
  refine pv_callMi (q := 254) (rest := []) C Z hNC hKl (c_L_numN l X D13 P13 hfl (ap1 (numE ((x / 2 ^ k) / 7 % 8) (ap1 (ap1 M 59) 105)) (nI (97 + ((x / 2 ^ k) % 4)))) (W + 130 + 130 + 390 + 130) hR13 (by omega) (20 - (x / 2 ^ k) % 41) (n1 + 1) ((by omega)) (ap1_len hn1) (by omega)) tw_993 mm_L_number ⟨rfl, rfl⟩ (by rw [hKR]; exact ⟨Nat.le_of_ble_eq_true rfl, Nat.le_of_ble_eq_true rfl⟩) (by rw [hKR]; constructor <;> (dsimp only; omega)) rfl rfl rfl (Nat.le_of_ble_eq_true rfl) dL_told_251 rfl (fun r16 D16 P16 q16 => ?_)
  obtain ⟨rfl, hR16⟩ := q16
  refine pv_if_eq (q := 257) (tgt := 261) C dL_told_254 (by decide) rfl (fun c254_17 => absurd c254_17 (by decide)) (fun _ => ?_)
  refine pv_iconst (q := 258) (v := 1) C dL_told_257 rfl (by decide) ?_
  refine pv_goto (tgt := 262) C dL_told_258 (by decide) ?_
  refine pv_istore_n (q := 263) C dL_told_262 rfl rfl (Nat.le_of_ble_eq_true rfl) rfl ?_
  exact PV_widen (by omega) (by omega) (PV_le (kk D16 P16 (RI_W hR16 (by omega))) ⟨Or.inr rfl, Or.inr rfl, Or.inr rfl, Or.inr rfl, Or.inl rfl, Or.inl rfl, Or.inl rfl, Or.inl rfl, trivial⟩)
set_option maxRecDepth 100000 in
set_option maxHeartbeats 4000000 in
theorem tp_2_1_1 {M : DT} {x k n0 : Nat} (hx : x < 2 ^ 31) (hk : k < 6) (hn0 : M 6 9 = nI n0) (hn8 : n0 ≤ 9 * k) (hk0 : k = 0) (hE7 : (x / 2 ^ k) % 7 = 2) (h41 : 20 ≤ (x / 2 ^ k) % 41) : ∃ (E : DT) (n : Nat), E 6 9 = nI n ∧ n ≤ 9 * (k + 1) ∧ (∀ V, JM M V → JM E V) ∧ ∀ {l : Launch} {K : KT} {X : XT} {w0 : Cond} {Q : State → Prop} {W cb : Nat} (_ : LK l K X cL_told RL w0 8 (some .long) ({ frames := 9, cells := 150, slots := 900, locals := 324 } : Room)) (_ : W + 20000 < 2 ^ 29) (_ : cb + 22 ≤ 150) (_ : ∀ (D : DT) (P : PT), RI D P E (W + 1400) → PV K X Q (cb + 22) (6 * (cb + 22)) 263 [some (.ref (X.2.2 0)), some (.int (nI x)), some (.int 1), some (.int (nI k)), none, none, none, none] [] D P) (D : DT) (P : PT) (_ : RI D P M W), PV K X Q (cb) (6 * cb) 28 [some (.ref (X.2.2 0)), some (.int (nI x)), some (.int 1), some (.int (nI k)), none, none, none, none] [] D P := by
  have hY : x / 2 ^ k < 2 ^ 31 := Nat.lt_of_le_of_lt (Nat.div_le_self _ _) hx
  obtain ⟨n1, a1, b1, hn1⟩ := numE_len (m := ((x / 2 ^ k) / 7 % 8)) (M := (ap1 M 117)) (ap1_len hn0)
  obtain ⟨n2, a2, b2, hn2⟩ := numE_len (m := ((x / 2 ^ k) % 41 - 20)) (M := (ap1 (numE ((x / 2 ^ k) / 7 % 8) (ap1 M 117)) 61)) (ap1_len hn1)
  refine ⟨(numE ((x / 2 ^ k) % 41 - 20) (ap1 (numE ((x / 2 ^ k) / 7 % 8) (ap1 M 117)) 61)), n2, hn2, by omega, fun V hj => (JM_num (JM_ap1 (JM_num (JM_ap1 hj)))), ?_⟩
  intro l K X w0 Q W cb L hW hc kk D P h
  obtain ⟨hKl, hKR, C, Z, hNC, hfl⟩ := id L
  refine pv_iload_n (q := 29) C dL_told_28 rfl rfl rfl ?_
  refine pv_iload_n (q := 30) C dL_told_29 rfl rfl rfl ?_
  refine pv_ishr (q := 31) C dL_told_30 rfl ?_
  rw [shr_N hx (by omega)]
  refine pv_istore (q := 33) C dL_told_31 rfl (Nat.le_of_ble_eq_true rfl) rfl ?_
  refine pv_iload (q := 35) C dL_told_33 rfl rfl ?_
  refine pv_bipush (q := 37) (v := 7) C dL_told_35 rfl (by decide) ?_
  refine pv_iremN (q := 38) (a := (x / 2 ^ k)) (b := 7) C rfl rfl (by omega) (by decide) (by decide) dL_told_37 rfl ?_
  refine pv_istore (q := 40) C dL_told_38 rfl (Nat.le_of_ble_eq_true rfl) rfl ?_
  refine pv_iload (q := 42) C dL_told_40 rfl rfl ?_
  refine pv_bipush (q := 44) (v := 7) C dL_told_42 rfl (by decide) ?_
  refine pv_idivN (q := 45) (a := (x / 2 ^ k)) (b := 7) C rfl rfl (by omega) (by decide) (by decide) dL_told_44 rfl ?_
  refine pv_bipush (q := 47) (v := 8) C dL_told_45 rfl (by decide) ?_
  refine pv_iremN (q := 48) (a := ((x / 2 ^ k) / 7)) (b := 8) C rfl rfl (by omega) (by decide) (by decide) dL_told_47 rfl ?_
  refine pv_istore (q := 50) C dL_told_48 rfl (Nat.le_of_ble_eq_true rfl) rfl ?_
  refine pv_iload (q := 52) C dL_told_50 rfl rfl ?_
  refine pv_iconst (q := 53) (v := 2) C dL_told_52 rfl (by decide) ?_
  refine pv_icmp_ge (q := 56) (tgt := 61) C dL_told_53 (by decide) rfl (fun _ => ?_) (fun c53_1 => False.elim (c53_1 (by rw [hE7]; decide)))
  refine pv_iload (q := 63) C dL_told_61 rfl rfl ?_
  refine pv_iconst (q := 64) (v := 2) C dL_told_63 rfl (by decide) ?_
  refine pv_icmp_ne (q := 67) (tgt := 72) C dL_told_64 (by decide) rfl (fun c64_2 => False.elim (c64_2 (by rw [hE7]; decide))) (fun _ => ?_)
  refine pv_bipush (q := 69) (v := 117) C dL_told_67 rfl (by decide) ?_
  refine pv_goto (tgt := 114) C dL_told_69 (by decide) ?_
  refine pv_istore (q := 116) C dL_told_114 rfl (Nat.le_of_ble_eq_true rfl) rfl ?_
  refine pv_iload_n (q := 117) C dL_told_116 rfl rfl rfl ?_
  refine pv_if_eq (q := 120) (tgt := 131) C dL_told_117 (by decide) rfl (fun _ => ?_) (fun c117_3 => False.elim (c117_3 (by rw [hk0]; rfl)))
  refine pv_aload_n (q := 132) C dL_told_131 rfl rfl rfl ?_
  refine pv_iload (q := 134) C dL_told_132 rfl rfl ?_
  refine pv_callLl (q := 137) (rest := []) C Z hNC hKl (c_L_append l X D P hfl M (W) h (by omega) n0 (by omega) hn0 117) tw_768 mw_L_append ⟨rfl, rfl⟩ (by rw [hKR]; exact ⟨Nat.le_of_ble_eq_true rfl, Nat.le_of_ble_eq_true rfl⟩) (by rw [hKR]; constructor <;> (dsimp only; omega)) rfl rfl rfl (Nat.le_of_ble_eq_true rfl) dL_told_134 rfl (fun r4 D4 P4 q4 => ?_)
  obtain ⟨e4, hR4⟩ := QE.ok q4 (kApp_0 (by decide) (by omega))
  obtain rfl : r4 = ((nI n0 + 1).toInt64) := e4.trans (rfl)
  rw [ap1_n hn0 (by omega)] at hR4
  refine pv_lconst (q := 138) (v := 0) C dL_told_137 rfl (by decide) ?_
  refine pv_lcmp (q := 139) C dL_told_138 rfl ?_
  refine pv_if_le (q := 142) (tgt := 185) C dL_told_139 (by decide) rfl (fun c139_5 => False.elim (Int64.not_le.mpr (ap_pos (by omega)) ((lg_cmp_le _ _).mp c139_5))) (fun _ => ?_)
  refine pv_aload_n (q := 143) C dL_told_142 rfl rfl rfl ?_
  refine pv_iload (q := 145) C dL_told_143 rfl rfl ?_
  refine pv_iconst (q := 146) (v := 5) C dL_told_145 rfl (by decide) ?_
  refine pv_icmp_ge (q := 149) (tgt := 154) C dL_told_146 (by decide) rfl (fun c146_6 => False.elim (absurd c146_6 (by rw [hE7]; decide))) (fun _ => ?_)
  refine pv_iload (q := 151) C dL_told_149 rfl rfl ?_
  refine pv_goto (tgt := 175) C dL_told_151 (by decide) ?_
  refine pv_callMi (q := 178) (rest := []) C Z hNC hKl (c_L_numP l X D4 P4 hfl (ap1 M 117) (W + 130) hR4 (by omega) ((x / 2 ^ k) / 7 % 8) (n0 + 1) ((by omega)) (ap1_len hn0) (by omega)) tw_993 mm_L_number ⟨rfl, rfl⟩ (by rw [hKR]; exact ⟨Nat.le_of_ble_eq_true rfl, Nat.le_of_ble_eq_true rfl⟩) (by rw [hKR]; constructor <;> (dsimp only; omega)) rfl rfl rfl (Nat.le_of_ble_eq_true rfl) dL_told_175 rfl (fun r7 D7 P7 q7 => ?_)
  obtain ⟨rfl, hR7⟩ := q7
  refine pv_if_eq (q := 181) (tgt := 185) C dL_told_178 (by decide) rfl (fun c178_8 => absurd c178_8 (by decide)) (fun _ => ?_)
  refine pv_iconst (q := 182) (v := 1) C dL_told_181 rfl (by decide) ?_
  refine pv_goto (tgt := 186) C dL_told_182 (by decide) ?_
  refine pv_istore_n (q := 187) C dL_told_186 rfl rfl (Nat.le_of_ble_eq_true rfl) rfl ?_
  refine pv_iload_n (q := 188) C dL_told_187 rfl rfl rfl ?_
  refine pv_if_eq (q := 191) (tgt := 261) C dL_told_188 (by decide) rfl (fun c188_9 => absurd c188_9 (by decide)) (fun _ => ?_)
  refine pv_iload (q := 193) C dL_told_191 rfl rfl ?_
  refine pv_iconst (q := 194) (v := 2) C dL_told_193 rfl (by decide) ?_
  refine pv_icmp_ne (q := 197) (tgt := 208) C dL_told_194 (by decide) rfl (fun c194_10 => False.elim (c194_10 (by rw [hE7]; decide))) (fun _ => ?_)
  refine pv_aload_n (q := 198) C dL_told_197 rfl rfl rfl ?_
  refine pv_bipush (q := 200) (v := 61) C dL_told_198 rfl (by decide) ?_
  refine pv_callLl (q := 203) (rest := []) C Z hNC hKl (c_L_append l X D7 P7 hfl (numE ((x / 2 ^ k) / 7 % 8) (ap1 M 117)) (W + 130 + 390) hR7 (by omega) n1 (by omega) hn1 61) tw_768 mw_L_append ⟨rfl, rfl⟩ (by rw [hKR]; exact ⟨Nat.le_of_ble_eq_true rfl, Nat.le_of_ble_eq_true rfl⟩) (by rw [hKR]; constructor <;> (dsimp only; omega)) rfl rfl rfl (Nat.le_of_ble_eq_true rfl) dL_told_200 rfl (fun r11 D11 P11 q11 => ?_)
  obtain ⟨e11, hR11⟩ := QE.ok q11 (kApp_0 (by decide) (by omega))
  obtain rfl : r11 = ((nI n1 + 1).toInt64) := e11.trans (rfl)
  rw [ap1_n hn1 (by omega)] at hR11
  refine pv_lconst (q := 204) (v := 0) C dL_told_203 rfl (by decide) ?_
  refine pv_lcmp (q := 205) C dL_told_204 rfl ?_
  refine pv_if_le (q := 208) (tgt := 261) C dL_told_205 (by decide) rfl (fun c205_12 => False.elim (Int64.not_le.mpr (ap_pos (by omega)) ((lg_cmp_le _ _).mp c205_12))) (fun _ => ?_)
  refine pv_iload (q := 210) C dL_told_208 rfl rfl ?_
  refine pv_iconst (q := 211) (v := 1) C dL_told_210 rfl (by decide) ?_
  refine pv_icmp_le (q := 214) (tgt := 220) C dL_told_211 (by decide) rfl (fun c211_13 => False.elim (absurd c211_13 (by rw [hE7]; decide))) (fun _ => ?_)
  refine pv_iload (q := 216) C dL_told_214 rfl rfl ?_
  refine pv_iconst (q := 217) (v := 3) C dL_told_216 rfl (by decide) ?_
  refine pv_icmp_ne (q := 220) (tgt := 236) C dL_told_217 (by decide) rfl (fun _ => ?_) (fun c217_14 => False.elim (absurd c217_14 (by rw [hE7]; decide)))
  refine pv_iload (q := 238) C dL_told_236 rfl rfl ?_
  refine pv_iconst (q := 239) (v := 2) C dL_told_238 rfl (by decide) ?_
  refine pv_icmp_gt (q := 242) (tgt := 257) C dL_told_239 (by decide) rfl (fun c239_15 => False.elim (absurd c239_15 (by rw [hE7]; decide))) (fun _ => ?_)
  refine pv_aload_n (q := 243) C dL_told_242 rfl rfl rfl ?_
  refine pv_iload (q := 245) C dL_told_243 rfl rfl ?_
  refine pv_bipush (q := 247) (v := 41) C dL_told_245 rfl (by decide) ?_
  refine pv_iremN (q := 248) (a := (x / 2 ^ k)) (b := 41) C rfl rfl (by omega) (by decide) (by decide) dL_told_247 rfl ?_
  refine pv_bipush (q := 250) (v := 20) C dL_told_248 rfl (by decide) ?_
  refine pv_isub (q := 251) C dL_told_250 rfl ?_
  rw [show nI ((x / 2 ^ k) % 41) - 20 = nI ((x / 2 ^ k) % 41 - 20) from pk_sub (b := 20) (by omega)]
  refine pv_callMi (q := 254) (rest := []) C Z hNC hKl (c_L_numP l X D11 P11 hfl (ap1 (numE ((x / 2 ^ k) / 7 % 8) (ap1 M 117)) 61) (W + 130 + 390 + 130) hR11 (by omega) ((x / 2 ^ k) % 41 - 20) (n1 + 1) ((by omega)) (ap1_len hn1) (by omega)) tw_993 mm_L_number ⟨rfl, rfl⟩ (by rw [hKR]; exact ⟨Nat.le_of_ble_eq_true rfl, Nat.le_of_ble_eq_true rfl⟩) (by rw [hKR]; constructor <;> (dsimp only; omega)) rfl rfl rfl (Nat.le_of_ble_eq_true rfl) dL_told_251 rfl (fun r16 D16 P16 q16 => ?_)
  obtain ⟨rfl, hR16⟩ := q16
  refine pv_if_eq (q := 257) (tgt := 261) C dL_told_254 (by decide) rfl (fun c254_17 => absurd c254_17 (by decide)) (fun _ => ?_)
  refine pv_iconst (q := 258) (v := 1) C dL_told_257 rfl (by decide) ?_
  refine pv_goto (tgt := 262) C dL_told_258 (by decide) ?_
  refine pv_istore_n (q := 263) C dL_told_262 rfl rfl (Nat.le_of_ble_eq_true rfl) rfl ?_
  exact PV_widen (by omega) (by omega) (PV_le (kk D16 P16 (RI_W hR16 (by omega))) ⟨Or.inr rfl, Or.inr rfl, Or.inr rfl, Or.inr rfl, Or.inl rfl, Or.inl rfl, Or.inl rfl, Or.inl rfl, trivial⟩)
set_option maxRecDepth 100000 in
set_option maxHeartbeats 4000000 in
theorem tp_2_1_0 {M : DT} {x k n0 : Nat} (hx : x < 2 ^ 31) (hk : k < 6) (hn0 : M 6 9 = nI n0) (hn8 : n0 ≤ 9 * k) (hk0 : k = 0) (hE7 : (x / 2 ^ k) % 7 = 2) (h41 : ¬ 20 ≤ (x / 2 ^ k) % 41) : ∃ (E : DT) (n : Nat), E 6 9 = nI n ∧ n ≤ 9 * (k + 1) ∧ (∀ V, JM M V → JM E V) ∧ ∀ {l : Launch} {K : KT} {X : XT} {w0 : Cond} {Q : State → Prop} {W cb : Nat} (_ : LK l K X cL_told RL w0 8 (some .long) ({ frames := 9, cells := 150, slots := 900, locals := 324 } : Room)) (_ : W + 20000 < 2 ^ 29) (_ : cb + 22 ≤ 150) (_ : ∀ (D : DT) (P : PT), RI D P E (W + 1400) → PV K X Q (cb + 22) (6 * (cb + 22)) 263 [some (.ref (X.2.2 0)), some (.int (nI x)), some (.int 1), some (.int (nI k)), none, none, none, none] [] D P) (D : DT) (P : PT) (_ : RI D P M W), PV K X Q (cb) (6 * cb) 28 [some (.ref (X.2.2 0)), some (.int (nI x)), some (.int 1), some (.int (nI k)), none, none, none, none] [] D P := by
  have hY : x / 2 ^ k < 2 ^ 31 := Nat.lt_of_le_of_lt (Nat.div_le_self _ _) hx
  obtain ⟨n1, a1, b1, hn1⟩ := numE_len (m := ((x / 2 ^ k) / 7 % 8)) (M := (ap1 M 117)) (ap1_len hn0)
  obtain ⟨n2, a2, b2, hn2⟩ := numE_len (m := (20 - (x / 2 ^ k) % 41)) (M := ap1 (ap1 (numE ((x / 2 ^ k) / 7 % 8) (ap1 M 117)) 61) 45) (ap1_len (ap1_len hn1))
  refine ⟨(numE (20 - (x / 2 ^ k) % 41) (ap1 (ap1 (numE ((x / 2 ^ k) / 7 % 8) (ap1 M 117)) 61) 45)), n2, hn2, by omega, fun V hj => (JM_num (JM_ap1 (JM_ap1 (JM_num (JM_ap1 hj))))), ?_⟩
  intro l K X w0 Q W cb L hW hc kk D P h
  obtain ⟨hKl, hKR, C, Z, hNC, hfl⟩ := id L
  refine pv_iload_n (q := 29) C dL_told_28 rfl rfl rfl ?_
  refine pv_iload_n (q := 30) C dL_told_29 rfl rfl rfl ?_
  refine pv_ishr (q := 31) C dL_told_30 rfl ?_
  rw [shr_N hx (by omega)]
  refine pv_istore (q := 33) C dL_told_31 rfl (Nat.le_of_ble_eq_true rfl) rfl ?_
  refine pv_iload (q := 35) C dL_told_33 rfl rfl ?_
  refine pv_bipush (q := 37) (v := 7) C dL_told_35 rfl (by decide) ?_
  refine pv_iremN (q := 38) (a := (x / 2 ^ k)) (b := 7) C rfl rfl (by omega) (by decide) (by decide) dL_told_37 rfl ?_
  refine pv_istore (q := 40) C dL_told_38 rfl (Nat.le_of_ble_eq_true rfl) rfl ?_
  refine pv_iload (q := 42) C dL_told_40 rfl rfl ?_
  refine pv_bipush (q := 44) (v := 7) C dL_told_42 rfl (by decide) ?_
  refine pv_idivN (q := 45) (a := (x / 2 ^ k)) (b := 7) C rfl rfl (by omega) (by decide) (by decide) dL_told_44 rfl ?_
  refine pv_bipush (q := 47) (v := 8) C dL_told_45 rfl (by decide) ?_
  refine pv_iremN (q := 48) (a := ((x / 2 ^ k) / 7)) (b := 8) C rfl rfl (by omega) (by decide) (by decide) dL_told_47 rfl ?_
  refine pv_istore (q := 50) C dL_told_48 rfl (Nat.le_of_ble_eq_true rfl) rfl ?_
  refine pv_iload (q := 52) C dL_told_50 rfl rfl ?_
  refine pv_iconst (q := 53) (v := 2) C dL_told_52 rfl (by decide) ?_
  refine pv_icmp_ge (q := 56) (tgt := 61) C dL_told_53 (by decide) rfl (fun _ => ?_) (fun c53_1 => False.elim (c53_1 (by rw [hE7]; decide)))
  refine pv_iload (q := 63) C dL_told_61 rfl rfl ?_
  refine pv_iconst (q := 64) (v := 2) C dL_told_63 rfl (by decide) ?_
  refine pv_icmp_ne (q := 67) (tgt := 72) C dL_told_64 (by decide) rfl (fun c64_2 => False.elim (c64_2 (by rw [hE7]; decide))) (fun _ => ?_)
  refine pv_bipush (q := 69) (v := 117) C dL_told_67 rfl (by decide) ?_
  refine pv_goto (tgt := 114) C dL_told_69 (by decide) ?_
  refine pv_istore (q := 116) C dL_told_114 rfl (Nat.le_of_ble_eq_true rfl) rfl ?_
  refine pv_iload_n (q := 117) C dL_told_116 rfl rfl rfl ?_
  refine pv_if_eq (q := 120) (tgt := 131) C dL_told_117 (by decide) rfl (fun _ => ?_) (fun c117_3 => False.elim (c117_3 (by rw [hk0]; rfl)))
  refine pv_aload_n (q := 132) C dL_told_131 rfl rfl rfl ?_
  refine pv_iload (q := 134) C dL_told_132 rfl rfl ?_
  refine pv_callLl (q := 137) (rest := []) C Z hNC hKl (c_L_append l X D P hfl M (W) h (by omega) n0 (by omega) hn0 117) tw_768 mw_L_append ⟨rfl, rfl⟩ (by rw [hKR]; exact ⟨Nat.le_of_ble_eq_true rfl, Nat.le_of_ble_eq_true rfl⟩) (by rw [hKR]; constructor <;> (dsimp only; omega)) rfl rfl rfl (Nat.le_of_ble_eq_true rfl) dL_told_134 rfl (fun r4 D4 P4 q4 => ?_)
  obtain ⟨e4, hR4⟩ := QE.ok q4 (kApp_0 (by decide) (by omega))
  obtain rfl : r4 = ((nI n0 + 1).toInt64) := e4.trans (rfl)
  rw [ap1_n hn0 (by omega)] at hR4
  refine pv_lconst (q := 138) (v := 0) C dL_told_137 rfl (by decide) ?_
  refine pv_lcmp (q := 139) C dL_told_138 rfl ?_
  refine pv_if_le (q := 142) (tgt := 185) C dL_told_139 (by decide) rfl (fun c139_5 => False.elim (Int64.not_le.mpr (ap_pos (by omega)) ((lg_cmp_le _ _).mp c139_5))) (fun _ => ?_)
  refine pv_aload_n (q := 143) C dL_told_142 rfl rfl rfl ?_
  refine pv_iload (q := 145) C dL_told_143 rfl rfl ?_
  refine pv_iconst (q := 146) (v := 5) C dL_told_145 rfl (by decide) ?_
  refine pv_icmp_ge (q := 149) (tgt := 154) C dL_told_146 (by decide) rfl (fun c146_6 => False.elim (absurd c146_6 (by rw [hE7]; decide))) (fun _ => ?_)
  refine pv_iload (q := 151) C dL_told_149 rfl rfl ?_
  refine pv_goto (tgt := 175) C dL_told_151 (by decide) ?_
  refine pv_callMi (q := 178) (rest := []) C Z hNC hKl (c_L_numP l X D4 P4 hfl (ap1 M 117) (W + 130) hR4 (by omega) ((x / 2 ^ k) / 7 % 8) (n0 + 1) ((by omega)) (ap1_len hn0) (by omega)) tw_993 mm_L_number ⟨rfl, rfl⟩ (by rw [hKR]; exact ⟨Nat.le_of_ble_eq_true rfl, Nat.le_of_ble_eq_true rfl⟩) (by rw [hKR]; constructor <;> (dsimp only; omega)) rfl rfl rfl (Nat.le_of_ble_eq_true rfl) dL_told_175 rfl (fun r7 D7 P7 q7 => ?_)
  obtain ⟨rfl, hR7⟩ := q7
  refine pv_if_eq (q := 181) (tgt := 185) C dL_told_178 (by decide) rfl (fun c178_8 => absurd c178_8 (by decide)) (fun _ => ?_)
  refine pv_iconst (q := 182) (v := 1) C dL_told_181 rfl (by decide) ?_
  refine pv_goto (tgt := 186) C dL_told_182 (by decide) ?_
  refine pv_istore_n (q := 187) C dL_told_186 rfl rfl (Nat.le_of_ble_eq_true rfl) rfl ?_
  refine pv_iload_n (q := 188) C dL_told_187 rfl rfl rfl ?_
  refine pv_if_eq (q := 191) (tgt := 261) C dL_told_188 (by decide) rfl (fun c188_9 => absurd c188_9 (by decide)) (fun _ => ?_)
  refine pv_iload (q := 193) C dL_told_191 rfl rfl ?_
  refine pv_iconst (q := 194) (v := 2) C dL_told_193 rfl (by decide) ?_
  refine pv_icmp_ne (q := 197) (tgt := 208) C dL_told_194 (by decide) rfl (fun c194_10 => False.elim (c194_10 (by rw [hE7]; decide))) (fun _ => ?_)
  refine pv_aload_n (q := 198) C dL_told_197 rfl rfl rfl ?_
  refine pv_bipush (q := 200) (v := 61) C dL_told_198 rfl (by decide) ?_
  refine pv_callLl (q := 203) (rest := []) C Z hNC hKl (c_L_append l X D7 P7 hfl (numE ((x / 2 ^ k) / 7 % 8) (ap1 M 117)) (W + 130 + 390) hR7 (by omega) n1 (by omega) hn1 61) tw_768 mw_L_append ⟨rfl, rfl⟩ (by rw [hKR]; exact ⟨Nat.le_of_ble_eq_true rfl, Nat.le_of_ble_eq_true rfl⟩) (by rw [hKR]; constructor <;> (dsimp only; omega)) rfl rfl rfl (Nat.le_of_ble_eq_true rfl) dL_told_200 rfl (fun r11 D11 P11 q11 => ?_)
  obtain ⟨e11, hR11⟩ := QE.ok q11 (kApp_0 (by decide) (by omega))
  obtain rfl : r11 = ((nI n1 + 1).toInt64) := e11.trans (rfl)
  rw [ap1_n hn1 (by omega)] at hR11
  refine pv_lconst (q := 204) (v := 0) C dL_told_203 rfl (by decide) ?_
  refine pv_lcmp (q := 205) C dL_told_204 rfl ?_
  refine pv_if_le (q := 208) (tgt := 261) C dL_told_205 (by decide) rfl (fun c205_12 => False.elim (Int64.not_le.mpr (ap_pos (by omega)) ((lg_cmp_le _ _).mp c205_12))) (fun _ => ?_)
  refine pv_iload (q := 210) C dL_told_208 rfl rfl ?_
  refine pv_iconst (q := 211) (v := 1) C dL_told_210 rfl (by decide) ?_
  refine pv_icmp_le (q := 214) (tgt := 220) C dL_told_211 (by decide) rfl (fun c211_13 => False.elim (absurd c211_13 (by rw [hE7]; decide))) (fun _ => ?_)
  refine pv_iload (q := 216) C dL_told_214 rfl rfl ?_
  refine pv_iconst (q := 217) (v := 3) C dL_told_216 rfl (by decide) ?_
  refine pv_icmp_ne (q := 220) (tgt := 236) C dL_told_217 (by decide) rfl (fun _ => ?_) (fun c217_14 => False.elim (absurd c217_14 (by rw [hE7]; decide)))
  refine pv_iload (q := 238) C dL_told_236 rfl rfl ?_
  refine pv_iconst (q := 239) (v := 2) C dL_told_238 rfl (by decide) ?_
  refine pv_icmp_gt (q := 242) (tgt := 257) C dL_told_239 (by decide) rfl (fun c239_15 => False.elim (absurd c239_15 (by rw [hE7]; decide))) (fun _ => ?_)
  refine pv_aload_n (q := 243) C dL_told_242 rfl rfl rfl ?_
  refine pv_iload (q := 245) C dL_told_243 rfl rfl ?_
  refine pv_bipush (q := 247) (v := 41) C dL_told_245 rfl (by decide) ?_
  refine pv_iremN (q := 248) (a := (x / 2 ^ k)) (b := 41) C rfl rfl (by omega) (by decide) (by decide) dL_told_247 rfl ?_
  refine pv_bipush (q := 250) (v := 20) C dL_told_248 rfl (by decide) ?_
  refine pv_isub (q := 251) C dL_told_250 rfl ?_
  rw [show nI ((x / 2 ^ k) % 41) - 20 = -(nI (20 - (x / 2 ^ k) % 41)) from neg_sub (b := 20) (by omega)]
  refine pv_callMi (q := 254) (rest := []) C Z hNC hKl (c_L_numN l X D11 P11 hfl (ap1 (numE ((x / 2 ^ k) / 7 % 8) (ap1 M 117)) 61) (W + 130 + 390 + 130) hR11 (by omega) (20 - (x / 2 ^ k) % 41) (n1 + 1) ((by omega)) (ap1_len hn1) (by omega)) tw_993 mm_L_number ⟨rfl, rfl⟩ (by rw [hKR]; exact ⟨Nat.le_of_ble_eq_true rfl, Nat.le_of_ble_eq_true rfl⟩) (by rw [hKR]; constructor <;> (dsimp only; omega)) rfl rfl rfl (Nat.le_of_ble_eq_true rfl) dL_told_251 rfl (fun r16 D16 P16 q16 => ?_)
  obtain ⟨rfl, hR16⟩ := q16
  refine pv_if_eq (q := 257) (tgt := 261) C dL_told_254 (by decide) rfl (fun c254_17 => absurd c254_17 (by decide)) (fun _ => ?_)
  refine pv_iconst (q := 258) (v := 1) C dL_told_257 rfl (by decide) ?_
  refine pv_goto (tgt := 262) C dL_told_258 (by decide) ?_
  refine pv_istore_n (q := 263) C dL_told_262 rfl rfl (Nat.le_of_ble_eq_true rfl) rfl ?_
  exact PV_widen (by omega) (by omega) (PV_le (kk D16 P16 (RI_W hR16 (by omega))) ⟨Or.inr rfl, Or.inr rfl, Or.inr rfl, Or.inr rfl, Or.inl rfl, Or.inl rfl, Or.inl rfl, Or.inl rfl, trivial⟩)
set_option maxRecDepth 100000 in
set_option maxHeartbeats 4000000 in
theorem tp_2_0_1 {M : DT} {x k n0 : Nat} (hx : x < 2 ^ 31) (hk : k < 6) (hn0 : M 6 9 = nI n0) (hn8 : n0 ≤ 9 * k) (hk0 : ¬ k = 0) (hE7 : (x / 2 ^ k) % 7 = 2) (h41 : 20 ≤ (x / 2 ^ k) % 41) : ∃ (E : DT) (n : Nat), E 6 9 = nI n ∧ n ≤ 9 * (k + 1) ∧ (∀ V, JM M V → JM E V) ∧ ∀ {l : Launch} {K : KT} {X : XT} {w0 : Cond} {Q : State → Prop} {W cb : Nat} (_ : LK l K X cL_told RL w0 8 (some .long) ({ frames := 9, cells := 150, slots := 900, locals := 324 } : Room)) (_ : W + 20000 < 2 ^ 29) (_ : cb + 22 ≤ 150) (_ : ∀ (D : DT) (P : PT), RI D P E (W + 1400) → PV K X Q (cb + 22) (6 * (cb + 22)) 263 [some (.ref (X.2.2 0)), some (.int (nI x)), some (.int 1), some (.int (nI k)), none, none, none, none] [] D P) (D : DT) (P : PT) (_ : RI D P M W), PV K X Q (cb) (6 * cb) 28 [some (.ref (X.2.2 0)), some (.int (nI x)), some (.int 1), some (.int (nI k)), none, none, none, none] [] D P := by
  have hY : x / 2 ^ k < 2 ^ 31 := Nat.lt_of_le_of_lt (Nat.div_le_self _ _) hx
  obtain ⟨n1, a1, b1, hn1⟩ := numE_len (m := ((x / 2 ^ k) / 7 % 8)) (M := (ap1 (ap1 M 59) 117)) (ap1_len (ap1_len hn0))
  obtain ⟨n2, a2, b2, hn2⟩ := numE_len (m := ((x / 2 ^ k) % 41 - 20)) (M := (ap1 (numE ((x / 2 ^ k) / 7 % 8) (ap1 (ap1 M 59) 117)) 61)) (ap1_len hn1)
  refine ⟨(numE ((x / 2 ^ k) % 41 - 20) (ap1 (numE ((x / 2 ^ k) / 7 % 8) (ap1 (ap1 M 59) 117)) 61)), n2, hn2, by omega, fun V hj => (JM_num (JM_ap1 (JM_num (JM_ap1 (JM_ap1 hj))))), ?_⟩
  intro l K X w0 Q W cb L hW hc kk D P h
  obtain ⟨hKl, hKR, C, Z, hNC, hfl⟩ := id L
  refine pv_iload_n (q := 29) C dL_told_28 rfl rfl rfl ?_
  refine pv_iload_n (q := 30) C dL_told_29 rfl rfl rfl ?_
  refine pv_ishr (q := 31) C dL_told_30 rfl ?_
  rw [shr_N hx (by omega)]
  refine pv_istore (q := 33) C dL_told_31 rfl (Nat.le_of_ble_eq_true rfl) rfl ?_
  refine pv_iload (q := 35) C dL_told_33 rfl rfl ?_
  refine pv_bipush (q := 37) (v := 7) C dL_told_35 rfl (by decide) ?_
  refine pv_iremN (q := 38) (a := (x / 2 ^ k)) (b := 7) C rfl rfl (by omega) (by decide) (by decide) dL_told_37 rfl ?_
  refine pv_istore (q := 40) C dL_told_38 rfl (Nat.le_of_ble_eq_true rfl) rfl ?_
  refine pv_iload (q := 42) C dL_told_40 rfl rfl ?_
  refine pv_bipush (q := 44) (v := 7) C dL_told_42 rfl (by decide) ?_
  refine pv_idivN (q := 45) (a := (x / 2 ^ k)) (b := 7) C rfl rfl (by omega) (by decide) (by decide) dL_told_44 rfl ?_
  refine pv_bipush (q := 47) (v := 8) C dL_told_45 rfl (by decide) ?_
  refine pv_iremN (q := 48) (a := ((x / 2 ^ k) / 7)) (b := 8) C rfl rfl (by omega) (by decide) (by decide) dL_told_47 rfl ?_
  refine pv_istore (q := 50) C dL_told_48 rfl (Nat.le_of_ble_eq_true rfl) rfl ?_
  refine pv_iload (q := 52) C dL_told_50 rfl rfl ?_
  refine pv_iconst (q := 53) (v := 2) C dL_told_52 rfl (by decide) ?_
  refine pv_icmp_ge (q := 56) (tgt := 61) C dL_told_53 (by decide) rfl (fun _ => ?_) (fun c53_1 => False.elim (c53_1 (by rw [hE7]; decide)))
  refine pv_iload (q := 63) C dL_told_61 rfl rfl ?_
  refine pv_iconst (q := 64) (v := 2) C dL_told_63 rfl (by decide) ?_
  refine pv_icmp_ne (q := 67) (tgt := 72) C dL_told_64 (by decide) rfl (fun c64_2 => False.elim (c64_2 (by rw [hE7]; decide))) (fun _ => ?_)
  refine pv_bipush (q := 69) (v := 117) C dL_told_67 rfl (by decide) ?_
  refine pv_goto (tgt := 114) C dL_told_69 (by decide) ?_
  refine pv_istore (q := 116) C dL_told_114 rfl (Nat.le_of_ble_eq_true rfl) rfl ?_
  refine pv_iload_n (q := 117) C dL_told_116 rfl rfl rfl ?_
  refine pv_if_eq (q := 120) (tgt := 131) C dL_told_117 (by decide) rfl (fun c117_3 => False.elim (absurd c117_3 (nI_ne0 (by omega) (by omega)))) (fun _ => ?_)
  refine pv_aload_n (q := 121) C dL_told_120 rfl rfl rfl ?_
  refine pv_bipush (q := 123) (v := 59) C dL_told_121 rfl (by decide) ?_
  refine pv_callLl (q := 126) (rest := []) C Z hNC hKl (c_L_append l X D P hfl M (W) h (by omega) n0 (by omega) hn0 59) tw_768 mw_L_append ⟨rfl, rfl⟩ (by rw [hKR]; exact ⟨Nat.le_of_ble_eq_true rfl, Nat.le_of_ble_eq_true rfl⟩) (by rw [hKR]; constructor <;> (dsimp only; omega)) rfl rfl rfl (Nat.le_of_ble_eq_true rfl) dL_told_123 rfl (fun r4 D4 P4 q4 => ?_)
  obtain ⟨e4, hR4⟩ := QE.ok q4 (kApp_0 (by decide) (by omega))
  obtain rfl : r4 = ((nI n0 + 1).toInt64) := e4.trans (rfl)
  rw [ap1_n hn0 (by omega)] at hR4
  refine pv_lconst (q := 127) (v := 0) C dL_told_126 rfl (by decide) ?_
  refine pv_lcmp (q := 128) C dL_told_127 rfl ?_
  refine pv_if_le (q := 131) (tgt := 185) C dL_told_128 (by decide) rfl (fun c128_5 => False.elim (Int64.not_le.mpr (ap_pos (by omega)) ((lg_cmp_le _ _).mp c128_5))) (fun _ => ?_)
  refine pv_aload_n (q := 132) C dL_told_131 rfl rfl rfl ?_
  refine pv_iload (q := 134) C dL_told_132 rfl rfl ?_
  refine pv_callLl (q := 137) (rest := []) C Z hNC hKl (c_L_append l X D4 P4 hfl (ap1 M 59) (W + 130) hR4 (by omega) (n0 + 1) (by omega) (ap1_len hn0) 117) tw_768 mw_L_append ⟨rfl, rfl⟩ (by rw [hKR]; exact ⟨Nat.le_of_ble_eq_true rfl, Nat.le_of_ble_eq_true rfl⟩) (by rw [hKR]; constructor <;> (dsimp only; omega)) rfl rfl rfl (Nat.le_of_ble_eq_true rfl) dL_told_134 rfl (fun r6 D6 P6 q6 => ?_)
  obtain ⟨e6, hR6⟩ := QE.ok q6 (kApp_0 (by decide) (by omega))
  obtain rfl : r6 = ((nI (n0 + 1) + 1).toInt64) := e6.trans (rfl)
  rw [ap1_n (ap1_len hn0) (by omega)] at hR6
  refine pv_lconst (q := 138) (v := 0) C dL_told_137 rfl (by decide) ?_
  refine pv_lcmp (q := 139) C dL_told_138 rfl ?_
  refine pv_if_le (q := 142) (tgt := 185) C dL_told_139 (by decide) rfl (fun c139_7 => False.elim (Int64.not_le.mpr (ap_pos (by omega)) ((lg_cmp_le _ _).mp c139_7))) (fun _ => ?_)
  refine pv_aload_n (q := 143) C dL_told_142 rfl rfl rfl ?_
  refine pv_iload (q := 145) C dL_told_143 rfl rfl ?_
  refine pv_iconst (q := 146) (v := 5) C dL_told_145 rfl (by decide) ?_
  refine pv_icmp_ge (q := 149) (tgt := 154) C dL_told_146 (by decide) rfl (fun c146_8 => False.elim (absurd c146_8 (by rw [hE7]; decide))) (fun _ => ?_)
  refine pv_iload (q := 151) C dL_told_149 rfl rfl ?_
  refine pv_goto (tgt := 175) C dL_told_151 (by decide) ?_
  refine pv_callMi (q := 178) (rest := []) C Z hNC hKl (c_L_numP l X D6 P6 hfl (ap1 (ap1 M 59) 117) (W + 130 + 130) hR6 (by omega) ((x / 2 ^ k) / 7 % 8) ((n0 + 1) + 1) ((by omega)) (ap1_len (ap1_len hn0)) (by omega)) tw_993 mm_L_number ⟨rfl, rfl⟩ (by rw [hKR]; exact ⟨Nat.le_of_ble_eq_true rfl, Nat.le_of_ble_eq_true rfl⟩) (by rw [hKR]; constructor <;> (dsimp only; omega)) rfl rfl rfl (Nat.le_of_ble_eq_true rfl) dL_told_175 rfl (fun r9 D9 P9 q9 => ?_)
  obtain ⟨rfl, hR9⟩ := q9
  refine pv_if_eq (q := 181) (tgt := 185) C dL_told_178 (by decide) rfl (fun c178_10 => absurd c178_10 (by decide)) (fun _ => ?_)
  refine pv_iconst (q := 182) (v := 1) C dL_told_181 rfl (by decide) ?_
  refine pv_goto (tgt := 186) C dL_told_182 (by decide) ?_
  refine pv_istore_n (q := 187) C dL_told_186 rfl rfl (Nat.le_of_ble_eq_true rfl) rfl ?_
  refine pv_iload_n (q := 188) C dL_told_187 rfl rfl rfl ?_
  refine pv_if_eq (q := 191) (tgt := 261) C dL_told_188 (by decide) rfl (fun c188_11 => absurd c188_11 (by decide)) (fun _ => ?_)
  refine pv_iload (q := 193) C dL_told_191 rfl rfl ?_
  refine pv_iconst (q := 194) (v := 2) C dL_told_193 rfl (by decide) ?_
  refine pv_icmp_ne (q := 197) (tgt := 208) C dL_told_194 (by decide) rfl (fun c194_12 => False.elim (c194_12 (by rw [hE7]; decide))) (fun _ => ?_)
  refine pv_aload_n (q := 198) C dL_told_197 rfl rfl rfl ?_
  refine pv_bipush (q := 200) (v := 61) C dL_told_198 rfl (by decide) ?_
  refine pv_callLl (q := 203) (rest := []) C Z hNC hKl (c_L_append l X D9 P9 hfl (numE ((x / 2 ^ k) / 7 % 8) (ap1 (ap1 M 59) 117)) (W + 130 + 130 + 390) hR9 (by omega) n1 (by omega) hn1 61) tw_768 mw_L_append ⟨rfl, rfl⟩ (by rw [hKR]; exact ⟨Nat.le_of_ble_eq_true rfl, Nat.le_of_ble_eq_true rfl⟩) (by rw [hKR]; constructor <;> (dsimp only; omega)) rfl rfl rfl (Nat.le_of_ble_eq_true rfl) dL_told_200 rfl (fun r13 D13 P13 q13 => ?_)
  obtain ⟨e13, hR13⟩ := QE.ok q13 (kApp_0 (by decide) (by omega))
  obtain rfl : r13 = ((nI n1 + 1).toInt64) := e13.trans (rfl)
  rw [ap1_n hn1 (by omega)] at hR13
  refine pv_lconst (q := 204) (v := 0) C dL_told_203 rfl (by decide) ?_
  refine pv_lcmp (q := 205) C dL_told_204 rfl ?_
  refine pv_if_le (q := 208) (tgt := 261) C dL_told_205 (by decide) rfl (fun c205_14 => False.elim (Int64.not_le.mpr (ap_pos (by omega)) ((lg_cmp_le _ _).mp c205_14))) (fun _ => ?_)
  refine pv_iload (q := 210) C dL_told_208 rfl rfl ?_
  refine pv_iconst (q := 211) (v := 1) C dL_told_210 rfl (by decide) ?_
  refine pv_icmp_le (q := 214) (tgt := 220) C dL_told_211 (by decide) rfl (fun c211_15 => False.elim (absurd c211_15 (by rw [hE7]; decide))) (fun _ => ?_)
  refine pv_iload (q := 216) C dL_told_214 rfl rfl ?_
  refine pv_iconst (q := 217) (v := 3) C dL_told_216 rfl (by decide) ?_
  refine pv_icmp_ne (q := 220) (tgt := 236) C dL_told_217 (by decide) rfl (fun _ => ?_) (fun c217_16 => False.elim (absurd c217_16 (by rw [hE7]; decide)))
  refine pv_iload (q := 238) C dL_told_236 rfl rfl ?_
  refine pv_iconst (q := 239) (v := 2) C dL_told_238 rfl (by decide) ?_
  refine pv_icmp_gt (q := 242) (tgt := 257) C dL_told_239 (by decide) rfl (fun c239_17 => False.elim (absurd c239_17 (by rw [hE7]; decide))) (fun _ => ?_)
  refine pv_aload_n (q := 243) C dL_told_242 rfl rfl rfl ?_
  refine pv_iload (q := 245) C dL_told_243 rfl rfl ?_
  refine pv_bipush (q := 247) (v := 41) C dL_told_245 rfl (by decide) ?_
  refine pv_iremN (q := 248) (a := (x / 2 ^ k)) (b := 41) C rfl rfl (by omega) (by decide) (by decide) dL_told_247 rfl ?_
  refine pv_bipush (q := 250) (v := 20) C dL_told_248 rfl (by decide) ?_
  refine pv_isub (q := 251) C dL_told_250 rfl ?_
  rw [show nI ((x / 2 ^ k) % 41) - 20 = nI ((x / 2 ^ k) % 41 - 20) from pk_sub (b := 20) (by omega)]
  refine pv_callMi (q := 254) (rest := []) C Z hNC hKl (c_L_numP l X D13 P13 hfl (ap1 (numE ((x / 2 ^ k) / 7 % 8) (ap1 (ap1 M 59) 117)) 61) (W + 130 + 130 + 390 + 130) hR13 (by omega) ((x / 2 ^ k) % 41 - 20) (n1 + 1) ((by omega)) (ap1_len hn1) (by omega)) tw_993 mm_L_number ⟨rfl, rfl⟩ (by rw [hKR]; exact ⟨Nat.le_of_ble_eq_true rfl, Nat.le_of_ble_eq_true rfl⟩) (by rw [hKR]; constructor <;> (dsimp only; omega)) rfl rfl rfl (Nat.le_of_ble_eq_true rfl) dL_told_251 rfl (fun r18 D18 P18 q18 => ?_)
  obtain ⟨rfl, hR18⟩ := q18
  refine pv_if_eq (q := 257) (tgt := 261) C dL_told_254 (by decide) rfl (fun c254_19 => absurd c254_19 (by decide)) (fun _ => ?_)
  refine pv_iconst (q := 258) (v := 1) C dL_told_257 rfl (by decide) ?_
  refine pv_goto (tgt := 262) C dL_told_258 (by decide) ?_
  refine pv_istore_n (q := 263) C dL_told_262 rfl rfl (Nat.le_of_ble_eq_true rfl) rfl ?_
  exact PV_widen (by omega) (by omega) (PV_le (kk D18 P18 (RI_W hR18 (by omega))) ⟨Or.inr rfl, Or.inr rfl, Or.inr rfl, Or.inr rfl, Or.inl rfl, Or.inl rfl, Or.inl rfl, Or.inl rfl, trivial⟩)
set_option maxRecDepth 100000 in
set_option maxHeartbeats 4000000 in
theorem tp_2_0_0 {M : DT} {x k n0 : Nat} (hx : x < 2 ^ 31) (hk : k < 6) (hn0 : M 6 9 = nI n0) (hn8 : n0 ≤ 9 * k) (hk0 : ¬ k = 0) (hE7 : (x / 2 ^ k) % 7 = 2) (h41 : ¬ 20 ≤ (x / 2 ^ k) % 41) : ∃ (E : DT) (n : Nat), E 6 9 = nI n ∧ n ≤ 9 * (k + 1) ∧ (∀ V, JM M V → JM E V) ∧ ∀ {l : Launch} {K : KT} {X : XT} {w0 : Cond} {Q : State → Prop} {W cb : Nat} (_ : LK l K X cL_told RL w0 8 (some .long) ({ frames := 9, cells := 150, slots := 900, locals := 324 } : Room)) (_ : W + 20000 < 2 ^ 29) (_ : cb + 22 ≤ 150) (_ : ∀ (D : DT) (P : PT), RI D P E (W + 1400) → PV K X Q (cb + 22) (6 * (cb + 22)) 263 [some (.ref (X.2.2 0)), some (.int (nI x)), some (.int 1), some (.int (nI k)), none, none, none, none] [] D P) (D : DT) (P : PT) (_ : RI D P M W), PV K X Q (cb) (6 * cb) 28 [some (.ref (X.2.2 0)), some (.int (nI x)), some (.int 1), some (.int (nI k)), none, none, none, none] [] D P := by
  have hY : x / 2 ^ k < 2 ^ 31 := Nat.lt_of_le_of_lt (Nat.div_le_self _ _) hx
  obtain ⟨n1, a1, b1, hn1⟩ := numE_len (m := ((x / 2 ^ k) / 7 % 8)) (M := (ap1 (ap1 M 59) 117)) (ap1_len (ap1_len hn0))
  obtain ⟨n2, a2, b2, hn2⟩ := numE_len (m := (20 - (x / 2 ^ k) % 41)) (M := ap1 (ap1 (numE ((x / 2 ^ k) / 7 % 8) (ap1 (ap1 M 59) 117)) 61) 45) (ap1_len (ap1_len hn1))
  refine ⟨(numE (20 - (x / 2 ^ k) % 41) (ap1 (ap1 (numE ((x / 2 ^ k) / 7 % 8) (ap1 (ap1 M 59) 117)) 61) 45)), n2, hn2, by omega, fun V hj => (JM_num (JM_ap1 (JM_ap1 (JM_num (JM_ap1 (JM_ap1 hj)))))), ?_⟩
  intro l K X w0 Q W cb L hW hc kk D P h
  obtain ⟨hKl, hKR, C, Z, hNC, hfl⟩ := id L
  refine pv_iload_n (q := 29) C dL_told_28 rfl rfl rfl ?_
  refine pv_iload_n (q := 30) C dL_told_29 rfl rfl rfl ?_
  refine pv_ishr (q := 31) C dL_told_30 rfl ?_
  rw [shr_N hx (by omega)]
  refine pv_istore (q := 33) C dL_told_31 rfl (Nat.le_of_ble_eq_true rfl) rfl ?_
  refine pv_iload (q := 35) C dL_told_33 rfl rfl ?_
  refine pv_bipush (q := 37) (v := 7) C dL_told_35 rfl (by decide) ?_
  refine pv_iremN (q := 38) (a := (x / 2 ^ k)) (b := 7) C rfl rfl (by omega) (by decide) (by decide) dL_told_37 rfl ?_
  refine pv_istore (q := 40) C dL_told_38 rfl (Nat.le_of_ble_eq_true rfl) rfl ?_
  refine pv_iload (q := 42) C dL_told_40 rfl rfl ?_
  refine pv_bipush (q := 44) (v := 7) C dL_told_42 rfl (by decide) ?_
  refine pv_idivN (q := 45) (a := (x / 2 ^ k)) (b := 7) C rfl rfl (by omega) (by decide) (by decide) dL_told_44 rfl ?_
  refine pv_bipush (q := 47) (v := 8) C dL_told_45 rfl (by decide) ?_
  refine pv_iremN (q := 48) (a := ((x / 2 ^ k) / 7)) (b := 8) C rfl rfl (by omega) (by decide) (by decide) dL_told_47 rfl ?_
  refine pv_istore (q := 50) C dL_told_48 rfl (Nat.le_of_ble_eq_true rfl) rfl ?_
  refine pv_iload (q := 52) C dL_told_50 rfl rfl ?_
  refine pv_iconst (q := 53) (v := 2) C dL_told_52 rfl (by decide) ?_
  refine pv_icmp_ge (q := 56) (tgt := 61) C dL_told_53 (by decide) rfl (fun _ => ?_) (fun c53_1 => False.elim (c53_1 (by rw [hE7]; decide)))
  refine pv_iload (q := 63) C dL_told_61 rfl rfl ?_
  refine pv_iconst (q := 64) (v := 2) C dL_told_63 rfl (by decide) ?_
  refine pv_icmp_ne (q := 67) (tgt := 72) C dL_told_64 (by decide) rfl (fun c64_2 => False.elim (c64_2 (by rw [hE7]; decide))) (fun _ => ?_)
  refine pv_bipush (q := 69) (v := 117) C dL_told_67 rfl (by decide) ?_
  refine pv_goto (tgt := 114) C dL_told_69 (by decide) ?_
  refine pv_istore (q := 116) C dL_told_114 rfl (Nat.le_of_ble_eq_true rfl) rfl ?_
  refine pv_iload_n (q := 117) C dL_told_116 rfl rfl rfl ?_
  refine pv_if_eq (q := 120) (tgt := 131) C dL_told_117 (by decide) rfl (fun c117_3 => False.elim (absurd c117_3 (nI_ne0 (by omega) (by omega)))) (fun _ => ?_)
  refine pv_aload_n (q := 121) C dL_told_120 rfl rfl rfl ?_
  refine pv_bipush (q := 123) (v := 59) C dL_told_121 rfl (by decide) ?_
  refine pv_callLl (q := 126) (rest := []) C Z hNC hKl (c_L_append l X D P hfl M (W) h (by omega) n0 (by omega) hn0 59) tw_768 mw_L_append ⟨rfl, rfl⟩ (by rw [hKR]; exact ⟨Nat.le_of_ble_eq_true rfl, Nat.le_of_ble_eq_true rfl⟩) (by rw [hKR]; constructor <;> (dsimp only; omega)) rfl rfl rfl (Nat.le_of_ble_eq_true rfl) dL_told_123 rfl (fun r4 D4 P4 q4 => ?_)
  obtain ⟨e4, hR4⟩ := QE.ok q4 (kApp_0 (by decide) (by omega))
  obtain rfl : r4 = ((nI n0 + 1).toInt64) := e4.trans (rfl)
  rw [ap1_n hn0 (by omega)] at hR4
  refine pv_lconst (q := 127) (v := 0) C dL_told_126 rfl (by decide) ?_
  refine pv_lcmp (q := 128) C dL_told_127 rfl ?_
  refine pv_if_le (q := 131) (tgt := 185) C dL_told_128 (by decide) rfl (fun c128_5 => False.elim (Int64.not_le.mpr (ap_pos (by omega)) ((lg_cmp_le _ _).mp c128_5))) (fun _ => ?_)
  refine pv_aload_n (q := 132) C dL_told_131 rfl rfl rfl ?_
  refine pv_iload (q := 134) C dL_told_132 rfl rfl ?_
  refine pv_callLl (q := 137) (rest := []) C Z hNC hKl (c_L_append l X D4 P4 hfl (ap1 M 59) (W + 130) hR4 (by omega) (n0 + 1) (by omega) (ap1_len hn0) 117) tw_768 mw_L_append ⟨rfl, rfl⟩ (by rw [hKR]; exact ⟨Nat.le_of_ble_eq_true rfl, Nat.le_of_ble_eq_true rfl⟩) (by rw [hKR]; constructor <;> (dsimp only; omega)) rfl rfl rfl (Nat.le_of_ble_eq_true rfl) dL_told_134 rfl (fun r6 D6 P6 q6 => ?_)
  obtain ⟨e6, hR6⟩ := QE.ok q6 (kApp_0 (by decide) (by omega))
  obtain rfl : r6 = ((nI (n0 + 1) + 1).toInt64) := e6.trans (rfl)
  rw [ap1_n (ap1_len hn0) (by omega)] at hR6
  refine pv_lconst (q := 138) (v := 0) C dL_told_137 rfl (by decide) ?_
  refine pv_lcmp (q := 139) C dL_told_138 rfl ?_
  refine pv_if_le (q := 142) (tgt := 185) C dL_told_139 (by decide) rfl (fun c139_7 => False.elim (Int64.not_le.mpr (ap_pos (by omega)) ((lg_cmp_le _ _).mp c139_7))) (fun _ => ?_)
  refine pv_aload_n (q := 143) C dL_told_142 rfl rfl rfl ?_
  refine pv_iload (q := 145) C dL_told_143 rfl rfl ?_
  refine pv_iconst (q := 146) (v := 5) C dL_told_145 rfl (by decide) ?_
  refine pv_icmp_ge (q := 149) (tgt := 154) C dL_told_146 (by decide) rfl (fun c146_8 => False.elim (absurd c146_8 (by rw [hE7]; decide))) (fun _ => ?_)
  refine pv_iload (q := 151) C dL_told_149 rfl rfl ?_
  refine pv_goto (tgt := 175) C dL_told_151 (by decide) ?_
  refine pv_callMi (q := 178) (rest := []) C Z hNC hKl (c_L_numP l X D6 P6 hfl (ap1 (ap1 M 59) 117) (W + 130 + 130) hR6 (by omega) ((x / 2 ^ k) / 7 % 8) ((n0 + 1) + 1) ((by omega)) (ap1_len (ap1_len hn0)) (by omega)) tw_993 mm_L_number ⟨rfl, rfl⟩ (by rw [hKR]; exact ⟨Nat.le_of_ble_eq_true rfl, Nat.le_of_ble_eq_true rfl⟩) (by rw [hKR]; constructor <;> (dsimp only; omega)) rfl rfl rfl (Nat.le_of_ble_eq_true rfl) dL_told_175 rfl (fun r9 D9 P9 q9 => ?_)
  obtain ⟨rfl, hR9⟩ := q9
  refine pv_if_eq (q := 181) (tgt := 185) C dL_told_178 (by decide) rfl (fun c178_10 => absurd c178_10 (by decide)) (fun _ => ?_)
  refine pv_iconst (q := 182) (v := 1) C dL_told_181 rfl (by decide) ?_
  refine pv_goto (tgt := 186) C dL_told_182 (by decide) ?_
  refine pv_istore_n (q := 187) C dL_told_186 rfl rfl (Nat.le_of_ble_eq_true rfl) rfl ?_
  refine pv_iload_n (q := 188) C dL_told_187 rfl rfl rfl ?_
  refine pv_if_eq (q := 191) (tgt := 261) C dL_told_188 (by decide) rfl (fun c188_11 => absurd c188_11 (by decide)) (fun _ => ?_)
  refine pv_iload (q := 193) C dL_told_191 rfl rfl ?_
  refine pv_iconst (q := 194) (v := 2) C dL_told_193 rfl (by decide) ?_
  refine pv_icmp_ne (q := 197) (tgt := 208) C dL_told_194 (by decide) rfl (fun c194_12 => False.elim (c194_12 (by rw [hE7]; decide))) (fun _ => ?_)
  refine pv_aload_n (q := 198) C dL_told_197 rfl rfl rfl ?_
  refine pv_bipush (q := 200) (v := 61) C dL_told_198 rfl (by decide) ?_
  refine pv_callLl (q := 203) (rest := []) C Z hNC hKl (c_L_append l X D9 P9 hfl (numE ((x / 2 ^ k) / 7 % 8) (ap1 (ap1 M 59) 117)) (W + 130 + 130 + 390) hR9 (by omega) n1 (by omega) hn1 61) tw_768 mw_L_append ⟨rfl, rfl⟩ (by rw [hKR]; exact ⟨Nat.le_of_ble_eq_true rfl, Nat.le_of_ble_eq_true rfl⟩) (by rw [hKR]; constructor <;> (dsimp only; omega)) rfl rfl rfl (Nat.le_of_ble_eq_true rfl) dL_told_200 rfl (fun r13 D13 P13 q13 => ?_)
  obtain ⟨e13, hR13⟩ := QE.ok q13 (kApp_0 (by decide) (by omega))
  obtain rfl : r13 = ((nI n1 + 1).toInt64) := e13.trans (rfl)
  rw [ap1_n hn1 (by omega)] at hR13
  refine pv_lconst (q := 204) (v := 0) C dL_told_203 rfl (by decide) ?_
  refine pv_lcmp (q := 205) C dL_told_204 rfl ?_
  refine pv_if_le (q := 208) (tgt := 261) C dL_told_205 (by decide) rfl (fun c205_14 => False.elim (Int64.not_le.mpr (ap_pos (by omega)) ((lg_cmp_le _ _).mp c205_14))) (fun _ => ?_)
  refine pv_iload (q := 210) C dL_told_208 rfl rfl ?_
  refine pv_iconst (q := 211) (v := 1) C dL_told_210 rfl (by decide) ?_
  refine pv_icmp_le (q := 214) (tgt := 220) C dL_told_211 (by decide) rfl (fun c211_15 => False.elim (absurd c211_15 (by rw [hE7]; decide))) (fun _ => ?_)
  refine pv_iload (q := 216) C dL_told_214 rfl rfl ?_
  refine pv_iconst (q := 217) (v := 3) C dL_told_216 rfl (by decide) ?_
  refine pv_icmp_ne (q := 220) (tgt := 236) C dL_told_217 (by decide) rfl (fun _ => ?_) (fun c217_16 => False.elim (absurd c217_16 (by rw [hE7]; decide)))
  refine pv_iload (q := 238) C dL_told_236 rfl rfl ?_
  refine pv_iconst (q := 239) (v := 2) C dL_told_238 rfl (by decide) ?_
  refine pv_icmp_gt (q := 242) (tgt := 257) C dL_told_239 (by decide) rfl (fun c239_17 => False.elim (absurd c239_17 (by rw [hE7]; decide))) (fun _ => ?_)
  refine pv_aload_n (q := 243) C dL_told_242 rfl rfl rfl ?_
  refine pv_iload (q := 245) C dL_told_243 rfl rfl ?_
  refine pv_bipush (q := 247) (v := 41) C dL_told_245 rfl (by decide) ?_
  refine pv_iremN (q := 248) (a := (x / 2 ^ k)) (b := 41) C rfl rfl (by omega) (by decide) (by decide) dL_told_247 rfl ?_
  refine pv_bipush (q := 250) (v := 20) C dL_told_248 rfl (by decide) ?_
  refine pv_isub (q := 251) C dL_told_250 rfl ?_
  rw [show nI ((x / 2 ^ k) % 41) - 20 = -(nI (20 - (x / 2 ^ k) % 41)) from neg_sub (b := 20) (by omega)]
  refine pv_callMi (q := 254) (rest := []) C Z hNC hKl (c_L_numN l X D13 P13 hfl (ap1 (numE ((x / 2 ^ k) / 7 % 8) (ap1 (ap1 M 59) 117)) 61) (W + 130 + 130 + 390 + 130) hR13 (by omega) (20 - (x / 2 ^ k) % 41) (n1 + 1) ((by omega)) (ap1_len hn1) (by omega)) tw_993 mm_L_number ⟨rfl, rfl⟩ (by rw [hKR]; exact ⟨Nat.le_of_ble_eq_true rfl, Nat.le_of_ble_eq_true rfl⟩) (by rw [hKR]; constructor <;> (dsimp only; omega)) rfl rfl rfl (Nat.le_of_ble_eq_true rfl) dL_told_251 rfl (fun r18 D18 P18 q18 => ?_)
  obtain ⟨rfl, hR18⟩ := q18
  refine pv_if_eq (q := 257) (tgt := 261) C dL_told_254 (by decide) rfl (fun c254_19 => absurd c254_19 (by decide)) (fun _ => ?_)
  refine pv_iconst (q := 258) (v := 1) C dL_told_257 rfl (by decide) ?_
  refine pv_goto (tgt := 262) C dL_told_258 (by decide) ?_
  refine pv_istore_n (q := 263) C dL_told_262 rfl rfl (Nat.le_of_ble_eq_true rfl) rfl ?_
  exact PV_widen (by omega) (by omega) (PV_le (kk D18 P18 (RI_W hR18 (by omega))) ⟨Or.inr rfl, Or.inr rfl, Or.inr rfl, Or.inr rfl, Or.inl rfl, Or.inl rfl, Or.inl rfl, Or.inl rfl, trivial⟩)
set_option maxRecDepth 100000 in
set_option maxHeartbeats 4000000 in
theorem tp_3_1_1 {M : DT} {x k n0 : Nat} (hx : x < 2 ^ 31) (hk : k < 6) (hn0 : M 6 9 = nI n0) (hn8 : n0 ≤ 9 * k) (hk0 : k = 0) (hE7 : (x / 2 ^ k) % 7 = 3) : ∃ (E : DT) (n : Nat), E 6 9 = nI n ∧ n ≤ 9 * (k + 1) ∧ (∀ V, JM M V → JM E V) ∧ ∀ {l : Launch} {K : KT} {X : XT} {w0 : Cond} {Q : State → Prop} {W cb : Nat} (_ : LK l K X cL_told RL w0 8 (some .long) ({ frames := 9, cells := 150, slots := 900, locals := 324 } : Room)) (_ : W + 20000 < 2 ^ 29) (_ : cb + 22 ≤ 150) (_ : ∀ (D : DT) (P : PT), RI D P E (W + 1400) → PV K X Q (cb + 22) (6 * (cb + 22)) 263 [some (.ref (X.2.2 0)), some (.int (nI x)), some (.int 1), some (.int (nI k)), none, none, none, none] [] D P) (D : DT) (P : PT) (_ : RI D P M W), PV K X Q (cb) (6 * cb) 28 [some (.ref (X.2.2 0)), some (.int (nI x)), some (.int 1), some (.int (nI k)), none, none, none, none] [] D P := by
  have hY : x / 2 ^ k < 2 ^ 31 := Nat.lt_of_le_of_lt (Nat.div_le_self _ _) hx
  obtain ⟨n1, a1, b1, hn1⟩ := numE_len (m := ((x / 2 ^ k) / 7 % 8)) (M := (ap1 M 103)) (ap1_len hn0)
  refine ⟨(ap1 (numE ((x / 2 ^ k) / 7 % 8) (ap1 M 103)) (nI (97 + ((x / 2 ^ k) % 4)))), (n1 + 1), (ap1_len hn1), by omega, fun V hj => (JM_ap1 (JM_num (JM_ap1 hj))), ?_⟩
  intro l K X w0 Q W cb L hW hc kk D P h
  obtain ⟨hKl, hKR, C, Z, hNC, hfl⟩ := id L
  refine pv_iload_n (q := 29) C dL_told_28 rfl rfl rfl ?_
  refine pv_iload_n (q := 30) C dL_told_29 rfl rfl rfl ?_
  refine pv_ishr (q := 31) C dL_told_30 rfl ?_
  rw [shr_N hx (by omega)]
  refine pv_istore (q := 33) C dL_told_31 rfl (Nat.le_of_ble_eq_true rfl) rfl ?_
  refine pv_iload (q := 35) C dL_told_33 rfl rfl ?_
  refine pv_bipush (q := 37) (v := 7) C dL_told_35 rfl (by decide) ?_
  refine pv_iremN (q := 38) (a := (x / 2 ^ k)) (b := 7) C rfl rfl (by omega) (by decide) (by decide) dL_told_37 rfl ?_
  refine pv_istore (q := 40) C dL_told_38 rfl (Nat.le_of_ble_eq_true rfl) rfl ?_
  refine pv_iload (q := 42) C dL_told_40 rfl rfl ?_
  refine pv_bipush (q := 44) (v := 7) C dL_told_42 rfl (by decide) ?_
  refine pv_idivN (q := 45) (a := (x / 2 ^ k)) (b := 7) C rfl rfl (by omega) (by decide) (by decide) dL_told_44 rfl ?_
  refine pv_bipush (q := 47) (v := 8) C dL_told_45 rfl (by decide) ?_
  refine pv_iremN (q := 48) (a := ((x / 2 ^ k) / 7)) (b := 8) C rfl rfl (by omega) (by decide) (by decide) dL_told_47 rfl ?_
  refine pv_istore (q := 50) C dL_told_48 rfl (Nat.le_of_ble_eq_true rfl) rfl ?_
  refine pv_iload (q := 52) C dL_told_50 rfl rfl ?_
  refine pv_iconst (q := 53) (v := 2) C dL_told_52 rfl (by decide) ?_
  refine pv_icmp_ge (q := 56) (tgt := 61) C dL_told_53 (by decide) rfl (fun _ => ?_) (fun c53_1 => False.elim (c53_1 (by rw [hE7]; decide)))
  refine pv_iload (q := 63) C dL_told_61 rfl rfl ?_
  refine pv_iconst (q := 64) (v := 2) C dL_told_63 rfl (by decide) ?_
  refine pv_icmp_ne (q := 67) (tgt := 72) C dL_told_64 (by decide) rfl (fun _ => ?_) (fun c64_2 => False.elim (absurd c64_2 (by rw [hE7]; decide)))
  refine pv_iload (q := 74) C dL_told_72 rfl rfl ?_
  refine pv_iconst (q := 75) (v := 3) C dL_told_74 rfl (by decide) ?_
  refine pv_icmp_ne (q := 78) (tgt := 83) C dL_told_75 (by decide) rfl (fun c75_3 => False.elim (c75_3 (by rw [hE7]; decide))) (fun _ => ?_)
  refine pv_bipush (q := 80) (v := 103) C dL_told_78 rfl (by decide) ?_
  refine pv_goto (tgt := 114) C dL_told_80 (by decide) ?_
  refine pv_istore (q := 116) C dL_told_114 rfl (Nat.le_of_ble_eq_true rfl) rfl ?_
  refine pv_iload_n (q := 117) C dL_told_116 rfl rfl rfl ?_
  refine pv_if_eq (q := 120) (tgt := 131) C dL_told_117 (by decide) rfl (fun _ => ?_) (fun c117_4 => False.elim (c117_4 (by rw [hk0]; rfl)))
  refine pv_aload_n (q := 132) C dL_told_131 rfl rfl rfl ?_
  refine pv_iload (q := 134) C dL_told_132 rfl rfl ?_
  refine pv_callLl (q := 137) (rest := []) C Z hNC hKl (c_L_append l X D P hfl M (W) h (by omega) n0 (by omega) hn0 103) tw_768 mw_L_append ⟨rfl, rfl⟩ (by rw [hKR]; exact ⟨Nat.le_of_ble_eq_true rfl, Nat.le_of_ble_eq_true rfl⟩) (by rw [hKR]; constructor <;> (dsimp only; omega)) rfl rfl rfl (Nat.le_of_ble_eq_true rfl) dL_told_134 rfl (fun r5 D5 P5 q5 => ?_)
  obtain ⟨e5, hR5⟩ := QE.ok q5 (kApp_0 (by decide) (by omega))
  obtain rfl : r5 = ((nI n0 + 1).toInt64) := e5.trans (rfl)
  rw [ap1_n hn0 (by omega)] at hR5
  refine pv_lconst (q := 138) (v := 0) C dL_told_137 rfl (by decide) ?_
  refine pv_lcmp (q := 139) C dL_told_138 rfl ?_
  refine pv_if_le (q := 142) (tgt := 185) C dL_told_139 (by decide) rfl (fun c139_6 => False.elim (Int64.not_le.mpr (ap_pos (by omega)) ((lg_cmp_le _ _).mp c139_6))) (fun _ => ?_)
  refine pv_aload_n (q := 143) C dL_told_142 rfl rfl rfl ?_
  refine pv_iload (q := 145) C dL_told_143 rfl rfl ?_
  refine pv_iconst (q := 146) (v := 5) C dL_told_145 rfl (by decide) ?_
  refine pv_icmp_ge (q := 149) (tgt := 154) C dL_told_146 (by decide) rfl (fun c146_7 => False.elim (absurd c146_7 (by rw [hE7]; decide))) (fun _ => ?_)
  refine pv_iload (q := 151) C dL_told_149 rfl rfl ?_
  refine pv_goto (tgt := 175) C dL_told_151 (by decide) ?_
  refine pv_callMi (q := 178) (rest := []) C Z hNC hKl (c_L_numP l X D5 P5 hfl (ap1 M 103) (W + 130) hR5 (by omega) ((x / 2 ^ k) / 7 % 8) (n0 + 1) ((by omega)) (ap1_len hn0) (by omega)) tw_993 mm_L_number ⟨rfl, rfl⟩ (by rw [hKR]; exact ⟨Nat.le_of_ble_eq_true rfl, Nat.le_of_ble_eq_true rfl⟩) (by rw [hKR]; constructor <;> (dsimp only; omega)) rfl rfl rfl (Nat.le_of_ble_eq_true rfl) dL_told_175 rfl (fun r8 D8 P8 q8 => ?_)
  obtain ⟨rfl, hR8⟩ := q8
  refine pv_if_eq (q := 181) (tgt := 185) C dL_told_178 (by decide) rfl (fun c178_9 => absurd c178_9 (by decide)) (fun _ => ?_)
  refine pv_iconst (q := 182) (v := 1) C dL_told_181 rfl (by decide) ?_
  refine pv_goto (tgt := 186) C dL_told_182 (by decide) ?_
  refine pv_istore_n (q := 187) C dL_told_186 rfl rfl (Nat.le_of_ble_eq_true rfl) rfl ?_
  refine pv_iload_n (q := 188) C dL_told_187 rfl rfl rfl ?_
  refine pv_if_eq (q := 191) (tgt := 261) C dL_told_188 (by decide) rfl (fun c188_10 => absurd c188_10 (by decide)) (fun _ => ?_)
  refine pv_iload (q := 193) C dL_told_191 rfl rfl ?_
  refine pv_iconst (q := 194) (v := 2) C dL_told_193 rfl (by decide) ?_
  refine pv_icmp_ne (q := 197) (tgt := 208) C dL_told_194 (by decide) rfl (fun _ => ?_) (fun c194_11 => False.elim (absurd c194_11 (by rw [hE7]; decide)))
  refine pv_iload (q := 210) C dL_told_208 rfl rfl ?_
  refine pv_iconst (q := 211) (v := 1) C dL_told_210 rfl (by decide) ?_
  refine pv_icmp_le (q := 214) (tgt := 220) C dL_told_211 (by decide) rfl (fun c211_12 => False.elim (absurd c211_12 (by rw [hE7]; decide))) (fun _ => ?_)
  refine pv_iload (q := 216) C dL_told_214 rfl rfl ?_
  refine pv_iconst (q := 217) (v := 3) C dL_told_216 rfl (by decide) ?_
  refine pv_icmp_ne (q := 220) (tgt := 236) C dL_told_217 (by decide) rfl (fun c217_13 => False.elim (c217_13 (by rw [hE7]; decide))) (fun _ => ?_)
  refine pv_aload_n (q := 221) C dL_told_220 rfl rfl rfl ?_
  refine pv_bipush (q := 223) (v := 97) C dL_told_221 rfl (by decide) ?_
  refine pv_iload (q := 225) C dL_told_223 rfl rfl ?_
  refine pv_iconst (q := 226) (v := 4) C dL_told_225 rfl (by decide) ?_
  refine pv_iremN (q := 227) (a := (x / 2 ^ k)) (b := 4) C rfl rfl (by omega) (by decide) (by decide) dL_told_226 rfl ?_
  refine pv_iaddN (q := 228) (a := 97) (b := ((x / 2 ^ k) % 4)) C rfl rfl dL_told_227 rfl ?_
  refine pv_callLl (q := 231) (rest := []) C Z hNC hKl (c_L_append l X D8 P8 hfl (numE ((x / 2 ^ k) / 7 % 8) (ap1 M 103)) (W + 130 + 390) hR8 (by omega) n1 (by omega) hn1 (nI (97 + ((x / 2 ^ k) % 4)))) tw_768 mw_L_append ⟨rfl, rfl⟩ (by rw [hKR]; exact ⟨Nat.le_of_ble_eq_true rfl, Nat.le_of_ble_eq_true rfl⟩) (by rw [hKR]; constructor <;> (dsimp only; omega)) rfl rfl rfl (Nat.le_of_ble_eq_true rfl) dL_told_228 rfl (fun r14 D14 P14 q14 => ?_)
  obtain ⟨e14, hR14⟩ := QE.ok q14 (kApp_0 (rg_cN (by omega) (by omega)) (by omega))
  obtain rfl : r14 = ((nI n1 + 1).toInt64) := e14.trans (rfl)
  rw [ap1_n hn1 (by omega)] at hR14
  refine pv_lconst (q := 232) (v := 0) C dL_told_231 rfl (by decide) ?_
  refine pv_lcmp (q := 233) C dL_told_232 rfl ?_
  refine pv_if_le (q := 236) (tgt := 261) C dL_told_233 (by decide) rfl (fun c233_15 => False.elim (Int64.not_le.mpr (ap_pos (by omega)) ((lg_cmp_le _ _).mp c233_15))) (fun _ => ?_)
  refine pv_iload (q := 238) C dL_told_236 rfl rfl ?_
  refine pv_iconst (q := 239) (v := 2) C dL_told_238 rfl (by decide) ?_
  refine pv_icmp_gt (q := 242) (tgt := 257) C dL_told_239 (by decide) rfl (fun _ => ?_) (fun c239_16 => False.elim (c239_16 (by rw [hE7]; decide)))
  refine pv_iconst (q := 258) (v := 1) C dL_told_257 rfl (by decide) ?_
  refine pv_goto (tgt := 262) C dL_told_258 (by decide) ?_
  refine pv_istore_n (q := 263) C dL_told_262 rfl rfl (Nat.le_of_ble_eq_true rfl) rfl ?_
  exact PV_widen (by omega) (by omega) (PV_le (kk D14 P14 (RI_W hR14 (by omega))) ⟨Or.inr rfl, Or.inr rfl, Or.inr rfl, Or.inr rfl, Or.inl rfl, Or.inl rfl, Or.inl rfl, Or.inl rfl, trivial⟩)
set_option maxRecDepth 100000 in
set_option maxHeartbeats 4000000 in
theorem tp_3_0_1 {M : DT} {x k n0 : Nat} (hx : x < 2 ^ 31) (hk : k < 6) (hn0 : M 6 9 = nI n0) (hn8 : n0 ≤ 9 * k) (hk0 : ¬ k = 0) (hE7 : (x / 2 ^ k) % 7 = 3) : ∃ (E : DT) (n : Nat), E 6 9 = nI n ∧ n ≤ 9 * (k + 1) ∧ (∀ V, JM M V → JM E V) ∧ ∀ {l : Launch} {K : KT} {X : XT} {w0 : Cond} {Q : State → Prop} {W cb : Nat} (_ : LK l K X cL_told RL w0 8 (some .long) ({ frames := 9, cells := 150, slots := 900, locals := 324 } : Room)) (_ : W + 20000 < 2 ^ 29) (_ : cb + 22 ≤ 150) (_ : ∀ (D : DT) (P : PT), RI D P E (W + 1400) → PV K X Q (cb + 22) (6 * (cb + 22)) 263 [some (.ref (X.2.2 0)), some (.int (nI x)), some (.int 1), some (.int (nI k)), none, none, none, none] [] D P) (D : DT) (P : PT) (_ : RI D P M W), PV K X Q (cb) (6 * cb) 28 [some (.ref (X.2.2 0)), some (.int (nI x)), some (.int 1), some (.int (nI k)), none, none, none, none] [] D P := by
  have hY : x / 2 ^ k < 2 ^ 31 := Nat.lt_of_le_of_lt (Nat.div_le_self _ _) hx
  obtain ⟨n1, a1, b1, hn1⟩ := numE_len (m := ((x / 2 ^ k) / 7 % 8)) (M := (ap1 (ap1 M 59) 103)) (ap1_len (ap1_len hn0))
  refine ⟨(ap1 (numE ((x / 2 ^ k) / 7 % 8) (ap1 (ap1 M 59) 103)) (nI (97 + ((x / 2 ^ k) % 4)))), (n1 + 1), (ap1_len hn1), by omega, fun V hj => (JM_ap1 (JM_num (JM_ap1 (JM_ap1 hj)))), ?_⟩
  intro l K X w0 Q W cb L hW hc kk D P h
  obtain ⟨hKl, hKR, C, Z, hNC, hfl⟩ := id L
  refine pv_iload_n (q := 29) C dL_told_28 rfl rfl rfl ?_
  refine pv_iload_n (q := 30) C dL_told_29 rfl rfl rfl ?_
  refine pv_ishr (q := 31) C dL_told_30 rfl ?_
  rw [shr_N hx (by omega)]
  refine pv_istore (q := 33) C dL_told_31 rfl (Nat.le_of_ble_eq_true rfl) rfl ?_
  refine pv_iload (q := 35) C dL_told_33 rfl rfl ?_
  refine pv_bipush (q := 37) (v := 7) C dL_told_35 rfl (by decide) ?_
  refine pv_iremN (q := 38) (a := (x / 2 ^ k)) (b := 7) C rfl rfl (by omega) (by decide) (by decide) dL_told_37 rfl ?_
  refine pv_istore (q := 40) C dL_told_38 rfl (Nat.le_of_ble_eq_true rfl) rfl ?_
  refine pv_iload (q := 42) C dL_told_40 rfl rfl ?_
  refine pv_bipush (q := 44) (v := 7) C dL_told_42 rfl (by decide) ?_
  refine pv_idivN (q := 45) (a := (x / 2 ^ k)) (b := 7) C rfl rfl (by omega) (by decide) (by decide) dL_told_44 rfl ?_
  refine pv_bipush (q := 47) (v := 8) C dL_told_45 rfl (by decide) ?_
  refine pv_iremN (q := 48) (a := ((x / 2 ^ k) / 7)) (b := 8) C rfl rfl (by omega) (by decide) (by decide) dL_told_47 rfl ?_
  refine pv_istore (q := 50) C dL_told_48 rfl (Nat.le_of_ble_eq_true rfl) rfl ?_
  refine pv_iload (q := 52) C dL_told_50 rfl rfl ?_
  refine pv_iconst (q := 53) (v := 2) C dL_told_52 rfl (by decide) ?_
  refine pv_icmp_ge (q := 56) (tgt := 61) C dL_told_53 (by decide) rfl (fun _ => ?_) (fun c53_1 => False.elim (c53_1 (by rw [hE7]; decide)))
  refine pv_iload (q := 63) C dL_told_61 rfl rfl ?_
  refine pv_iconst (q := 64) (v := 2) C dL_told_63 rfl (by decide) ?_
  refine pv_icmp_ne (q := 67) (tgt := 72) C dL_told_64 (by decide) rfl (fun _ => ?_) (fun c64_2 => False.elim (absurd c64_2 (by rw [hE7]; decide)))
  refine pv_iload (q := 74) C dL_told_72 rfl rfl ?_
  refine pv_iconst (q := 75) (v := 3) C dL_told_74 rfl (by decide) ?_
  refine pv_icmp_ne (q := 78) (tgt := 83) C dL_told_75 (by decide) rfl (fun c75_3 => False.elim (c75_3 (by rw [hE7]; decide))) (fun _ => ?_)
  refine pv_bipush (q := 80) (v := 103) C dL_told_78 rfl (by decide) ?_
  refine pv_goto (tgt := 114) C dL_told_80 (by decide) ?_
  refine pv_istore (q := 116) C dL_told_114 rfl (Nat.le_of_ble_eq_true rfl) rfl ?_
  refine pv_iload_n (q := 117) C dL_told_116 rfl rfl rfl ?_
  refine pv_if_eq (q := 120) (tgt := 131) C dL_told_117 (by decide) rfl (fun c117_4 => False.elim (absurd c117_4 (nI_ne0 (by omega) (by omega)))) (fun _ => ?_)
  refine pv_aload_n (q := 121) C dL_told_120 rfl rfl rfl ?_
  refine pv_bipush (q := 123) (v := 59) C dL_told_121 rfl (by decide) ?_
  refine pv_callLl (q := 126) (rest := []) C Z hNC hKl (c_L_append l X D P hfl M (W) h (by omega) n0 (by omega) hn0 59) tw_768 mw_L_append ⟨rfl, rfl⟩ (by rw [hKR]; exact ⟨Nat.le_of_ble_eq_true rfl, Nat.le_of_ble_eq_true rfl⟩) (by rw [hKR]; constructor <;> (dsimp only; omega)) rfl rfl rfl (Nat.le_of_ble_eq_true rfl) dL_told_123 rfl (fun r5 D5 P5 q5 => ?_)
  obtain ⟨e5, hR5⟩ := QE.ok q5 (kApp_0 (by decide) (by omega))
  obtain rfl : r5 = ((nI n0 + 1).toInt64) := e5.trans (rfl)
  rw [ap1_n hn0 (by omega)] at hR5
  refine pv_lconst (q := 127) (v := 0) C dL_told_126 rfl (by decide) ?_
  refine pv_lcmp (q := 128) C dL_told_127 rfl ?_
  refine pv_if_le (q := 131) (tgt := 185) C dL_told_128 (by decide) rfl (fun c128_6 => False.elim (Int64.not_le.mpr (ap_pos (by omega)) ((lg_cmp_le _ _).mp c128_6))) (fun _ => ?_)
  refine pv_aload_n (q := 132) C dL_told_131 rfl rfl rfl ?_
  refine pv_iload (q := 134) C dL_told_132 rfl rfl ?_
  refine pv_callLl (q := 137) (rest := []) C Z hNC hKl (c_L_append l X D5 P5 hfl (ap1 M 59) (W + 130) hR5 (by omega) (n0 + 1) (by omega) (ap1_len hn0) 103) tw_768 mw_L_append ⟨rfl, rfl⟩ (by rw [hKR]; exact ⟨Nat.le_of_ble_eq_true rfl, Nat.le_of_ble_eq_true rfl⟩) (by rw [hKR]; constructor <;> (dsimp only; omega)) rfl rfl rfl (Nat.le_of_ble_eq_true rfl) dL_told_134 rfl (fun r7 D7 P7 q7 => ?_)
  obtain ⟨e7, hR7⟩ := QE.ok q7 (kApp_0 (by decide) (by omega))
  obtain rfl : r7 = ((nI (n0 + 1) + 1).toInt64) := e7.trans (rfl)
  rw [ap1_n (ap1_len hn0) (by omega)] at hR7
  refine pv_lconst (q := 138) (v := 0) C dL_told_137 rfl (by decide) ?_
  refine pv_lcmp (q := 139) C dL_told_138 rfl ?_
  refine pv_if_le (q := 142) (tgt := 185) C dL_told_139 (by decide) rfl (fun c139_8 => False.elim (Int64.not_le.mpr (ap_pos (by omega)) ((lg_cmp_le _ _).mp c139_8))) (fun _ => ?_)
  refine pv_aload_n (q := 143) C dL_told_142 rfl rfl rfl ?_
  refine pv_iload (q := 145) C dL_told_143 rfl rfl ?_
  refine pv_iconst (q := 146) (v := 5) C dL_told_145 rfl (by decide) ?_
  refine pv_icmp_ge (q := 149) (tgt := 154) C dL_told_146 (by decide) rfl (fun c146_9 => False.elim (absurd c146_9 (by rw [hE7]; decide))) (fun _ => ?_)
  refine pv_iload (q := 151) C dL_told_149 rfl rfl ?_
  refine pv_goto (tgt := 175) C dL_told_151 (by decide) ?_
  refine pv_callMi (q := 178) (rest := []) C Z hNC hKl (c_L_numP l X D7 P7 hfl (ap1 (ap1 M 59) 103) (W + 130 + 130) hR7 (by omega) ((x / 2 ^ k) / 7 % 8) ((n0 + 1) + 1) ((by omega)) (ap1_len (ap1_len hn0)) (by omega)) tw_993 mm_L_number ⟨rfl, rfl⟩ (by rw [hKR]; exact ⟨Nat.le_of_ble_eq_true rfl, Nat.le_of_ble_eq_true rfl⟩) (by rw [hKR]; constructor <;> (dsimp only; omega)) rfl rfl rfl (Nat.le_of_ble_eq_true rfl) dL_told_175 rfl (fun r10 D10 P10 q10 => ?_)
  obtain ⟨rfl, hR10⟩ := q10
  refine pv_if_eq (q := 181) (tgt := 185) C dL_told_178 (by decide) rfl (fun c178_11 => absurd c178_11 (by decide)) (fun _ => ?_)
  refine pv_iconst (q := 182) (v := 1) C dL_told_181 rfl (by decide) ?_
  refine pv_goto (tgt := 186) C dL_told_182 (by decide) ?_
  refine pv_istore_n (q := 187) C dL_told_186 rfl rfl (Nat.le_of_ble_eq_true rfl) rfl ?_
  refine pv_iload_n (q := 188) C dL_told_187 rfl rfl rfl ?_
  refine pv_if_eq (q := 191) (tgt := 261) C dL_told_188 (by decide) rfl (fun c188_12 => absurd c188_12 (by decide)) (fun _ => ?_)
  refine pv_iload (q := 193) C dL_told_191 rfl rfl ?_
  refine pv_iconst (q := 194) (v := 2) C dL_told_193 rfl (by decide) ?_
  refine pv_icmp_ne (q := 197) (tgt := 208) C dL_told_194 (by decide) rfl (fun _ => ?_) (fun c194_13 => False.elim (absurd c194_13 (by rw [hE7]; decide)))
  refine pv_iload (q := 210) C dL_told_208 rfl rfl ?_
  refine pv_iconst (q := 211) (v := 1) C dL_told_210 rfl (by decide) ?_
  refine pv_icmp_le (q := 214) (tgt := 220) C dL_told_211 (by decide) rfl (fun c211_14 => False.elim (absurd c211_14 (by rw [hE7]; decide))) (fun _ => ?_)
  refine pv_iload (q := 216) C dL_told_214 rfl rfl ?_
  refine pv_iconst (q := 217) (v := 3) C dL_told_216 rfl (by decide) ?_
  refine pv_icmp_ne (q := 220) (tgt := 236) C dL_told_217 (by decide) rfl (fun c217_15 => False.elim (c217_15 (by rw [hE7]; decide))) (fun _ => ?_)
  refine pv_aload_n (q := 221) C dL_told_220 rfl rfl rfl ?_
  refine pv_bipush (q := 223) (v := 97) C dL_told_221 rfl (by decide) ?_
  refine pv_iload (q := 225) C dL_told_223 rfl rfl ?_
  refine pv_iconst (q := 226) (v := 4) C dL_told_225 rfl (by decide) ?_
  refine pv_iremN (q := 227) (a := (x / 2 ^ k)) (b := 4) C rfl rfl (by omega) (by decide) (by decide) dL_told_226 rfl ?_
  refine pv_iaddN (q := 228) (a := 97) (b := ((x / 2 ^ k) % 4)) C rfl rfl dL_told_227 rfl ?_
  refine pv_callLl (q := 231) (rest := []) C Z hNC hKl (c_L_append l X D10 P10 hfl (numE ((x / 2 ^ k) / 7 % 8) (ap1 (ap1 M 59) 103)) (W + 130 + 130 + 390) hR10 (by omega) n1 (by omega) hn1 (nI (97 + ((x / 2 ^ k) % 4)))) tw_768 mw_L_append ⟨rfl, rfl⟩ (by rw [hKR]; exact ⟨Nat.le_of_ble_eq_true rfl, Nat.le_of_ble_eq_true rfl⟩) (by rw [hKR]; constructor <;> (dsimp only; omega)) rfl rfl rfl (Nat.le_of_ble_eq_true rfl) dL_told_228 rfl (fun r16 D16 P16 q16 => ?_)
  obtain ⟨e16, hR16⟩ := QE.ok q16 (kApp_0 (rg_cN (by omega) (by omega)) (by omega))
  obtain rfl : r16 = ((nI n1 + 1).toInt64) := e16.trans (rfl)
  rw [ap1_n hn1 (by omega)] at hR16
  refine pv_lconst (q := 232) (v := 0) C dL_told_231 rfl (by decide) ?_
  refine pv_lcmp (q := 233) C dL_told_232 rfl ?_
  refine pv_if_le (q := 236) (tgt := 261) C dL_told_233 (by decide) rfl (fun c233_17 => False.elim (Int64.not_le.mpr (ap_pos (by omega)) ((lg_cmp_le _ _).mp c233_17))) (fun _ => ?_)
  refine pv_iload (q := 238) C dL_told_236 rfl rfl ?_
  refine pv_iconst (q := 239) (v := 2) C dL_told_238 rfl (by decide) ?_
  refine pv_icmp_gt (q := 242) (tgt := 257) C dL_told_239 (by decide) rfl (fun _ => ?_) (fun c239_18 => False.elim (c239_18 (by rw [hE7]; decide)))
  refine pv_iconst (q := 258) (v := 1) C dL_told_257 rfl (by decide) ?_
  refine pv_goto (tgt := 262) C dL_told_258 (by decide) ?_
  refine pv_istore_n (q := 263) C dL_told_262 rfl rfl (Nat.le_of_ble_eq_true rfl) rfl ?_
  exact PV_widen (by omega) (by omega) (PV_le (kk D16 P16 (RI_W hR16 (by omega))) ⟨Or.inr rfl, Or.inr rfl, Or.inr rfl, Or.inr rfl, Or.inl rfl, Or.inl rfl, Or.inl rfl, Or.inl rfl, trivial⟩)
set_option maxRecDepth 100000 in
set_option maxHeartbeats 4000000 in
theorem tp_4_1_1 {M : DT} {x k n0 : Nat} (hx : x < 2 ^ 31) (hk : k < 6) (hn0 : M 6 9 = nI n0) (hn8 : n0 ≤ 9 * k) (hk0 : k = 0) (hE7 : (x / 2 ^ k) % 7 = 4) : ∃ (E : DT) (n : Nat), E 6 9 = nI n ∧ n ≤ 9 * (k + 1) ∧ (∀ V, JM M V → JM E V) ∧ ∀ {l : Launch} {K : KT} {X : XT} {w0 : Cond} {Q : State → Prop} {W cb : Nat} (_ : LK l K X cL_told RL w0 8 (some .long) ({ frames := 9, cells := 150, slots := 900, locals := 324 } : Room)) (_ : W + 20000 < 2 ^ 29) (_ : cb + 22 ≤ 150) (_ : ∀ (D : DT) (P : PT), RI D P E (W + 1400) → PV K X Q (cb + 22) (6 * (cb + 22)) 263 [some (.ref (X.2.2 0)), some (.int (nI x)), some (.int 1), some (.int (nI k)), none, none, none, none] [] D P) (D : DT) (P : PT) (_ : RI D P M W), PV K X Q (cb) (6 * cb) 28 [some (.ref (X.2.2 0)), some (.int (nI x)), some (.int 1), some (.int (nI k)), none, none, none, none] [] D P := by
  have hY : x / 2 ^ k < 2 ^ 31 := Nat.lt_of_le_of_lt (Nat.div_le_self _ _) hx
  obtain ⟨n1, a1, b1, hn1⟩ := numE_len (m := ((x / 2 ^ k) / 7 % 8)) (M := (ap1 M 120)) (ap1_len hn0)
  refine ⟨(numE ((x / 2 ^ k) / 7 % 8) (ap1 M 120)), n1, hn1, by omega, fun V hj => (JM_num (JM_ap1 hj)), ?_⟩
  intro l K X w0 Q W cb L hW hc kk D P h
  obtain ⟨hKl, hKR, C, Z, hNC, hfl⟩ := id L
  refine pv_iload_n (q := 29) C dL_told_28 rfl rfl rfl ?_
  refine pv_iload_n (q := 30) C dL_told_29 rfl rfl rfl ?_
  refine pv_ishr (q := 31) C dL_told_30 rfl ?_
  rw [shr_N hx (by omega)]
  refine pv_istore (q := 33) C dL_told_31 rfl (Nat.le_of_ble_eq_true rfl) rfl ?_
  refine pv_iload (q := 35) C dL_told_33 rfl rfl ?_
  refine pv_bipush (q := 37) (v := 7) C dL_told_35 rfl (by decide) ?_
  refine pv_iremN (q := 38) (a := (x / 2 ^ k)) (b := 7) C rfl rfl (by omega) (by decide) (by decide) dL_told_37 rfl ?_
  refine pv_istore (q := 40) C dL_told_38 rfl (Nat.le_of_ble_eq_true rfl) rfl ?_
  refine pv_iload (q := 42) C dL_told_40 rfl rfl ?_
  refine pv_bipush (q := 44) (v := 7) C dL_told_42 rfl (by decide) ?_
  refine pv_idivN (q := 45) (a := (x / 2 ^ k)) (b := 7) C rfl rfl (by omega) (by decide) (by decide) dL_told_44 rfl ?_
  refine pv_bipush (q := 47) (v := 8) C dL_told_45 rfl (by decide) ?_
  refine pv_iremN (q := 48) (a := ((x / 2 ^ k) / 7)) (b := 8) C rfl rfl (by omega) (by decide) (by decide) dL_told_47 rfl ?_
  refine pv_istore (q := 50) C dL_told_48 rfl (Nat.le_of_ble_eq_true rfl) rfl ?_
  refine pv_iload (q := 52) C dL_told_50 rfl rfl ?_
  refine pv_iconst (q := 53) (v := 2) C dL_told_52 rfl (by decide) ?_
  refine pv_icmp_ge (q := 56) (tgt := 61) C dL_told_53 (by decide) rfl (fun _ => ?_) (fun c53_1 => False.elim (c53_1 (by rw [hE7]; decide)))
  refine pv_iload (q := 63) C dL_told_61 rfl rfl ?_
  refine pv_iconst (q := 64) (v := 2) C dL_told_63 rfl (by decide) ?_
  refine pv_icmp_ne (q := 67) (tgt := 72) C dL_told_64 (by decide) rfl (fun _ => ?_) (fun c64_2 => False.elim (absurd c64_2 (by rw [hE7]; decide)))
  refine pv_iload (q := 74) C dL_told_72 rfl rfl ?_
  refine pv_iconst (q := 75) (v := 3) C dL_told_74 rfl (by decide) ?_
  refine pv_icmp_ne (q := 78) (tgt := 83) C dL_told_75 (by decide) rfl (fun _ => ?_) (fun c75_3 => False.elim (absurd c75_3 (by rw [hE7]; decide)))
  refine pv_iload (q := 85) C dL_told_83 rfl rfl ?_
  refine pv_iconst (q := 86) (v := 4) C dL_told_85 rfl (by decide) ?_
  refine pv_icmp_ne (q := 89) (tgt := 94) C dL_told_86 (by decide) rfl (fun c86_4 => False.elim (c86_4 (by rw [hE7]; decide))) (fun _ => ?_)
  refine pv_bipush (q := 91) (v := 120) C dL_told_89 rfl (by decide) ?_
  refine pv_goto (tgt := 114) C dL_told_91 (by decide) ?_
  refine pv_istore (q := 116) C dL_told_114 rfl (Nat.le_of_ble_eq_true rfl) rfl ?_
  refine pv_iload_n (q := 117) C dL_told_116 rfl rfl rfl ?_
  refine pv_if_eq (q := 120) (tgt := 131) C dL_told_117 (by decide) rfl (fun _ => ?_) (fun c117_5 => False.elim (c117_5 (by rw [hk0]; rfl)))
  refine pv_aload_n (q := 132) C dL_told_131 rfl rfl rfl ?_
  refine pv_iload (q := 134) C dL_told_132 rfl rfl ?_
  refine pv_callLl (q := 137) (rest := []) C Z hNC hKl (c_L_append l X D P hfl M (W) h (by omega) n0 (by omega) hn0 120) tw_768 mw_L_append ⟨rfl, rfl⟩ (by rw [hKR]; exact ⟨Nat.le_of_ble_eq_true rfl, Nat.le_of_ble_eq_true rfl⟩) (by rw [hKR]; constructor <;> (dsimp only; omega)) rfl rfl rfl (Nat.le_of_ble_eq_true rfl) dL_told_134 rfl (fun r6 D6 P6 q6 => ?_)
  obtain ⟨e6, hR6⟩ := QE.ok q6 (kApp_0 (by decide) (by omega))
  obtain rfl : r6 = ((nI n0 + 1).toInt64) := e6.trans (rfl)
  rw [ap1_n hn0 (by omega)] at hR6
  refine pv_lconst (q := 138) (v := 0) C dL_told_137 rfl (by decide) ?_
  refine pv_lcmp (q := 139) C dL_told_138 rfl ?_
  refine pv_if_le (q := 142) (tgt := 185) C dL_told_139 (by decide) rfl (fun c139_7 => False.elim (Int64.not_le.mpr (ap_pos (by omega)) ((lg_cmp_le _ _).mp c139_7))) (fun _ => ?_)
  refine pv_aload_n (q := 143) C dL_told_142 rfl rfl rfl ?_
  refine pv_iload (q := 145) C dL_told_143 rfl rfl ?_
  refine pv_iconst (q := 146) (v := 5) C dL_told_145 rfl (by decide) ?_
  refine pv_icmp_ge (q := 149) (tgt := 154) C dL_told_146 (by decide) rfl (fun c146_8 => False.elim (absurd c146_8 (by rw [hE7]; decide))) (fun _ => ?_)
  refine pv_iload (q := 151) C dL_told_149 rfl rfl ?_
  refine pv_goto (tgt := 175) C dL_told_151 (by decide) ?_
  refine pv_callMi (q := 178) (rest := []) C Z hNC hKl (c_L_numP l X D6 P6 hfl (ap1 M 120) (W + 130) hR6 (by omega) ((x / 2 ^ k) / 7 % 8) (n0 + 1) ((by omega)) (ap1_len hn0) (by omega)) tw_993 mm_L_number ⟨rfl, rfl⟩ (by rw [hKR]; exact ⟨Nat.le_of_ble_eq_true rfl, Nat.le_of_ble_eq_true rfl⟩) (by rw [hKR]; constructor <;> (dsimp only; omega)) rfl rfl rfl (Nat.le_of_ble_eq_true rfl) dL_told_175 rfl (fun r9 D9 P9 q9 => ?_)
  obtain ⟨rfl, hR9⟩ := q9
  refine pv_if_eq (q := 181) (tgt := 185) C dL_told_178 (by decide) rfl (fun c178_10 => absurd c178_10 (by decide)) (fun _ => ?_)
  refine pv_iconst (q := 182) (v := 1) C dL_told_181 rfl (by decide) ?_
  refine pv_goto (tgt := 186) C dL_told_182 (by decide) ?_
  refine pv_istore_n (q := 187) C dL_told_186 rfl rfl (Nat.le_of_ble_eq_true rfl) rfl ?_
  refine pv_iload_n (q := 188) C dL_told_187 rfl rfl rfl ?_
  refine pv_if_eq (q := 191) (tgt := 261) C dL_told_188 (by decide) rfl (fun c188_11 => absurd c188_11 (by decide)) (fun _ => ?_)
  refine pv_iload (q := 193) C dL_told_191 rfl rfl ?_
  refine pv_iconst (q := 194) (v := 2) C dL_told_193 rfl (by decide) ?_
  refine pv_icmp_ne (q := 197) (tgt := 208) C dL_told_194 (by decide) rfl (fun _ => ?_) (fun c194_12 => False.elim (absurd c194_12 (by rw [hE7]; decide)))
  refine pv_iload (q := 210) C dL_told_208 rfl rfl ?_
  refine pv_iconst (q := 211) (v := 1) C dL_told_210 rfl (by decide) ?_
  refine pv_icmp_le (q := 214) (tgt := 220) C dL_told_211 (by decide) rfl (fun c211_13 => False.elim (absurd c211_13 (by rw [hE7]; decide))) (fun _ => ?_)
  refine pv_iload (q := 216) C dL_told_214 rfl rfl ?_
  refine pv_iconst (q := 217) (v := 3) C dL_told_216 rfl (by decide) ?_
  refine pv_icmp_ne (q := 220) (tgt := 236) C dL_told_217 (by decide) rfl (fun _ => ?_) (fun c217_14 => False.elim (absurd c217_14 (by rw [hE7]; decide)))
  refine pv_iload (q := 238) C dL_told_236 rfl rfl ?_
  refine pv_iconst (q := 239) (v := 2) C dL_told_238 rfl (by decide) ?_
  refine pv_icmp_gt (q := 242) (tgt := 257) C dL_told_239 (by decide) rfl (fun _ => ?_) (fun c239_15 => False.elim (c239_15 (by rw [hE7]; decide)))
  refine pv_iconst (q := 258) (v := 1) C dL_told_257 rfl (by decide) ?_
  refine pv_goto (tgt := 262) C dL_told_258 (by decide) ?_
  refine pv_istore_n (q := 263) C dL_told_262 rfl rfl (Nat.le_of_ble_eq_true rfl) rfl ?_
  exact PV_widen (by omega) (by omega) (PV_le (kk D9 P9 (RI_W hR9 (by omega))) ⟨Or.inr rfl, Or.inr rfl, Or.inr rfl, Or.inr rfl, Or.inl rfl, Or.inl rfl, Or.inl rfl, Or.inl rfl, trivial⟩)
set_option maxRecDepth 100000 in
set_option maxHeartbeats 4000000 in
theorem tp_4_0_1 {M : DT} {x k n0 : Nat} (hx : x < 2 ^ 31) (hk : k < 6) (hn0 : M 6 9 = nI n0) (hn8 : n0 ≤ 9 * k) (hk0 : ¬ k = 0) (hE7 : (x / 2 ^ k) % 7 = 4) : ∃ (E : DT) (n : Nat), E 6 9 = nI n ∧ n ≤ 9 * (k + 1) ∧ (∀ V, JM M V → JM E V) ∧ ∀ {l : Launch} {K : KT} {X : XT} {w0 : Cond} {Q : State → Prop} {W cb : Nat} (_ : LK l K X cL_told RL w0 8 (some .long) ({ frames := 9, cells := 150, slots := 900, locals := 324 } : Room)) (_ : W + 20000 < 2 ^ 29) (_ : cb + 22 ≤ 150) (_ : ∀ (D : DT) (P : PT), RI D P E (W + 1400) → PV K X Q (cb + 22) (6 * (cb + 22)) 263 [some (.ref (X.2.2 0)), some (.int (nI x)), some (.int 1), some (.int (nI k)), none, none, none, none] [] D P) (D : DT) (P : PT) (_ : RI D P M W), PV K X Q (cb) (6 * cb) 28 [some (.ref (X.2.2 0)), some (.int (nI x)), some (.int 1), some (.int (nI k)), none, none, none, none] [] D P := by
  have hY : x / 2 ^ k < 2 ^ 31 := Nat.lt_of_le_of_lt (Nat.div_le_self _ _) hx
  obtain ⟨n1, a1, b1, hn1⟩ := numE_len (m := ((x / 2 ^ k) / 7 % 8)) (M := (ap1 (ap1 M 59) 120)) (ap1_len (ap1_len hn0))
  refine ⟨(numE ((x / 2 ^ k) / 7 % 8) (ap1 (ap1 M 59) 120)), n1, hn1, by omega, fun V hj => (JM_num (JM_ap1 (JM_ap1 hj))), ?_⟩
  intro l K X w0 Q W cb L hW hc kk D P h
  obtain ⟨hKl, hKR, C, Z, hNC, hfl⟩ := id L
  refine pv_iload_n (q := 29) C dL_told_28 rfl rfl rfl ?_
  refine pv_iload_n (q := 30) C dL_told_29 rfl rfl rfl ?_
  refine pv_ishr (q := 31) C dL_told_30 rfl ?_
  rw [shr_N hx (by omega)]
  refine pv_istore (q := 33) C dL_told_31 rfl (Nat.le_of_ble_eq_true rfl) rfl ?_
  refine pv_iload (q := 35) C dL_told_33 rfl rfl ?_
  refine pv_bipush (q := 37) (v := 7) C dL_told_35 rfl (by decide) ?_
  refine pv_iremN (q := 38) (a := (x / 2 ^ k)) (b := 7) C rfl rfl (by omega) (by decide) (by decide) dL_told_37 rfl ?_
  refine pv_istore (q := 40) C dL_told_38 rfl (Nat.le_of_ble_eq_true rfl) rfl ?_
  refine pv_iload (q := 42) C dL_told_40 rfl rfl ?_
  refine pv_bipush (q := 44) (v := 7) C dL_told_42 rfl (by decide) ?_
  refine pv_idivN (q := 45) (a := (x / 2 ^ k)) (b := 7) C rfl rfl (by omega) (by decide) (by decide) dL_told_44 rfl ?_
  refine pv_bipush (q := 47) (v := 8) C dL_told_45 rfl (by decide) ?_
  refine pv_iremN (q := 48) (a := ((x / 2 ^ k) / 7)) (b := 8) C rfl rfl (by omega) (by decide) (by decide) dL_told_47 rfl ?_
  refine pv_istore (q := 50) C dL_told_48 rfl (Nat.le_of_ble_eq_true rfl) rfl ?_
  refine pv_iload (q := 52) C dL_told_50 rfl rfl ?_
  refine pv_iconst (q := 53) (v := 2) C dL_told_52 rfl (by decide) ?_
  refine pv_icmp_ge (q := 56) (tgt := 61) C dL_told_53 (by decide) rfl (fun _ => ?_) (fun c53_1 => False.elim (c53_1 (by rw [hE7]; decide)))
  refine pv_iload (q := 63) C dL_told_61 rfl rfl ?_
  refine pv_iconst (q := 64) (v := 2) C dL_told_63 rfl (by decide) ?_
  refine pv_icmp_ne (q := 67) (tgt := 72) C dL_told_64 (by decide) rfl (fun _ => ?_) (fun c64_2 => False.elim (absurd c64_2 (by rw [hE7]; decide)))
  refine pv_iload (q := 74) C dL_told_72 rfl rfl ?_
  refine pv_iconst (q := 75) (v := 3) C dL_told_74 rfl (by decide) ?_
  refine pv_icmp_ne (q := 78) (tgt := 83) C dL_told_75 (by decide) rfl (fun _ => ?_) (fun c75_3 => False.elim (absurd c75_3 (by rw [hE7]; decide)))
  refine pv_iload (q := 85) C dL_told_83 rfl rfl ?_
  refine pv_iconst (q := 86) (v := 4) C dL_told_85 rfl (by decide) ?_
  refine pv_icmp_ne (q := 89) (tgt := 94) C dL_told_86 (by decide) rfl (fun c86_4 => False.elim (c86_4 (by rw [hE7]; decide))) (fun _ => ?_)
  refine pv_bipush (q := 91) (v := 120) C dL_told_89 rfl (by decide) ?_
  refine pv_goto (tgt := 114) C dL_told_91 (by decide) ?_
  refine pv_istore (q := 116) C dL_told_114 rfl (Nat.le_of_ble_eq_true rfl) rfl ?_
  refine pv_iload_n (q := 117) C dL_told_116 rfl rfl rfl ?_
  refine pv_if_eq (q := 120) (tgt := 131) C dL_told_117 (by decide) rfl (fun c117_5 => False.elim (absurd c117_5 (nI_ne0 (by omega) (by omega)))) (fun _ => ?_)
  refine pv_aload_n (q := 121) C dL_told_120 rfl rfl rfl ?_
  refine pv_bipush (q := 123) (v := 59) C dL_told_121 rfl (by decide) ?_
  refine pv_callLl (q := 126) (rest := []) C Z hNC hKl (c_L_append l X D P hfl M (W) h (by omega) n0 (by omega) hn0 59) tw_768 mw_L_append ⟨rfl, rfl⟩ (by rw [hKR]; exact ⟨Nat.le_of_ble_eq_true rfl, Nat.le_of_ble_eq_true rfl⟩) (by rw [hKR]; constructor <;> (dsimp only; omega)) rfl rfl rfl (Nat.le_of_ble_eq_true rfl) dL_told_123 rfl (fun r6 D6 P6 q6 => ?_)
  obtain ⟨e6, hR6⟩ := QE.ok q6 (kApp_0 (by decide) (by omega))
  obtain rfl : r6 = ((nI n0 + 1).toInt64) := e6.trans (rfl)
  rw [ap1_n hn0 (by omega)] at hR6
  refine pv_lconst (q := 127) (v := 0) C dL_told_126 rfl (by decide) ?_
  refine pv_lcmp (q := 128) C dL_told_127 rfl ?_
  refine pv_if_le (q := 131) (tgt := 185) C dL_told_128 (by decide) rfl (fun c128_7 => False.elim (Int64.not_le.mpr (ap_pos (by omega)) ((lg_cmp_le _ _).mp c128_7))) (fun _ => ?_)
  refine pv_aload_n (q := 132) C dL_told_131 rfl rfl rfl ?_
  refine pv_iload (q := 134) C dL_told_132 rfl rfl ?_
  refine pv_callLl (q := 137) (rest := []) C Z hNC hKl (c_L_append l X D6 P6 hfl (ap1 M 59) (W + 130) hR6 (by omega) (n0 + 1) (by omega) (ap1_len hn0) 120) tw_768 mw_L_append ⟨rfl, rfl⟩ (by rw [hKR]; exact ⟨Nat.le_of_ble_eq_true rfl, Nat.le_of_ble_eq_true rfl⟩) (by rw [hKR]; constructor <;> (dsimp only; omega)) rfl rfl rfl (Nat.le_of_ble_eq_true rfl) dL_told_134 rfl (fun r8 D8 P8 q8 => ?_)
  obtain ⟨e8, hR8⟩ := QE.ok q8 (kApp_0 (by decide) (by omega))
  obtain rfl : r8 = ((nI (n0 + 1) + 1).toInt64) := e8.trans (rfl)
  rw [ap1_n (ap1_len hn0) (by omega)] at hR8
  refine pv_lconst (q := 138) (v := 0) C dL_told_137 rfl (by decide) ?_
  refine pv_lcmp (q := 139) C dL_told_138 rfl ?_
  refine pv_if_le (q := 142) (tgt := 185) C dL_told_139 (by decide) rfl (fun c139_9 => False.elim (Int64.not_le.mpr (ap_pos (by omega)) ((lg_cmp_le _ _).mp c139_9))) (fun _ => ?_)
  refine pv_aload_n (q := 143) C dL_told_142 rfl rfl rfl ?_
  refine pv_iload (q := 145) C dL_told_143 rfl rfl ?_
  refine pv_iconst (q := 146) (v := 5) C dL_told_145 rfl (by decide) ?_
  refine pv_icmp_ge (q := 149) (tgt := 154) C dL_told_146 (by decide) rfl (fun c146_10 => False.elim (absurd c146_10 (by rw [hE7]; decide))) (fun _ => ?_)
  refine pv_iload (q := 151) C dL_told_149 rfl rfl ?_
  refine pv_goto (tgt := 175) C dL_told_151 (by decide) ?_
  refine pv_callMi (q := 178) (rest := []) C Z hNC hKl (c_L_numP l X D8 P8 hfl (ap1 (ap1 M 59) 120) (W + 130 + 130) hR8 (by omega) ((x / 2 ^ k) / 7 % 8) ((n0 + 1) + 1) ((by omega)) (ap1_len (ap1_len hn0)) (by omega)) tw_993 mm_L_number ⟨rfl, rfl⟩ (by rw [hKR]; exact ⟨Nat.le_of_ble_eq_true rfl, Nat.le_of_ble_eq_true rfl⟩) (by rw [hKR]; constructor <;> (dsimp only; omega)) rfl rfl rfl (Nat.le_of_ble_eq_true rfl) dL_told_175 rfl (fun r11 D11 P11 q11 => ?_)
  obtain ⟨rfl, hR11⟩ := q11
  refine pv_if_eq (q := 181) (tgt := 185) C dL_told_178 (by decide) rfl (fun c178_12 => absurd c178_12 (by decide)) (fun _ => ?_)
  refine pv_iconst (q := 182) (v := 1) C dL_told_181 rfl (by decide) ?_
  refine pv_goto (tgt := 186) C dL_told_182 (by decide) ?_
  refine pv_istore_n (q := 187) C dL_told_186 rfl rfl (Nat.le_of_ble_eq_true rfl) rfl ?_
  refine pv_iload_n (q := 188) C dL_told_187 rfl rfl rfl ?_
  refine pv_if_eq (q := 191) (tgt := 261) C dL_told_188 (by decide) rfl (fun c188_13 => absurd c188_13 (by decide)) (fun _ => ?_)
  refine pv_iload (q := 193) C dL_told_191 rfl rfl ?_
  refine pv_iconst (q := 194) (v := 2) C dL_told_193 rfl (by decide) ?_
  refine pv_icmp_ne (q := 197) (tgt := 208) C dL_told_194 (by decide) rfl (fun _ => ?_) (fun c194_14 => False.elim (absurd c194_14 (by rw [hE7]; decide)))
  refine pv_iload (q := 210) C dL_told_208 rfl rfl ?_
  refine pv_iconst (q := 211) (v := 1) C dL_told_210 rfl (by decide) ?_
  refine pv_icmp_le (q := 214) (tgt := 220) C dL_told_211 (by decide) rfl (fun c211_15 => False.elim (absurd c211_15 (by rw [hE7]; decide))) (fun _ => ?_)
  refine pv_iload (q := 216) C dL_told_214 rfl rfl ?_
  refine pv_iconst (q := 217) (v := 3) C dL_told_216 rfl (by decide) ?_
  refine pv_icmp_ne (q := 220) (tgt := 236) C dL_told_217 (by decide) rfl (fun _ => ?_) (fun c217_16 => False.elim (absurd c217_16 (by rw [hE7]; decide)))
  refine pv_iload (q := 238) C dL_told_236 rfl rfl ?_
  refine pv_iconst (q := 239) (v := 2) C dL_told_238 rfl (by decide) ?_
  refine pv_icmp_gt (q := 242) (tgt := 257) C dL_told_239 (by decide) rfl (fun _ => ?_) (fun c239_17 => False.elim (c239_17 (by rw [hE7]; decide)))
  refine pv_iconst (q := 258) (v := 1) C dL_told_257 rfl (by decide) ?_
  refine pv_goto (tgt := 262) C dL_told_258 (by decide) ?_
  refine pv_istore_n (q := 263) C dL_told_262 rfl rfl (Nat.le_of_ble_eq_true rfl) rfl ?_
  exact PV_widen (by omega) (by omega) (PV_le (kk D11 P11 (RI_W hR11 (by omega))) ⟨Or.inr rfl, Or.inr rfl, Or.inr rfl, Or.inr rfl, Or.inl rfl, Or.inl rfl, Or.inl rfl, Or.inl rfl, trivial⟩)
set_option maxRecDepth 100000 in
set_option maxHeartbeats 4000000 in
theorem tp_5_1_1 {M : DT} {x k n0 : Nat} (hx : x < 2 ^ 31) (hk : k < 6) (hn0 : M 6 9 = nI n0) (hn8 : n0 ≤ 9 * k) (hk0 : k = 0) (hE7 : (x / 2 ^ k) % 7 = 5) : ∃ (E : DT) (n : Nat), E 6 9 = nI n ∧ n ≤ 9 * (k + 1) ∧ (∀ V, JM M V → JM E V) ∧ ∀ {l : Launch} {K : KT} {X : XT} {w0 : Cond} {Q : State → Prop} {W cb : Nat} (_ : LK l K X cL_told RL w0 8 (some .long) ({ frames := 9, cells := 150, slots := 900, locals := 324 } : Room)) (_ : W + 20000 < 2 ^ 29) (_ : cb + 22 ≤ 150) (_ : ∀ (D : DT) (P : PT), RI D P E (W + 1400) → PV K X Q (cb + 22) (6 * (cb + 22)) 263 [some (.ref (X.2.2 0)), some (.int (nI x)), some (.int 1), some (.int (nI k)), none, none, none, none] [] D P) (D : DT) (P : PT) (_ : RI D P M W), PV K X Q (cb) (6 * cb) 28 [some (.ref (X.2.2 0)), some (.int (nI x)), some (.int 1), some (.int (nI k)), none, none, none, none] [] D P := by
  have hY : x / 2 ^ k < 2 ^ 31 := Nat.lt_of_le_of_lt (Nat.div_le_self _ _) hx
  obtain ⟨n1, a1, b1, hn1⟩ := numE_len (m := (1 + (x / 2 ^ k) % 5)) (M := (ap1 M 116)) (ap1_len hn0)
  refine ⟨(numE (1 + (x / 2 ^ k) % 5) (ap1 M 116)), n1, hn1, by omega, fun V hj => (JM_num (JM_ap1 hj)), ?_⟩
  intro l K X w0 Q W cb L hW hc kk D P h
  obtain ⟨hKl, hKR, C, Z, hNC, hfl⟩ := id L
  refine pv_iload_n (q := 29) C dL_told_28 rfl rfl rfl ?_
  refine pv_iload_n (q := 30) C dL_told_29 rfl rfl rfl ?_
  refine pv_ishr (q := 31) C dL_told_30 rfl ?_
  rw [shr_N hx (by omega)]
  refine pv_istore (q := 33) C dL_told_31 rfl (Nat.le_of_ble_eq_true rfl) rfl ?_
  refine pv_iload (q := 35) C dL_told_33 rfl rfl ?_
  refine pv_bipush (q := 37) (v := 7) C dL_told_35 rfl (by decide) ?_
  refine pv_iremN (q := 38) (a := (x / 2 ^ k)) (b := 7) C rfl rfl (by omega) (by decide) (by decide) dL_told_37 rfl ?_
  refine pv_istore (q := 40) C dL_told_38 rfl (Nat.le_of_ble_eq_true rfl) rfl ?_
  refine pv_iload (q := 42) C dL_told_40 rfl rfl ?_
  refine pv_bipush (q := 44) (v := 7) C dL_told_42 rfl (by decide) ?_
  refine pv_idivN (q := 45) (a := (x / 2 ^ k)) (b := 7) C rfl rfl (by omega) (by decide) (by decide) dL_told_44 rfl ?_
  refine pv_bipush (q := 47) (v := 8) C dL_told_45 rfl (by decide) ?_
  refine pv_iremN (q := 48) (a := ((x / 2 ^ k) / 7)) (b := 8) C rfl rfl (by omega) (by decide) (by decide) dL_told_47 rfl ?_
  refine pv_istore (q := 50) C dL_told_48 rfl (Nat.le_of_ble_eq_true rfl) rfl ?_
  refine pv_iload (q := 52) C dL_told_50 rfl rfl ?_
  refine pv_iconst (q := 53) (v := 2) C dL_told_52 rfl (by decide) ?_
  refine pv_icmp_ge (q := 56) (tgt := 61) C dL_told_53 (by decide) rfl (fun _ => ?_) (fun c53_1 => False.elim (c53_1 (by rw [hE7]; decide)))
  refine pv_iload (q := 63) C dL_told_61 rfl rfl ?_
  refine pv_iconst (q := 64) (v := 2) C dL_told_63 rfl (by decide) ?_
  refine pv_icmp_ne (q := 67) (tgt := 72) C dL_told_64 (by decide) rfl (fun _ => ?_) (fun c64_2 => False.elim (absurd c64_2 (by rw [hE7]; decide)))
  refine pv_iload (q := 74) C dL_told_72 rfl rfl ?_
  refine pv_iconst (q := 75) (v := 3) C dL_told_74 rfl (by decide) ?_
  refine pv_icmp_ne (q := 78) (tgt := 83) C dL_told_75 (by decide) rfl (fun _ => ?_) (fun c75_3 => False.elim (absurd c75_3 (by rw [hE7]; decide)))
  refine pv_iload (q := 85) C dL_told_83 rfl rfl ?_
  refine pv_iconst (q := 86) (v := 4) C dL_told_85 rfl (by decide) ?_
  refine pv_icmp_ne (q := 89) (tgt := 94) C dL_told_86 (by decide) rfl (fun _ => ?_) (fun c86_4 => False.elim (absurd c86_4 (by rw [hE7]; decide)))
  refine pv_iload (q := 96) C dL_told_94 rfl rfl ?_
  refine pv_iconst (q := 97) (v := 5) C dL_told_96 rfl (by decide) ?_
  refine pv_icmp_ne (q := 100) (tgt := 105) C dL_told_97 (by decide) rfl (fun c97_5 => False.elim (c97_5 (by rw [hE7]; decide))) (fun _ => ?_)
  refine pv_bipush (q := 102) (v := 116) C dL_told_100 rfl (by decide) ?_
  refine pv_goto (tgt := 114) C dL_told_102 (by decide) ?_
  refine pv_istore (q := 116) C dL_told_114 rfl (Nat.le_of_ble_eq_true rfl) rfl ?_
  refine pv_iload_n (q := 117) C dL_told_116 rfl rfl rfl ?_
  refine pv_if_eq (q := 120) (tgt := 131) C dL_told_117 (by decide) rfl (fun _ => ?_) (fun c117_6 => False.elim (c117_6 (by rw [hk0]; rfl)))
  refine pv_aload_n (q := 132) C dL_told_131 rfl rfl rfl ?_
  refine pv_iload (q := 134) C dL_told_132 rfl rfl ?_
  refine pv_callLl (q := 137) (rest := []) C Z hNC hKl (c_L_append l X D P hfl M (W) h (by omega) n0 (by omega) hn0 116) tw_768 mw_L_append ⟨rfl, rfl⟩ (by rw [hKR]; exact ⟨Nat.le_of_ble_eq_true rfl, Nat.le_of_ble_eq_true rfl⟩) (by rw [hKR]; constructor <;> (dsimp only; omega)) rfl rfl rfl (Nat.le_of_ble_eq_true rfl) dL_told_134 rfl (fun r7 D7 P7 q7 => ?_)
  obtain ⟨e7, hR7⟩ := QE.ok q7 (kApp_0 (by decide) (by omega))
  obtain rfl : r7 = ((nI n0 + 1).toInt64) := e7.trans (rfl)
  rw [ap1_n hn0 (by omega)] at hR7
  refine pv_lconst (q := 138) (v := 0) C dL_told_137 rfl (by decide) ?_
  refine pv_lcmp (q := 139) C dL_told_138 rfl ?_
  refine pv_if_le (q := 142) (tgt := 185) C dL_told_139 (by decide) rfl (fun c139_8 => False.elim (Int64.not_le.mpr (ap_pos (by omega)) ((lg_cmp_le _ _).mp c139_8))) (fun _ => ?_)
  refine pv_aload_n (q := 143) C dL_told_142 rfl rfl rfl ?_
  refine pv_iload (q := 145) C dL_told_143 rfl rfl ?_
  refine pv_iconst (q := 146) (v := 5) C dL_told_145 rfl (by decide) ?_
  refine pv_icmp_ge (q := 149) (tgt := 154) C dL_told_146 (by decide) rfl (fun _ => ?_) (fun c146_9 => False.elim (c146_9 (by rw [hE7]; decide)))
  refine pv_iload (q := 156) C dL_told_154 rfl rfl ?_
  refine pv_iconst (q := 157) (v := 5) C dL_told_156 rfl (by decide) ?_
  refine pv_icmp_ne (q := 160) (tgt := 169) C dL_told_157 (by decide) rfl (fun c157_10 => False.elim (c157_10 (by rw [hE7]; decide))) (fun _ => ?_)
  refine pv_iconst (q := 161) (v := 1) C dL_told_160 rfl (by decide) ?_
  refine pv_iload (q := 163) C dL_told_161 rfl rfl ?_
  refine pv_iconst (q := 164) (v := 5) C dL_told_163 rfl (by decide) ?_
  refine pv_iremN (q := 165) (a := (x / 2 ^ k)) (b := 5) C rfl rfl (by omega) (by decide) (by decide) dL_told_164 rfl ?_
  refine pv_iaddN (q := 166) (a := 1) (b := ((x / 2 ^ k) % 5)) C rfl rfl dL_told_165 rfl ?_
  refine pv_goto (tgt := 175) C dL_told_166 (by decide) ?_
  refine pv_callMi (q := 178) (rest := []) C Z hNC hKl (c_L_numP l X D7 P7 hfl (ap1 M 116) (W + 130) hR7 (by omega) (1 + (x / 2 ^ k) % 5) (n0 + 1) ((by omega)) (ap1_len hn0) (by omega)) tw_993 mm_L_number ⟨rfl, rfl⟩ (by rw [hKR]; exact ⟨Nat.le_of_ble_eq_true rfl, Nat.le_of_ble_eq_true rfl⟩) (by rw [hKR]; constructor <;> (dsimp only; omega)) rfl rfl rfl (Nat.le_of_ble_eq_true rfl) dL_told_175 rfl (fun r11 D11 P11 q11 => ?_)
  obtain ⟨rfl, hR11⟩ := q11
  refine pv_if_eq (q := 181) (tgt := 185) C dL_told_178 (by decide) rfl (fun c178_12 => absurd c178_12 (by decide)) (fun _ => ?_)
  refine pv_iconst (q := 182) (v := 1) C dL_told_181 rfl (by decide) ?_
  refine pv_goto (tgt := 186) C dL_told_182 (by decide) ?_
  refine pv_istore_n (q := 187) C dL_told_186 rfl rfl (Nat.le_of_ble_eq_true rfl) rfl ?_
  refine pv_iload_n (q := 188) C dL_told_187 rfl rfl rfl ?_
  refine pv_if_eq (q := 191) (tgt := 261) C dL_told_188 (by decide) rfl (fun c188_13 => absurd c188_13 (by decide)) (fun _ => ?_)
  refine pv_iload (q := 193) C dL_told_191 rfl rfl ?_
  refine pv_iconst (q := 194) (v := 2) C dL_told_193 rfl (by decide) ?_
  refine pv_icmp_ne (q := 197) (tgt := 208) C dL_told_194 (by decide) rfl (fun _ => ?_) (fun c194_14 => False.elim (absurd c194_14 (by rw [hE7]; decide)))
  refine pv_iload (q := 210) C dL_told_208 rfl rfl ?_
  refine pv_iconst (q := 211) (v := 1) C dL_told_210 rfl (by decide) ?_
  refine pv_icmp_le (q := 214) (tgt := 220) C dL_told_211 (by decide) rfl (fun c211_15 => False.elim (absurd c211_15 (by rw [hE7]; decide))) (fun _ => ?_)
  refine pv_iload (q := 216) C dL_told_214 rfl rfl ?_
  refine pv_iconst (q := 217) (v := 3) C dL_told_216 rfl (by decide) ?_
  refine pv_icmp_ne (q := 220) (tgt := 236) C dL_told_217 (by decide) rfl (fun _ => ?_) (fun c217_16 => False.elim (absurd c217_16 (by rw [hE7]; decide)))
  refine pv_iload (q := 238) C dL_told_236 rfl rfl ?_
  refine pv_iconst (q := 239) (v := 2) C dL_told_238 rfl (by decide) ?_
  refine pv_icmp_gt (q := 242) (tgt := 257) C dL_told_239 (by decide) rfl (fun _ => ?_) (fun c239_17 => False.elim (c239_17 (by rw [hE7]; decide)))
  refine pv_iconst (q := 258) (v := 1) C dL_told_257 rfl (by decide) ?_
  refine pv_goto (tgt := 262) C dL_told_258 (by decide) ?_
  refine pv_istore_n (q := 263) C dL_told_262 rfl rfl (Nat.le_of_ble_eq_true rfl) rfl ?_
  exact PV_widen (by omega) (by omega) (PV_le (kk D11 P11 (RI_W hR11 (by omega))) ⟨Or.inr rfl, Or.inr rfl, Or.inr rfl, Or.inr rfl, Or.inl rfl, Or.inl rfl, Or.inl rfl, Or.inl rfl, trivial⟩)
set_option maxRecDepth 100000 in
set_option maxHeartbeats 4000000 in
theorem tp_5_0_1 {M : DT} {x k n0 : Nat} (hx : x < 2 ^ 31) (hk : k < 6) (hn0 : M 6 9 = nI n0) (hn8 : n0 ≤ 9 * k) (hk0 : ¬ k = 0) (hE7 : (x / 2 ^ k) % 7 = 5) : ∃ (E : DT) (n : Nat), E 6 9 = nI n ∧ n ≤ 9 * (k + 1) ∧ (∀ V, JM M V → JM E V) ∧ ∀ {l : Launch} {K : KT} {X : XT} {w0 : Cond} {Q : State → Prop} {W cb : Nat} (_ : LK l K X cL_told RL w0 8 (some .long) ({ frames := 9, cells := 150, slots := 900, locals := 324 } : Room)) (_ : W + 20000 < 2 ^ 29) (_ : cb + 22 ≤ 150) (_ : ∀ (D : DT) (P : PT), RI D P E (W + 1400) → PV K X Q (cb + 22) (6 * (cb + 22)) 263 [some (.ref (X.2.2 0)), some (.int (nI x)), some (.int 1), some (.int (nI k)), none, none, none, none] [] D P) (D : DT) (P : PT) (_ : RI D P M W), PV K X Q (cb) (6 * cb) 28 [some (.ref (X.2.2 0)), some (.int (nI x)), some (.int 1), some (.int (nI k)), none, none, none, none] [] D P := by
  have hY : x / 2 ^ k < 2 ^ 31 := Nat.lt_of_le_of_lt (Nat.div_le_self _ _) hx
  obtain ⟨n1, a1, b1, hn1⟩ := numE_len (m := (1 + (x / 2 ^ k) % 5)) (M := (ap1 (ap1 M 59) 116)) (ap1_len (ap1_len hn0))
  refine ⟨(numE (1 + (x / 2 ^ k) % 5) (ap1 (ap1 M 59) 116)), n1, hn1, by omega, fun V hj => (JM_num (JM_ap1 (JM_ap1 hj))), ?_⟩
  intro l K X w0 Q W cb L hW hc kk D P h
  obtain ⟨hKl, hKR, C, Z, hNC, hfl⟩ := id L
  refine pv_iload_n (q := 29) C dL_told_28 rfl rfl rfl ?_
  refine pv_iload_n (q := 30) C dL_told_29 rfl rfl rfl ?_
  refine pv_ishr (q := 31) C dL_told_30 rfl ?_
  rw [shr_N hx (by omega)]
  refine pv_istore (q := 33) C dL_told_31 rfl (Nat.le_of_ble_eq_true rfl) rfl ?_
  refine pv_iload (q := 35) C dL_told_33 rfl rfl ?_
  refine pv_bipush (q := 37) (v := 7) C dL_told_35 rfl (by decide) ?_
  refine pv_iremN (q := 38) (a := (x / 2 ^ k)) (b := 7) C rfl rfl (by omega) (by decide) (by decide) dL_told_37 rfl ?_
  refine pv_istore (q := 40) C dL_told_38 rfl (Nat.le_of_ble_eq_true rfl) rfl ?_
  refine pv_iload (q := 42) C dL_told_40 rfl rfl ?_
  refine pv_bipush (q := 44) (v := 7) C dL_told_42 rfl (by decide) ?_
  refine pv_idivN (q := 45) (a := (x / 2 ^ k)) (b := 7) C rfl rfl (by omega) (by decide) (by decide) dL_told_44 rfl ?_
  refine pv_bipush (q := 47) (v := 8) C dL_told_45 rfl (by decide) ?_
  refine pv_iremN (q := 48) (a := ((x / 2 ^ k) / 7)) (b := 8) C rfl rfl (by omega) (by decide) (by decide) dL_told_47 rfl ?_
  refine pv_istore (q := 50) C dL_told_48 rfl (Nat.le_of_ble_eq_true rfl) rfl ?_
  refine pv_iload (q := 52) C dL_told_50 rfl rfl ?_
  refine pv_iconst (q := 53) (v := 2) C dL_told_52 rfl (by decide) ?_
  refine pv_icmp_ge (q := 56) (tgt := 61) C dL_told_53 (by decide) rfl (fun _ => ?_) (fun c53_1 => False.elim (c53_1 (by rw [hE7]; decide)))
  refine pv_iload (q := 63) C dL_told_61 rfl rfl ?_
  refine pv_iconst (q := 64) (v := 2) C dL_told_63 rfl (by decide) ?_
  refine pv_icmp_ne (q := 67) (tgt := 72) C dL_told_64 (by decide) rfl (fun _ => ?_) (fun c64_2 => False.elim (absurd c64_2 (by rw [hE7]; decide)))
  refine pv_iload (q := 74) C dL_told_72 rfl rfl ?_
  refine pv_iconst (q := 75) (v := 3) C dL_told_74 rfl (by decide) ?_
  refine pv_icmp_ne (q := 78) (tgt := 83) C dL_told_75 (by decide) rfl (fun _ => ?_) (fun c75_3 => False.elim (absurd c75_3 (by rw [hE7]; decide)))
  refine pv_iload (q := 85) C dL_told_83 rfl rfl ?_
  refine pv_iconst (q := 86) (v := 4) C dL_told_85 rfl (by decide) ?_
  refine pv_icmp_ne (q := 89) (tgt := 94) C dL_told_86 (by decide) rfl (fun _ => ?_) (fun c86_4 => False.elim (absurd c86_4 (by rw [hE7]; decide)))
  refine pv_iload (q := 96) C dL_told_94 rfl rfl ?_
  refine pv_iconst (q := 97) (v := 5) C dL_told_96 rfl (by decide) ?_
  refine pv_icmp_ne (q := 100) (tgt := 105) C dL_told_97 (by decide) rfl (fun c97_5 => False.elim (c97_5 (by rw [hE7]; decide))) (fun _ => ?_)
  refine pv_bipush (q := 102) (v := 116) C dL_told_100 rfl (by decide) ?_
  refine pv_goto (tgt := 114) C dL_told_102 (by decide) ?_
  refine pv_istore (q := 116) C dL_told_114 rfl (Nat.le_of_ble_eq_true rfl) rfl ?_
  refine pv_iload_n (q := 117) C dL_told_116 rfl rfl rfl ?_
  refine pv_if_eq (q := 120) (tgt := 131) C dL_told_117 (by decide) rfl (fun c117_6 => False.elim (absurd c117_6 (nI_ne0 (by omega) (by omega)))) (fun _ => ?_)
  refine pv_aload_n (q := 121) C dL_told_120 rfl rfl rfl ?_
  refine pv_bipush (q := 123) (v := 59) C dL_told_121 rfl (by decide) ?_
  refine pv_callLl (q := 126) (rest := []) C Z hNC hKl (c_L_append l X D P hfl M (W) h (by omega) n0 (by omega) hn0 59) tw_768 mw_L_append ⟨rfl, rfl⟩ (by rw [hKR]; exact ⟨Nat.le_of_ble_eq_true rfl, Nat.le_of_ble_eq_true rfl⟩) (by rw [hKR]; constructor <;> (dsimp only; omega)) rfl rfl rfl (Nat.le_of_ble_eq_true rfl) dL_told_123 rfl (fun r7 D7 P7 q7 => ?_)
  obtain ⟨e7, hR7⟩ := QE.ok q7 (kApp_0 (by decide) (by omega))
  obtain rfl : r7 = ((nI n0 + 1).toInt64) := e7.trans (rfl)
  rw [ap1_n hn0 (by omega)] at hR7
  refine pv_lconst (q := 127) (v := 0) C dL_told_126 rfl (by decide) ?_
  refine pv_lcmp (q := 128) C dL_told_127 rfl ?_
  refine pv_if_le (q := 131) (tgt := 185) C dL_told_128 (by decide) rfl (fun c128_8 => False.elim (Int64.not_le.mpr (ap_pos (by omega)) ((lg_cmp_le _ _).mp c128_8))) (fun _ => ?_)
  refine pv_aload_n (q := 132) C dL_told_131 rfl rfl rfl ?_
  refine pv_iload (q := 134) C dL_told_132 rfl rfl ?_
  refine pv_callLl (q := 137) (rest := []) C Z hNC hKl (c_L_append l X D7 P7 hfl (ap1 M 59) (W + 130) hR7 (by omega) (n0 + 1) (by omega) (ap1_len hn0) 116) tw_768 mw_L_append ⟨rfl, rfl⟩ (by rw [hKR]; exact ⟨Nat.le_of_ble_eq_true rfl, Nat.le_of_ble_eq_true rfl⟩) (by rw [hKR]; constructor <;> (dsimp only; omega)) rfl rfl rfl (Nat.le_of_ble_eq_true rfl) dL_told_134 rfl (fun r9 D9 P9 q9 => ?_)
  obtain ⟨e9, hR9⟩ := QE.ok q9 (kApp_0 (by decide) (by omega))
  obtain rfl : r9 = ((nI (n0 + 1) + 1).toInt64) := e9.trans (rfl)
  rw [ap1_n (ap1_len hn0) (by omega)] at hR9
  refine pv_lconst (q := 138) (v := 0) C dL_told_137 rfl (by decide) ?_
  refine pv_lcmp (q := 139) C dL_told_138 rfl ?_
  refine pv_if_le (q := 142) (tgt := 185) C dL_told_139 (by decide) rfl (fun c139_10 => False.elim (Int64.not_le.mpr (ap_pos (by omega)) ((lg_cmp_le _ _).mp c139_10))) (fun _ => ?_)
  refine pv_aload_n (q := 143) C dL_told_142 rfl rfl rfl ?_
  refine pv_iload (q := 145) C dL_told_143 rfl rfl ?_
  refine pv_iconst (q := 146) (v := 5) C dL_told_145 rfl (by decide) ?_
  refine pv_icmp_ge (q := 149) (tgt := 154) C dL_told_146 (by decide) rfl (fun _ => ?_) (fun c146_11 => False.elim (c146_11 (by rw [hE7]; decide)))
  refine pv_iload (q := 156) C dL_told_154 rfl rfl ?_
  refine pv_iconst (q := 157) (v := 5) C dL_told_156 rfl (by decide) ?_
  refine pv_icmp_ne (q := 160) (tgt := 169) C dL_told_157 (by decide) rfl (fun c157_12 => False.elim (c157_12 (by rw [hE7]; decide))) (fun _ => ?_)
  refine pv_iconst (q := 161) (v := 1) C dL_told_160 rfl (by decide) ?_
  refine pv_iload (q := 163) C dL_told_161 rfl rfl ?_
  refine pv_iconst (q := 164) (v := 5) C dL_told_163 rfl (by decide) ?_
  refine pv_iremN (q := 165) (a := (x / 2 ^ k)) (b := 5) C rfl rfl (by omega) (by decide) (by decide) dL_told_164 rfl ?_
  refine pv_iaddN (q := 166) (a := 1) (b := ((x / 2 ^ k) % 5)) C rfl rfl dL_told_165 rfl ?_
  refine pv_goto (tgt := 175) C dL_told_166 (by decide) ?_
  refine pv_callMi (q := 178) (rest := []) C Z hNC hKl (c_L_numP l X D9 P9 hfl (ap1 (ap1 M 59) 116) (W + 130 + 130) hR9 (by omega) (1 + (x / 2 ^ k) % 5) ((n0 + 1) + 1) ((by omega)) (ap1_len (ap1_len hn0)) (by omega)) tw_993 mm_L_number ⟨rfl, rfl⟩ (by rw [hKR]; exact ⟨Nat.le_of_ble_eq_true rfl, Nat.le_of_ble_eq_true rfl⟩) (by rw [hKR]; constructor <;> (dsimp only; omega)) rfl rfl rfl (Nat.le_of_ble_eq_true rfl) dL_told_175 rfl (fun r13 D13 P13 q13 => ?_)
  obtain ⟨rfl, hR13⟩ := q13
  refine pv_if_eq (q := 181) (tgt := 185) C dL_told_178 (by decide) rfl (fun c178_14 => absurd c178_14 (by decide)) (fun _ => ?_)
  refine pv_iconst (q := 182) (v := 1) C dL_told_181 rfl (by decide) ?_
  refine pv_goto (tgt := 186) C dL_told_182 (by decide) ?_
  refine pv_istore_n (q := 187) C dL_told_186 rfl rfl (Nat.le_of_ble_eq_true rfl) rfl ?_
  refine pv_iload_n (q := 188) C dL_told_187 rfl rfl rfl ?_
  refine pv_if_eq (q := 191) (tgt := 261) C dL_told_188 (by decide) rfl (fun c188_15 => absurd c188_15 (by decide)) (fun _ => ?_)
  refine pv_iload (q := 193) C dL_told_191 rfl rfl ?_
  refine pv_iconst (q := 194) (v := 2) C dL_told_193 rfl (by decide) ?_
  refine pv_icmp_ne (q := 197) (tgt := 208) C dL_told_194 (by decide) rfl (fun _ => ?_) (fun c194_16 => False.elim (absurd c194_16 (by rw [hE7]; decide)))
  refine pv_iload (q := 210) C dL_told_208 rfl rfl ?_
  refine pv_iconst (q := 211) (v := 1) C dL_told_210 rfl (by decide) ?_
  refine pv_icmp_le (q := 214) (tgt := 220) C dL_told_211 (by decide) rfl (fun c211_17 => False.elim (absurd c211_17 (by rw [hE7]; decide))) (fun _ => ?_)
  refine pv_iload (q := 216) C dL_told_214 rfl rfl ?_
  refine pv_iconst (q := 217) (v := 3) C dL_told_216 rfl (by decide) ?_
  refine pv_icmp_ne (q := 220) (tgt := 236) C dL_told_217 (by decide) rfl (fun _ => ?_) (fun c217_18 => False.elim (absurd c217_18 (by rw [hE7]; decide)))
  refine pv_iload (q := 238) C dL_told_236 rfl rfl ?_
  refine pv_iconst (q := 239) (v := 2) C dL_told_238 rfl (by decide) ?_
  refine pv_icmp_gt (q := 242) (tgt := 257) C dL_told_239 (by decide) rfl (fun _ => ?_) (fun c239_19 => False.elim (c239_19 (by rw [hE7]; decide)))
  refine pv_iconst (q := 258) (v := 1) C dL_told_257 rfl (by decide) ?_
  refine pv_goto (tgt := 262) C dL_told_258 (by decide) ?_
  refine pv_istore_n (q := 263) C dL_told_262 rfl rfl (Nat.le_of_ble_eq_true rfl) rfl ?_
  exact PV_widen (by omega) (by omega) (PV_le (kk D13 P13 (RI_W hR13 (by omega))) ⟨Or.inr rfl, Or.inr rfl, Or.inr rfl, Or.inr rfl, Or.inl rfl, Or.inl rfl, Or.inl rfl, Or.inl rfl, trivial⟩)
set_option maxRecDepth 100000 in
set_option maxHeartbeats 4000000 in
theorem tp_6_1_1 {M : DT} {x k n0 : Nat} (hx : x < 2 ^ 31) (hk : k < 6) (hn0 : M 6 9 = nI n0) (hn8 : n0 ≤ 9 * k) (hk0 : k = 0) (hE7 : (x / 2 ^ k) % 7 = 6) : ∃ (E : DT) (n : Nat), E 6 9 = nI n ∧ n ≤ 9 * (k + 1) ∧ (∀ V, JM M V → JM E V) ∧ ∀ {l : Launch} {K : KT} {X : XT} {w0 : Cond} {Q : State → Prop} {W cb : Nat} (_ : LK l K X cL_told RL w0 8 (some .long) ({ frames := 9, cells := 150, slots := 900, locals := 324 } : Room)) (_ : W + 20000 < 2 ^ 29) (_ : cb + 22 ≤ 150) (_ : ∀ (D : DT) (P : PT), RI D P E (W + 1400) → PV K X Q (cb + 22) (6 * (cb + 22)) 263 [some (.ref (X.2.2 0)), some (.int (nI x)), some (.int 1), some (.int (nI k)), none, none, none, none] [] D P) (D : DT) (P : PT) (_ : RI D P M W), PV K X Q (cb) (6 * cb) 28 [some (.ref (X.2.2 0)), some (.int (nI x)), some (.int 1), some (.int (nI k)), none, none, none, none] [] D P := by
  have hY : x / 2 ^ k < 2 ^ 31 := Nat.lt_of_le_of_lt (Nat.div_le_self _ _) hx
  obtain ⟨n1, a1, b1, hn1⟩ := numE_len (m := ((x / 2 ^ k) / 3 % 3)) (M := (ap1 M (nI (122 - (((x / 2 ^ k) % 2) * 3))))) (ap1_len hn0)
  refine ⟨(numE ((x / 2 ^ k) / 3 % 3) (ap1 M (nI (122 - (((x / 2 ^ k) % 2) * 3))))), n1, hn1, by omega, fun V hj => (JM_num (JM_ap1 hj)), ?_⟩
  intro l K X w0 Q W cb L hW hc kk D P h
  obtain ⟨hKl, hKR, C, Z, hNC, hfl⟩ := id L
  refine pv_iload_n (q := 29) C dL_told_28 rfl rfl rfl ?_
  refine pv_iload_n (q := 30) C dL_told_29 rfl rfl rfl ?_
  refine pv_ishr (q := 31) C dL_told_30 rfl ?_
  rw [shr_N hx (by omega)]
  refine pv_istore (q := 33) C dL_told_31 rfl (Nat.le_of_ble_eq_true rfl) rfl ?_
  refine pv_iload (q := 35) C dL_told_33 rfl rfl ?_
  refine pv_bipush (q := 37) (v := 7) C dL_told_35 rfl (by decide) ?_
  refine pv_iremN (q := 38) (a := (x / 2 ^ k)) (b := 7) C rfl rfl (by omega) (by decide) (by decide) dL_told_37 rfl ?_
  refine pv_istore (q := 40) C dL_told_38 rfl (Nat.le_of_ble_eq_true rfl) rfl ?_
  refine pv_iload (q := 42) C dL_told_40 rfl rfl ?_
  refine pv_bipush (q := 44) (v := 7) C dL_told_42 rfl (by decide) ?_
  refine pv_idivN (q := 45) (a := (x / 2 ^ k)) (b := 7) C rfl rfl (by omega) (by decide) (by decide) dL_told_44 rfl ?_
  refine pv_bipush (q := 47) (v := 8) C dL_told_45 rfl (by decide) ?_
  refine pv_iremN (q := 48) (a := ((x / 2 ^ k) / 7)) (b := 8) C rfl rfl (by omega) (by decide) (by decide) dL_told_47 rfl ?_
  refine pv_istore (q := 50) C dL_told_48 rfl (Nat.le_of_ble_eq_true rfl) rfl ?_
  refine pv_iload (q := 52) C dL_told_50 rfl rfl ?_
  refine pv_iconst (q := 53) (v := 2) C dL_told_52 rfl (by decide) ?_
  refine pv_icmp_ge (q := 56) (tgt := 61) C dL_told_53 (by decide) rfl (fun _ => ?_) (fun c53_1 => False.elim (c53_1 (by rw [hE7]; decide)))
  refine pv_iload (q := 63) C dL_told_61 rfl rfl ?_
  refine pv_iconst (q := 64) (v := 2) C dL_told_63 rfl (by decide) ?_
  refine pv_icmp_ne (q := 67) (tgt := 72) C dL_told_64 (by decide) rfl (fun _ => ?_) (fun c64_2 => False.elim (absurd c64_2 (by rw [hE7]; decide)))
  refine pv_iload (q := 74) C dL_told_72 rfl rfl ?_
  refine pv_iconst (q := 75) (v := 3) C dL_told_74 rfl (by decide) ?_
  refine pv_icmp_ne (q := 78) (tgt := 83) C dL_told_75 (by decide) rfl (fun _ => ?_) (fun c75_3 => False.elim (absurd c75_3 (by rw [hE7]; decide)))
  refine pv_iload (q := 85) C dL_told_83 rfl rfl ?_
  refine pv_iconst (q := 86) (v := 4) C dL_told_85 rfl (by decide) ?_
  refine pv_icmp_ne (q := 89) (tgt := 94) C dL_told_86 (by decide) rfl (fun _ => ?_) (fun c86_4 => False.elim (absurd c86_4 (by rw [hE7]; decide)))
  refine pv_iload (q := 96) C dL_told_94 rfl rfl ?_
  refine pv_iconst (q := 97) (v := 5) C dL_told_96 rfl (by decide) ?_
  refine pv_icmp_ne (q := 100) (tgt := 105) C dL_told_97 (by decide) rfl (fun _ => ?_) (fun c97_5 => False.elim (absurd c97_5 (by rw [hE7]; decide)))
  refine pv_bipush (q := 107) (v := 122) C dL_told_105 rfl (by decide) ?_
  refine pv_iload (q := 109) C dL_told_107 rfl rfl ?_
  refine pv_iconst (q := 110) (v := 2) C dL_told_109 rfl (by decide) ?_
  refine pv_iremN (q := 111) (a := (x / 2 ^ k)) (b := 2) C rfl rfl (by omega) (by decide) (by decide) dL_told_110 rfl ?_
  refine pv_iconst (q := 112) (v := 3) C dL_told_111 rfl (by decide) ?_
  refine pv_imulN (q := 113) (a := ((x / 2 ^ k) % 2)) (b := 3) C rfl rfl dL_told_112 rfl ?_
  refine pv_isubN (q := 114) (a := 122) (b := (((x / 2 ^ k) % 2) * 3)) C rfl rfl (by omega) dL_told_113 rfl ?_
  refine pv_istore (q := 116) C dL_told_114 rfl (Nat.le_of_ble_eq_true rfl) rfl ?_
  refine pv_iload_n (q := 117) C dL_told_116 rfl rfl rfl ?_
  refine pv_if_eq (q := 120) (tgt := 131) C dL_told_117 (by decide) rfl (fun _ => ?_) (fun c117_6 => False.elim (c117_6 (by rw [hk0]; rfl)))
  refine pv_aload_n (q := 132) C dL_told_131 rfl rfl rfl ?_
  refine pv_iload (q := 134) C dL_told_132 rfl rfl ?_
  refine pv_callLl (q := 137) (rest := []) C Z hNC hKl (c_L_append l X D P hfl M (W) h (by omega) n0 (by omega) hn0 (nI (122 - (((x / 2 ^ k) % 2) * 3)))) tw_768 mw_L_append ⟨rfl, rfl⟩ (by rw [hKR]; exact ⟨Nat.le_of_ble_eq_true rfl, Nat.le_of_ble_eq_true rfl⟩) (by rw [hKR]; constructor <;> (dsimp only; omega)) rfl rfl rfl (Nat.le_of_ble_eq_true rfl) dL_told_134 rfl (fun r7 D7 P7 q7 => ?_)
  obtain ⟨e7, hR7⟩ := QE.ok q7 (kApp_0 (rg_cN (by omega) (by omega)) (by omega))
  obtain rfl : r7 = ((nI n0 + 1).toInt64) := e7.trans (rfl)
  rw [ap1_n hn0 (by omega)] at hR7
  refine pv_lconst (q := 138) (v := 0) C dL_told_137 rfl (by decide) ?_
  refine pv_lcmp (q := 139) C dL_told_138 rfl ?_
  refine pv_if_le (q := 142) (tgt := 185) C dL_told_139 (by decide) rfl (fun c139_8 => False.elim (Int64.not_le.mpr (ap_pos (by omega)) ((lg_cmp_le _ _).mp c139_8))) (fun _ => ?_)
  refine pv_aload_n (q := 143) C dL_told_142 rfl rfl rfl ?_
  refine pv_iload (q := 145) C dL_told_143 rfl rfl ?_
  refine pv_iconst (q := 146) (v := 5) C dL_told_145 rfl (by decide) ?_
  refine pv_icmp_ge (q := 149) (tgt := 154) C dL_told_146 (by decide) rfl (fun _ => ?_) (fun c146_9 => False.elim (c146_9 (by rw [hE7]; decide)))
  refine pv_iload (q := 156) C dL_told_154 rfl rfl ?_
  refine pv_iconst (q := 157) (v := 5) C dL_told_156 rfl (by decide) ?_
  refine pv_icmp_ne (q := 160) (tgt := 169) C dL_told_157 (by decide) rfl (fun _ => ?_) (fun c157_10 => False.elim (absurd c157_10 (by rw [hE7]; decide)))
  refine pv_iload (q := 171) C dL_told_169 rfl rfl ?_
  refine pv_iconst (q := 172) (v := 3) C dL_told_171 rfl (by decide) ?_
  refine pv_idivN (q := 173) (a := (x / 2 ^ k)) (b := 3) C rfl rfl (by omega) (by decide) (by decide) dL_told_172 rfl ?_
  refine pv_iconst (q := 174) (v := 3) C dL_told_173 rfl (by decide) ?_
  refine pv_iremN (q := 175) (a := ((x / 2 ^ k) / 3)) (b := 3) C rfl rfl (by omega) (by decide) (by decide) dL_told_174 rfl ?_
  refine pv_callMi (q := 178) (rest := []) C Z hNC hKl (c_L_numP l X D7 P7 hfl (ap1 M (nI (122 - (((x / 2 ^ k) % 2) * 3)))) (W + 130) hR7 (by omega) ((x / 2 ^ k) / 3 % 3) (n0 + 1) ((by omega)) (ap1_len hn0) (by omega)) tw_993 mm_L_number ⟨rfl, rfl⟩ (by rw [hKR]; exact ⟨Nat.le_of_ble_eq_true rfl, Nat.le_of_ble_eq_true rfl⟩) (by rw [hKR]; constructor <;> (dsimp only; omega)) rfl rfl rfl (Nat.le_of_ble_eq_true rfl) dL_told_175 rfl (fun r11 D11 P11 q11 => ?_)
  obtain ⟨rfl, hR11⟩ := q11
  refine pv_if_eq (q := 181) (tgt := 185) C dL_told_178 (by decide) rfl (fun c178_12 => absurd c178_12 (by decide)) (fun _ => ?_)
  refine pv_iconst (q := 182) (v := 1) C dL_told_181 rfl (by decide) ?_
  refine pv_goto (tgt := 186) C dL_told_182 (by decide) ?_
  refine pv_istore_n (q := 187) C dL_told_186 rfl rfl (Nat.le_of_ble_eq_true rfl) rfl ?_
  refine pv_iload_n (q := 188) C dL_told_187 rfl rfl rfl ?_
  refine pv_if_eq (q := 191) (tgt := 261) C dL_told_188 (by decide) rfl (fun c188_13 => absurd c188_13 (by decide)) (fun _ => ?_)
  refine pv_iload (q := 193) C dL_told_191 rfl rfl ?_
  refine pv_iconst (q := 194) (v := 2) C dL_told_193 rfl (by decide) ?_
  refine pv_icmp_ne (q := 197) (tgt := 208) C dL_told_194 (by decide) rfl (fun _ => ?_) (fun c194_14 => False.elim (absurd c194_14 (by rw [hE7]; decide)))
  refine pv_iload (q := 210) C dL_told_208 rfl rfl ?_
  refine pv_iconst (q := 211) (v := 1) C dL_told_210 rfl (by decide) ?_
  refine pv_icmp_le (q := 214) (tgt := 220) C dL_told_211 (by decide) rfl (fun c211_15 => False.elim (absurd c211_15 (by rw [hE7]; decide))) (fun _ => ?_)
  refine pv_iload (q := 216) C dL_told_214 rfl rfl ?_
  refine pv_iconst (q := 217) (v := 3) C dL_told_216 rfl (by decide) ?_
  refine pv_icmp_ne (q := 220) (tgt := 236) C dL_told_217 (by decide) rfl (fun _ => ?_) (fun c217_16 => False.elim (absurd c217_16 (by rw [hE7]; decide)))
  refine pv_iload (q := 238) C dL_told_236 rfl rfl ?_
  refine pv_iconst (q := 239) (v := 2) C dL_told_238 rfl (by decide) ?_
  refine pv_icmp_gt (q := 242) (tgt := 257) C dL_told_239 (by decide) rfl (fun _ => ?_) (fun c239_17 => False.elim (c239_17 (by rw [hE7]; decide)))
  refine pv_iconst (q := 258) (v := 1) C dL_told_257 rfl (by decide) ?_
  refine pv_goto (tgt := 262) C dL_told_258 (by decide) ?_
  refine pv_istore_n (q := 263) C dL_told_262 rfl rfl (Nat.le_of_ble_eq_true rfl) rfl ?_
  exact PV_widen (by omega) (by omega) (PV_le (kk D11 P11 (RI_W hR11 (by omega))) ⟨Or.inr rfl, Or.inr rfl, Or.inr rfl, Or.inr rfl, Or.inl rfl, Or.inl rfl, Or.inl rfl, Or.inl rfl, trivial⟩)
set_option maxRecDepth 100000 in
set_option maxHeartbeats 4000000 in
theorem tp_6_0_1 {M : DT} {x k n0 : Nat} (hx : x < 2 ^ 31) (hk : k < 6) (hn0 : M 6 9 = nI n0) (hn8 : n0 ≤ 9 * k) (hk0 : ¬ k = 0) (hE7 : (x / 2 ^ k) % 7 = 6) : ∃ (E : DT) (n : Nat), E 6 9 = nI n ∧ n ≤ 9 * (k + 1) ∧ (∀ V, JM M V → JM E V) ∧ ∀ {l : Launch} {K : KT} {X : XT} {w0 : Cond} {Q : State → Prop} {W cb : Nat} (_ : LK l K X cL_told RL w0 8 (some .long) ({ frames := 9, cells := 150, slots := 900, locals := 324 } : Room)) (_ : W + 20000 < 2 ^ 29) (_ : cb + 22 ≤ 150) (_ : ∀ (D : DT) (P : PT), RI D P E (W + 1400) → PV K X Q (cb + 22) (6 * (cb + 22)) 263 [some (.ref (X.2.2 0)), some (.int (nI x)), some (.int 1), some (.int (nI k)), none, none, none, none] [] D P) (D : DT) (P : PT) (_ : RI D P M W), PV K X Q (cb) (6 * cb) 28 [some (.ref (X.2.2 0)), some (.int (nI x)), some (.int 1), some (.int (nI k)), none, none, none, none] [] D P := by
  have hY : x / 2 ^ k < 2 ^ 31 := Nat.lt_of_le_of_lt (Nat.div_le_self _ _) hx
  obtain ⟨n1, a1, b1, hn1⟩ := numE_len (m := ((x / 2 ^ k) / 3 % 3)) (M := (ap1 (ap1 M 59) (nI (122 - (((x / 2 ^ k) % 2) * 3))))) (ap1_len (ap1_len hn0))
  refine ⟨(numE ((x / 2 ^ k) / 3 % 3) (ap1 (ap1 M 59) (nI (122 - (((x / 2 ^ k) % 2) * 3))))), n1, hn1, by omega, fun V hj => (JM_num (JM_ap1 (JM_ap1 hj))), ?_⟩
  intro l K X w0 Q W cb L hW hc kk D P h
  obtain ⟨hKl, hKR, C, Z, hNC, hfl⟩ := id L
  refine pv_iload_n (q := 29) C dL_told_28 rfl rfl rfl ?_
  refine pv_iload_n (q := 30) C dL_told_29 rfl rfl rfl ?_
  refine pv_ishr (q := 31) C dL_told_30 rfl ?_
  rw [shr_N hx (by omega)]
  refine pv_istore (q := 33) C dL_told_31 rfl (Nat.le_of_ble_eq_true rfl) rfl ?_
  refine pv_iload (q := 35) C dL_told_33 rfl rfl ?_
  refine pv_bipush (q := 37) (v := 7) C dL_told_35 rfl (by decide) ?_
  refine pv_iremN (q := 38) (a := (x / 2 ^ k)) (b := 7) C rfl rfl (by omega) (by decide) (by decide) dL_told_37 rfl ?_
  refine pv_istore (q := 40) C dL_told_38 rfl (Nat.le_of_ble_eq_true rfl) rfl ?_
  refine pv_iload (q := 42) C dL_told_40 rfl rfl ?_
  refine pv_bipush (q := 44) (v := 7) C dL_told_42 rfl (by decide) ?_
  refine pv_idivN (q := 45) (a := (x / 2 ^ k)) (b := 7) C rfl rfl (by omega) (by decide) (by decide) dL_told_44 rfl ?_
  refine pv_bipush (q := 47) (v := 8) C dL_told_45 rfl (by decide) ?_
  refine pv_iremN (q := 48) (a := ((x / 2 ^ k) / 7)) (b := 8) C rfl rfl (by omega) (by decide) (by decide) dL_told_47 rfl ?_
  refine pv_istore (q := 50) C dL_told_48 rfl (Nat.le_of_ble_eq_true rfl) rfl ?_
  refine pv_iload (q := 52) C dL_told_50 rfl rfl ?_
  refine pv_iconst (q := 53) (v := 2) C dL_told_52 rfl (by decide) ?_
  refine pv_icmp_ge (q := 56) (tgt := 61) C dL_told_53 (by decide) rfl (fun _ => ?_) (fun c53_1 => False.elim (c53_1 (by rw [hE7]; decide)))
  refine pv_iload (q := 63) C dL_told_61 rfl rfl ?_
  refine pv_iconst (q := 64) (v := 2) C dL_told_63 rfl (by decide) ?_
  refine pv_icmp_ne (q := 67) (tgt := 72) C dL_told_64 (by decide) rfl (fun _ => ?_) (fun c64_2 => False.elim (absurd c64_2 (by rw [hE7]; decide)))
  refine pv_iload (q := 74) C dL_told_72 rfl rfl ?_
  refine pv_iconst (q := 75) (v := 3) C dL_told_74 rfl (by decide) ?_
  refine pv_icmp_ne (q := 78) (tgt := 83) C dL_told_75 (by decide) rfl (fun _ => ?_) (fun c75_3 => False.elim (absurd c75_3 (by rw [hE7]; decide)))
  refine pv_iload (q := 85) C dL_told_83 rfl rfl ?_
  refine pv_iconst (q := 86) (v := 4) C dL_told_85 rfl (by decide) ?_
  refine pv_icmp_ne (q := 89) (tgt := 94) C dL_told_86 (by decide) rfl (fun _ => ?_) (fun c86_4 => False.elim (absurd c86_4 (by rw [hE7]; decide)))
  refine pv_iload (q := 96) C dL_told_94 rfl rfl ?_
  refine pv_iconst (q := 97) (v := 5) C dL_told_96 rfl (by decide) ?_
  refine pv_icmp_ne (q := 100) (tgt := 105) C dL_told_97 (by decide) rfl (fun _ => ?_) (fun c97_5 => False.elim (absurd c97_5 (by rw [hE7]; decide)))
  refine pv_bipush (q := 107) (v := 122) C dL_told_105 rfl (by decide) ?_
  refine pv_iload (q := 109) C dL_told_107 rfl rfl ?_
  refine pv_iconst (q := 110) (v := 2) C dL_told_109 rfl (by decide) ?_
  refine pv_iremN (q := 111) (a := (x / 2 ^ k)) (b := 2) C rfl rfl (by omega) (by decide) (by decide) dL_told_110 rfl ?_
  refine pv_iconst (q := 112) (v := 3) C dL_told_111 rfl (by decide) ?_
  refine pv_imulN (q := 113) (a := ((x / 2 ^ k) % 2)) (b := 3) C rfl rfl dL_told_112 rfl ?_
  refine pv_isubN (q := 114) (a := 122) (b := (((x / 2 ^ k) % 2) * 3)) C rfl rfl (by omega) dL_told_113 rfl ?_
  refine pv_istore (q := 116) C dL_told_114 rfl (Nat.le_of_ble_eq_true rfl) rfl ?_
  refine pv_iload_n (q := 117) C dL_told_116 rfl rfl rfl ?_
  refine pv_if_eq (q := 120) (tgt := 131) C dL_told_117 (by decide) rfl (fun c117_6 => False.elim (absurd c117_6 (nI_ne0 (by omega) (by omega)))) (fun _ => ?_)
  refine pv_aload_n (q := 121) C dL_told_120 rfl rfl rfl ?_
  refine pv_bipush (q := 123) (v := 59) C dL_told_121 rfl (by decide) ?_
  refine pv_callLl (q := 126) (rest := []) C Z hNC hKl (c_L_append l X D P hfl M (W) h (by omega) n0 (by omega) hn0 59) tw_768 mw_L_append ⟨rfl, rfl⟩ (by rw [hKR]; exact ⟨Nat.le_of_ble_eq_true rfl, Nat.le_of_ble_eq_true rfl⟩) (by rw [hKR]; constructor <;> (dsimp only; omega)) rfl rfl rfl (Nat.le_of_ble_eq_true rfl) dL_told_123 rfl (fun r7 D7 P7 q7 => ?_)
  obtain ⟨e7, hR7⟩ := QE.ok q7 (kApp_0 (by decide) (by omega))
  obtain rfl : r7 = ((nI n0 + 1).toInt64) := e7.trans (rfl)
  rw [ap1_n hn0 (by omega)] at hR7
  refine pv_lconst (q := 127) (v := 0) C dL_told_126 rfl (by decide) ?_
  refine pv_lcmp (q := 128) C dL_told_127 rfl ?_
  refine pv_if_le (q := 131) (tgt := 185) C dL_told_128 (by decide) rfl (fun c128_8 => False.elim (Int64.not_le.mpr (ap_pos (by omega)) ((lg_cmp_le _ _).mp c128_8))) (fun _ => ?_)
  refine pv_aload_n (q := 132) C dL_told_131 rfl rfl rfl ?_
  refine pv_iload (q := 134) C dL_told_132 rfl rfl ?_
  refine pv_callLl (q := 137) (rest := []) C Z hNC hKl (c_L_append l X D7 P7 hfl (ap1 M 59) (W + 130) hR7 (by omega) (n0 + 1) (by omega) (ap1_len hn0) (nI (122 - (((x / 2 ^ k) % 2) * 3)))) tw_768 mw_L_append ⟨rfl, rfl⟩ (by rw [hKR]; exact ⟨Nat.le_of_ble_eq_true rfl, Nat.le_of_ble_eq_true rfl⟩) (by rw [hKR]; constructor <;> (dsimp only; omega)) rfl rfl rfl (Nat.le_of_ble_eq_true rfl) dL_told_134 rfl (fun r9 D9 P9 q9 => ?_)
  obtain ⟨e9, hR9⟩ := QE.ok q9 (kApp_0 (rg_cN (by omega) (by omega)) (by omega))
  obtain rfl : r9 = ((nI (n0 + 1) + 1).toInt64) := e9.trans (rfl)
  rw [ap1_n (ap1_len hn0) (by omega)] at hR9
  refine pv_lconst (q := 138) (v := 0) C dL_told_137 rfl (by decide) ?_
  refine pv_lcmp (q := 139) C dL_told_138 rfl ?_
  refine pv_if_le (q := 142) (tgt := 185) C dL_told_139 (by decide) rfl (fun c139_10 => False.elim (Int64.not_le.mpr (ap_pos (by omega)) ((lg_cmp_le _ _).mp c139_10))) (fun _ => ?_)
  refine pv_aload_n (q := 143) C dL_told_142 rfl rfl rfl ?_
  refine pv_iload (q := 145) C dL_told_143 rfl rfl ?_
  refine pv_iconst (q := 146) (v := 5) C dL_told_145 rfl (by decide) ?_
  refine pv_icmp_ge (q := 149) (tgt := 154) C dL_told_146 (by decide) rfl (fun _ => ?_) (fun c146_11 => False.elim (c146_11 (by rw [hE7]; decide)))
  refine pv_iload (q := 156) C dL_told_154 rfl rfl ?_
  refine pv_iconst (q := 157) (v := 5) C dL_told_156 rfl (by decide) ?_
  refine pv_icmp_ne (q := 160) (tgt := 169) C dL_told_157 (by decide) rfl (fun _ => ?_) (fun c157_12 => False.elim (absurd c157_12 (by rw [hE7]; decide)))
  refine pv_iload (q := 171) C dL_told_169 rfl rfl ?_
  refine pv_iconst (q := 172) (v := 3) C dL_told_171 rfl (by decide) ?_
  refine pv_idivN (q := 173) (a := (x / 2 ^ k)) (b := 3) C rfl rfl (by omega) (by decide) (by decide) dL_told_172 rfl ?_
  refine pv_iconst (q := 174) (v := 3) C dL_told_173 rfl (by decide) ?_
  refine pv_iremN (q := 175) (a := ((x / 2 ^ k) / 3)) (b := 3) C rfl rfl (by omega) (by decide) (by decide) dL_told_174 rfl ?_
  refine pv_callMi (q := 178) (rest := []) C Z hNC hKl (c_L_numP l X D9 P9 hfl (ap1 (ap1 M 59) (nI (122 - (((x / 2 ^ k) % 2) * 3)))) (W + 130 + 130) hR9 (by omega) ((x / 2 ^ k) / 3 % 3) ((n0 + 1) + 1) ((by omega)) (ap1_len (ap1_len hn0)) (by omega)) tw_993 mm_L_number ⟨rfl, rfl⟩ (by rw [hKR]; exact ⟨Nat.le_of_ble_eq_true rfl, Nat.le_of_ble_eq_true rfl⟩) (by rw [hKR]; constructor <;> (dsimp only; omega)) rfl rfl rfl (Nat.le_of_ble_eq_true rfl) dL_told_175 rfl (fun r13 D13 P13 q13 => ?_)
  obtain ⟨rfl, hR13⟩ := q13
  refine pv_if_eq (q := 181) (tgt := 185) C dL_told_178 (by decide) rfl (fun c178_14 => absurd c178_14 (by decide)) (fun _ => ?_)
  refine pv_iconst (q := 182) (v := 1) C dL_told_181 rfl (by decide) ?_
  refine pv_goto (tgt := 186) C dL_told_182 (by decide) ?_
  refine pv_istore_n (q := 187) C dL_told_186 rfl rfl (Nat.le_of_ble_eq_true rfl) rfl ?_
  refine pv_iload_n (q := 188) C dL_told_187 rfl rfl rfl ?_
  refine pv_if_eq (q := 191) (tgt := 261) C dL_told_188 (by decide) rfl (fun c188_15 => absurd c188_15 (by decide)) (fun _ => ?_)
  refine pv_iload (q := 193) C dL_told_191 rfl rfl ?_
  refine pv_iconst (q := 194) (v := 2) C dL_told_193 rfl (by decide) ?_
  refine pv_icmp_ne (q := 197) (tgt := 208) C dL_told_194 (by decide) rfl (fun _ => ?_) (fun c194_16 => False.elim (absurd c194_16 (by rw [hE7]; decide)))
  refine pv_iload (q := 210) C dL_told_208 rfl rfl ?_
  refine pv_iconst (q := 211) (v := 1) C dL_told_210 rfl (by decide) ?_
  refine pv_icmp_le (q := 214) (tgt := 220) C dL_told_211 (by decide) rfl (fun c211_17 => False.elim (absurd c211_17 (by rw [hE7]; decide))) (fun _ => ?_)
  refine pv_iload (q := 216) C dL_told_214 rfl rfl ?_
  refine pv_iconst (q := 217) (v := 3) C dL_told_216 rfl (by decide) ?_
  refine pv_icmp_ne (q := 220) (tgt := 236) C dL_told_217 (by decide) rfl (fun _ => ?_) (fun c217_18 => False.elim (absurd c217_18 (by rw [hE7]; decide)))
  refine pv_iload (q := 238) C dL_told_236 rfl rfl ?_
  refine pv_iconst (q := 239) (v := 2) C dL_told_238 rfl (by decide) ?_
  refine pv_icmp_gt (q := 242) (tgt := 257) C dL_told_239 (by decide) rfl (fun _ => ?_) (fun c239_19 => False.elim (c239_19 (by rw [hE7]; decide)))
  refine pv_iconst (q := 258) (v := 1) C dL_told_257 rfl (by decide) ?_
  refine pv_goto (tgt := 262) C dL_told_258 (by decide) ?_
  refine pv_istore_n (q := 263) C dL_told_262 rfl rfl (Nat.le_of_ble_eq_true rfl) rfl ?_
  exact PV_widen (by omega) (by omega) (PV_le (kk D13 P13 (RI_W hR13 (by omega))) ⟨Or.inr rfl, Or.inr rfl, Or.inr rfl, Or.inr rfl, Or.inl rfl, Or.inl rfl, Or.inl rfl, Or.inl rfl, trivial⟩)
theorem tp_any {M : DT} {x k n0 : Nat} (hx : x < 2 ^ 31) (hk : k < 6) (hn0 : M 6 9 = nI n0) (hn8 : n0 ≤ 9 * k) : ∃ (E : DT) (n : Nat), E 6 9 = nI n ∧ n ≤ 9 * (k + 1) ∧ (∀ V, JM M V → JM E V) ∧ ∀ {l : Launch} {K : KT} {X : XT} {w0 : Cond} {Q : State → Prop} {W cb : Nat} (_ : LK l K X cL_told RL w0 8 (some .long) ({ frames := 9, cells := 150, slots := 900, locals := 324 } : Room)) (_ : W + 20000 < 2 ^ 29) (_ : cb + 22 ≤ 150) (_ : ∀ (D : DT) (P : PT), RI D P E (W + 1400) → PV K X Q (cb + 22) (6 * (cb + 22)) 263 [some (.ref (X.2.2 0)), some (.int (nI x)), some (.int 1), some (.int (nI k)), none, none, none, none] [] D P) (D : DT) (P : PT) (_ : RI D P M W), PV K X Q (cb) (6 * cb) 28 [some (.ref (X.2.2 0)), some (.int (nI x)), some (.int 1), some (.int (nI k)), none, none, none, none] [] D P := by
  by_cases hk0 : k = 0 <;> by_cases h41 : 20 ≤ x / 2 ^ k % 41 <;> rcases k7 (x / 2 ^ k) with e7 | e7 | e7 | e7 | e7 | e7 | e7
  · exact tp_0_1_1 hx hk hn0 hn8 hk0 e7 h41
  · exact tp_1_1_1 hx hk hn0 hn8 hk0 e7 h41
  · exact tp_2_1_1 hx hk hn0 hn8 hk0 e7 h41
  · exact tp_3_1_1 hx hk hn0 hn8 hk0 e7
  · exact tp_4_1_1 hx hk hn0 hn8 hk0 e7
  · exact tp_5_1_1 hx hk hn0 hn8 hk0 e7
  · exact tp_6_1_1 hx hk hn0 hn8 hk0 e7
  · exact tp_0_1_0 hx hk hn0 hn8 hk0 e7 h41
  · exact tp_1_1_0 hx hk hn0 hn8 hk0 e7 h41
  · exact tp_2_1_0 hx hk hn0 hn8 hk0 e7 h41
  · exact tp_3_1_1 hx hk hn0 hn8 hk0 e7
  · exact tp_4_1_1 hx hk hn0 hn8 hk0 e7
  · exact tp_5_1_1 hx hk hn0 hn8 hk0 e7
  · exact tp_6_1_1 hx hk hn0 hn8 hk0 e7
  · exact tp_0_0_1 hx hk hn0 hn8 hk0 e7 h41
  · exact tp_1_0_1 hx hk hn0 hn8 hk0 e7 h41
  · exact tp_2_0_1 hx hk hn0 hn8 hk0 e7 h41
  · exact tp_3_0_1 hx hk hn0 hn8 hk0 e7
  · exact tp_4_0_1 hx hk hn0 hn8 hk0 e7
  · exact tp_5_0_1 hx hk hn0 hn8 hk0 e7
  · exact tp_6_0_1 hx hk hn0 hn8 hk0 e7
  · exact tp_0_0_0 hx hk hn0 hn8 hk0 e7 h41
  · exact tp_1_0_0 hx hk hn0 hn8 hk0 e7 h41
  · exact tp_2_0_0 hx hk hn0 hn8 hk0 e7 h41
  · exact tp_3_0_1 hx hk hn0 hn8 hk0 e7
  · exact tp_4_0_1 hx hk hn0 hn8 hk0 e7
  · exact tp_5_0_1 hx hk hn0 hn8 hk0 e7
  · exact tp_6_0_1 hx hk hn0 hn8 hk0 e7
set_option maxRecDepth 100000 in
set_option maxHeartbeats 4000000 in
theorem tp_loop {x : Nat} (hx : x < 2 ^ 31) : ∀ (j k n0 : Nat) (M : DT) (V : Nat), k + j = 3 + x % 4 → M 6 9 = nI n0 → n0 ≤ 9 * k → JM M V → ∃ (r : Int64) (E : DT), JM E (V + 6000) ∧ ∀ {l : Launch} {K : KT} {X : XT} {w0 : Cond} {W : Nat} (_ : LK l K X cL_told RL w0 8 (some .long) ({ frames := 9, cells := 150, slots := 900, locals := 324 } : Room)) (_ : W + 30000 < 2 ^ 29) (D : DT) (P : PT) (_ : RI D P M (W + 1400 * k)), PV K X (XK K X (qL X (fun r' D' P' => r' = r ∧ RI D' P' E (W + 9000))) (fun _ _ _ => False) 150 900) (22 * k) (6 * (22 * k)) 15 [some (.ref (X.2.2 0)), some (.int (nI x)), some (.int 1), some (.int (nI k)), none, none, none, none] [] D P := by
  intro j
  induction j with
  | zero =>
    intro k n0 M V hk hn0 hn8 hj
    have hk6 : k ≤ 6 := by omega
    refine ⟨wv (kRpl M n0) (((rFin (M 12) n0 (M 7)).2.2 : Int32).toInt64) cX, we (kRpl M n0) (m_rpl M n0) M, JM_we hj (by omega) (fun _ => JM_rpl hj), ?_⟩
    intro l K X w0 W L hW D P h
    obtain ⟨hKl, hKR, C, Z, hNC, hfl⟩ := id L
    refine pv_iload_n (q := 16) C dL_told_15 rfl rfl rfl ?_
    refine pv_iconst (q := 17) (v := 3) C dL_told_16 rfl (by decide) ?_
    refine pv_iload_n (q := 18) C dL_told_17 rfl rfl rfl ?_
    refine pv_iconst (q := 19) (v := 4) C dL_told_18 rfl (by decide) ?_
    refine pv_iremN (q := 20) (a := x) (b := 4) C rfl rfl (by omega) (by decide) (by decide) dL_told_19 rfl ?_
    refine pv_iaddN (q := 21) (a := 3) (b := (x % 4)) C rfl rfl dL_told_20 rfl ?_
    refine pv_icmp_ge (q := 24) (tgt := 269) C dL_told_21 (by decide) rfl (fun _ => ?_) (fun c21_1 => False.elim (c21_1 (by rw [← hk]; exact Int32.le_refl _)))
    refine pv_iload_n (q := 270) C dL_told_269 rfl rfl rfl ?_
    refine pv_if_eq (q := 273) (tgt := 280) C dL_told_270 (by decide) rfl (fun c270_2 => absurd c270_2 (by decide)) (fun _ => ?_)
    refine pv_aload_n (q := 274) C dL_told_273 rfl rfl rfl ?_
    refine pv_callLl (q := 277) (rest := []) C Z hNC hKl (c_L_replay l X D P hfl M (W + 1400 * k) h (by omega) n0 (by omega) hn0) tw_996 mw_L_replay ⟨rfl, rfl⟩ (by rw [hKR]; exact ⟨Nat.le_of_ble_eq_true rfl, Nat.le_of_ble_eq_true rfl⟩) (by rw [hKR]; constructor <;> (dsimp only; omega)) rfl rfl rfl (Nat.le_of_ble_eq_true rfl) dL_told_274 rfl (fun r3 D3 P3 q3 => ?_)
    obtain ⟨rfl, hR3⟩ := QE.toE q3
    refine pv_goto (tgt := 283) C dL_told_277 (by decide) ?_
    exact XK.of (pv_lret C ⟨rfl, RI_W hR3 (by omega)⟩ (by omega) (by omega) dL_told_283)
  | succ j ih =>
    intro k n0 M V hk hn0 hn8 hj
    have hk6 : k < 6 := by omega
    obtain ⟨E1, n1, a1, a2, a3, a4⟩ := tp_any hx hk6 hn0 hn8
    obtain ⟨r, E, b1, b2⟩ := ih (k + 1) n1 E1 V (by omega) a1 a2 (a3 V hj)
    refine ⟨r, E, b1, ?_⟩
    intro l K X w0 W L hW D P h
    obtain ⟨hKl, hKR, C, Z, hNC, hfl⟩ := id L
    refine pv_iload_n (q := 16) C dL_told_15 rfl rfl rfl ?_
    refine pv_iconst (q := 17) (v := 3) C dL_told_16 rfl (by decide) ?_
    refine pv_iload_n (q := 18) C dL_told_17 rfl rfl rfl ?_
    refine pv_iconst (q := 19) (v := 4) C dL_told_18 rfl (by decide) ?_
    refine pv_iremN (q := 20) (a := x) (b := 4) C rfl rfl (by omega) (by decide) (by decide) dL_told_19 rfl ?_
    refine pv_iaddN (q := 21) (a := 3) (b := (x % 4)) C rfl rfl dL_told_20 rfl ?_
    refine pv_icmp_ge (q := 24) (tgt := 269) C dL_told_21 (by decide) rfl (fun c21_501 => False.elim (absurd ((nI_leI (by omega) (by omega)).mp c21_501) (by omega))) (fun _ => ?_)
    refine pv_iload_n (q := 25) C dL_told_24 rfl rfl rfl ?_
    refine pv_if_eq (q := 28) (tgt := 269) C dL_told_25 (by decide) rfl (fun c25_502 => absurd c25_502 (by decide)) (fun _ => ?_)
    exact a4 L (by omega) (by omega) (fun D2 P2 h2 => by
      refine pv_iinc (q := 266) (v := nI (k + 1)) C dL_told_263 rfl rfl (nI_add _ _) rfl ?_
      refine pv_goto (tgt := 15) C dL_told_266 (by decide) ?_
      exact PV_widen (by omega) (by omega) (b2 L hW D2 P2 (RI_W h2 (by omega)))) D P h
set_option maxRecDepth 100000 in
set_option maxHeartbeats 4000000 in
theorem told_ex {x V : Nat} {M : DT} (hx : x < 2 ^ 31) (hj : JM M V) : ∃ (r : Int64) (E : DT), JM E (V + 6000) ∧ ∀ (l : Launch) (X : XT) (D : DT) (P : PT) (W : Nat) (_ : l.stackTraces = false) (_ : RI D P M W) (_ : W + 31000 < 2 ^ 29), LM l X yL_told (.code yL_told cL_told 8 (some .long)) ({ frames := 9, cells := 150, slots := 900, locals := 324 } : Room) [.ref (X.2.2 0), .int (nI x)] (qL X (fun r' D' P' => r' = r ∧ RI D' P' E (W + 9200))) D P 150 900 := by
  obtain ⟨r, E, b1, b2⟩ := tp_loop hx (3 + x % 4) 0 0 (up2 (clr M) 6 9 0) V (by omega) (by rw [up2_self]; rfl) (by omega) (JM_f (JM_clr hj) (by decide) (by decide))
  refine ⟨r, E, b1, ?_⟩
  intro l X D P W hfl h hW
  obtain ⟨n0, hn60, hn9⟩ := rl_tok h
  refine lm_of (by decide +kernel) (Nat.le_of_ble_eq_true rfl) ?_
  intro K hKl hKR C Z hNC
  have L : LK l K X cL_told RL _ 8 (some .long) ({ frames := 9, cells := 150, slots := 900, locals := 324 } : Room) := ⟨hKl, hKR, C, Z, hNC, hfl⟩
  refine PV_lv (lv' := [some (.ref (X.2.2 0)), some (.int (nI x)), none, none, none, none, none, none]) rfl ?_
  refine pv_aload_n (q := 1) C dL_told_0 rfl rfl rfl ?_
  refine pv_callVi (q := 4) (rest := []) C hKl (c_X6_clearBuffer l X D P M (W) h (by omega)) tw_989 (show kd 0 = 6 from rfl) (by decide) rfl mm_X6_clearBuffer ⟨rfl, rfl⟩ (by rw [hKR]; exact ⟨Nat.le_of_ble_eq_true rfl, Nat.le_of_ble_eq_true rfl⟩) (by rw [hKR]; constructor <;> (dsimp only; omega)) rfl rfl rfl (Nat.le_of_ble_eq_true rfl) dL_told_1 rfl (fun r503 D503 P503 q503 => ?_)
  obtain ⟨rfl, hR503, -⟩ := q503
  refine pv_if_lt (q := 7) (tgt := 11) C dL_told_4 (by decide) rfl (fun c4_504 => False.elim (absurd c4_504 (by rw [hn9]; exact Int32.not_lt.mpr (nI_pos' (by omega))))) (fun _ => ?_)
  refine pv_iconst (q := 8) (v := 1) C dL_told_7 rfl (by decide) ?_
  refine pv_goto (tgt := 12) C dL_told_8 (by decide) ?_
  refine pv_istore_n (q := 13) C dL_told_12 rfl rfl (Nat.le_of_ble_eq_true rfl) rfl ?_
  refine pv_iconst (q := 14) (v := 0) C dL_told_13 rfl (by decide) ?_
  refine pv_istore_n (q := 15) C dL_told_14 rfl rfl (Nat.le_of_ble_eq_true rfl) rfl ?_
  refine PV_lv (lv' := [some (.ref (X.2.2 0)), some (.int (nI x)), some (.int 1), some (.int (nI 0)), none, none, none, none]) rfl ?_
  exact b2 L (W := W + 200) (by omega) D503 P503 (RI_W hR503 (by omega))
