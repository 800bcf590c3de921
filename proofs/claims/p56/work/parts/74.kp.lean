theorem l_30 {a : Int32} : a.toInt64 ≤ 30 ↔ a ≤ 30 := l_le (b := 30)
theorem l_p {n m : Nat} (hn : n < 2 ^ 31) (hm : m < 2 ^ 31) (h : n ≤ m) : (nI n).toInt64 ≤ (nI m).toInt64 := l_le.mpr ((nI_leI hn hm).mpr h)
theorem l_pl {n m : Nat} (hn : n < 2 ^ 31) (hm : m < 2 ^ 31) (h : n < m) : (nI n).toInt64 < (nI m).toInt64 := l_lt.mpr ((nI_ltI hn hm).mpr h)
theorem tr_y {row : Nat → Int32} {v g p : Nat} (h1 : ¬ row p = 0) (h2 : row p - 1 = nI g) (h3 : row (32 + 38 * v + 34) ≤ row (16 + p)) : nI (tr row v g p) + 1 = nI (tr row v g (p + 1)) := by
  unfold tr
  rw [ct_s, if_pos (decide_eq_true ⟨h1, h2, h3⟩), nI_1]
theorem tr_n {row : Nat → Int32} {v g p : Nat} (h : ¬ (¬ row p = 0 ∧ row p - 1 = nI g ∧ row (32 + 38 * v + 34) ≤ row (16 + p))) : nI (tr row v g p) + 0 = nI (tr row v g (p + 1)) := by
  unfold tr
  rw [ct_s, if_neg (fun z => h (of_decide_eq_true z)), Int32.add_zero]
  rfl
theorem wks_1 {row : Nat → Int32} {v : Nat} (h : row (32 + 38 * v + 32) = 1) : 1 ≤ wks row v := by
  unfold wks
  rw [if_pos h]
  split
  · exact Int32.le_refl _
  · rename_i z; exact Int32.not_lt.mp z
theorem wks_0 {row : Nat → Int32} {v : Nat} (h : ¬ row (32 + 38 * v + 32) = 1) : wks row v = 0 := by
  unfold wks
  rw [if_neg h]
theorem f01 {p : Prop} [Decidable p] (h : ¬ lg_cmp ((if p then (1 : Int32) else 0).toInt64) 0 = 0) : p := by
  by_cases z : p
  · exact z
  · rw [if_neg z] at h; exact absurd (lg_cmp_rf _) h
theorem f00 {p : Prop} [Decidable p] (h : lg_cmp ((if p then (1 : Int32) else 0).toInt64) 0 = 0) : ¬ p := fun z => by
  rw [if_pos z] at h; exact absurd h (by decide)
theorem f10 {p : Prop} [Decidable p] (h : ¬ lg_cmp ((if p then (1 : Int32) else 0).toInt64) 1 = 0) : ¬ p := fun z => by
  rw [if_pos z] at h; exact absurd (lg_cmp_rf _) h
theorem f11 {p : Prop} [Decidable p] (h : lg_cmp ((if p then (1 : Int32) else 0).toInt64) 1 = 0) : p := by
  by_cases z : p
  · exact z
  · rw [if_neg z] at h; exact absurd h (by decide)
theorem at0_p {f : Nat → Int32} {n k : Nat} (h : ¬ n = 0) : at0 f n k = f k := if_neg h
theorem lgd_u {row : Nat → Int32} {v : Nat} (h : ¬ lg_cmp (wt row v).toInt64 (lgd row v).toInt64 ≤ 0) : (wt row v).toInt64 = (lgd row (v + 1)).toInt64 := by
  have : lgd row v < wt row v := by
    rcases Int32.lt_or_le (lgd row v) (wt row v) with z | z
    · exact z
    · exact absurd ((lg_cmp_le _ _).mpr (l_le.mpr z)) h
  rw [lgd_s, if_pos this]
theorem lgd_k {row : Nat → Int32} {v : Nat} (h : lg_cmp (wt row v).toInt64 (lgd row v).toInt64 ≤ 0) : (lgd row v).toInt64 = (lgd row (v + 1)).toInt64 := by
  have := l_le.mp ((lg_cmp_le _ _).mp h)
  rw [lgd_s, if_neg (Int32.not_lt.mpr this)]
theorem tk_le (row : Nat → Int32) : tk row ≤ 16 := ct_le _ _
theorem nI_half {n : Nat} (h : n ≤ 16) (h0 : 0 < n) : ((nI n).toInt64 - 1) / 2 = (nI ((n - 1) / 2)).toInt64 := by
  have key : ∀ k, k ≤ 16 → 0 < k → ((nI k).toInt64 - 1) / 2 = (nI ((k - 1) / 2)).toInt64 := by decide +kernel
  exact key n h h0
set_option maxRecDepth 100000 in
set_option maxHeartbeats 4000000 in
theorem kp_p {l : Launch} {K : KT} {X : XT} {w0 : Cond} {Q : State → Prop} {M : DT} {W : Nat} (hW : W + 200 < 2 ^ 29) (L : LK l K X cL_kept RL w0 18 (some .boolean) ({ frames := 10, cells := 2300, slots := 13800, locals := 360 } : Room)) {mo a6 : Int64} {nb : Int32} {v g cb : Nat} (hv : v < 3) (hg : g < 4) (hc : cb + 96 ≤ 2300) (k : ∀ (D : DT) (P : PT), RI D P M W → PV K X Q (cb + 96) (6 * (cb + 96)) 367 [some (.ref (X.2.2 0)), some (.int 1), some (.long mo), none, some (.int (nI v)), some (.int nb), some (.long a6), none, some (.int (nI g)), some (.long ((nI (VN (M 7) v g)).toInt64)), none, some (.int (nI (tr (M 7) v g 16))), none, none, none, none, none, none] [] D P) : ∀ (nn p : Nat) (D : DT) (P : PT), RI D P M W → 17 ≤ p + nn → p ≤ 16 → PV K X Q (cb + 6 * p) (6 * (cb + 6 * p)) 304 [some (.ref (X.2.2 0)), some (.int 1), some (.long mo), none, some (.int (nI v)), some (.int nb), some (.long a6), none, some (.int (nI g)), some (.long ((nI (VN (M 7) v g)).toInt64)), none, some (.int (nI (tr (M 7) v g p))), some (.int (nI p)), none, none, none, none, none] [] D P := by
  obtain ⟨hKl, hKR, C, Z, hNC, hfl⟩ := id L
  intro nn
  induction nn with
  | zero =>
    intro p D P h hfu hp4
    exact absurd hfu (by omega)
  | succ nn ih =>
    intro p D P h hfu hp4
    refine pv_iload (q := 306) C dL_kept_304 rfl rfl ?_
    refine pv_bipush (q := 308) (v := 16) C dL_kept_306 rfl (by decide) ?_
    refine pv_icmp_ge (q := 311) (tgt := 367) C dL_kept_308 (by decide) rfl (fun cL => ?_) (fun cL => ?_)
    ·
      obtain rfl : p = 16 := by
        have := (nI_leI (a := 16) (b := p) (by decide) (by omega)).mp cL
        omega
      exact PV_widen (by omega) (by omega) (PV_le (k D P h) ⟨Or.inr rfl, Or.inr rfl, Or.inr rfl, Or.inl rfl, Or.inr rfl, Or.inr rfl, Or.inr rfl, Or.inl rfl, Or.inr rfl, Or.inr rfl, Or.inl rfl, Or.inr rfl, Or.inl rfl, Or.inl rfl, Or.inl rfl, Or.inl rfl, Or.inl rfl, Or.inl rfl, trivial⟩)
    ·
      have hp : p < 16 := by
        rcases Nat.lt_or_ge p 16 with z | z
        · exact z
        · exact absurd ((nI_leI (a := 16) (b := p) (by decide) (by omega)).mpr z) cL
      refine pv_iload (q := 313) C dL_kept_311 rfl rfl ?_
      refine pv_aload_n (q := 314) C dL_kept_313 rfl rfl rfl ?_
      refine pv_iload (q := 316) C dL_kept_314 rfl rfl ?_
      refine pv_callLl (q := 319) (rest := [.int (nI (tr (M 7) v g p))]) C Z hNC hKl (c_L_isFree l X D P hfl M (W) h (nI p)) tw_781 mw_L_isFree ⟨rfl, rfl⟩ (by rw [hKR]; exact ⟨Nat.le_of_ble_eq_true rfl, Nat.le_of_ble_eq_true rfl⟩) (by rw [hKR]; constructor <;> (dsimp only; omega)) rfl rfl rfl (Nat.le_of_ble_eq_true rfl) dL_kept_316 rfl (fun r2 D2 P2 q2 => ?_)
      obtain ⟨e2, hR2⟩ := q2
      obtain rfl : r2 = (((if M 7 p = 0 then 1 else 0) : Int32).toInt64) := e2.trans (by rw [wv_0 (kP_0 hp), ix_n (by omega)])
      refine pv_lconst (q := 320) (v := 0) C dL_kept_319 rfl (by decide) ?_
      refine pv_lcmp (q := 321) C dL_kept_320 rfl ?_
      refine pv_if_ne (q := 324) (tgt := 357) C dL_kept_321 (by decide) rfl (fun c => ?_) (fun c => ?_)
      ·
        refine pv_iconst (q := 358) (v := 0) C dL_kept_357 rfl (by decide) ?_
        refine pv_iadd (q := 359) C dL_kept_358 rfl ?_
        rw [tr_n (fun z => z.1 (f01 c))]
        refine pv_istore (q := 361) C dL_kept_359 rfl (Nat.le_of_ble_eq_true rfl) rfl ?_
        refine pv_iinc (q := 364) (v := nI (p + 1)) C dL_kept_361 rfl rfl (nI_add _ _) rfl ?_
        refine pv_goto (tgt := 304) C dL_kept_364 (by decide) ?_
        exact PV_widen (by omega) (by omega) (PV_le (ih (p + 1) D2 P2 hR2 (by omega) (by omega)) ⟨Or.inr rfl, Or.inr rfl, Or.inr rfl, Or.inl rfl, Or.inr rfl, Or.inr rfl, Or.inr rfl, Or.inl rfl, Or.inr rfl, Or.inr rfl, Or.inl rfl, Or.inr rfl, Or.inr rfl, Or.inl rfl, Or.inl rfl, Or.inl rfl, Or.inl rfl, Or.inl rfl, trivial⟩)
      ·
        have e1 := f00 c
        refine pv_aload_n (q := 325) C dL_kept_324 rfl rfl rfl ?_
        refine pv_iload (q := 327) C dL_kept_325 rfl rfl ?_
        refine pv_callLl (q := 330) (rest := [.int (nI (tr (M 7) v g p))]) C Z hNC hKl (c_L_groupAt l X D2 P2 hfl M (W) hR2 (nI p)) tw_785 mw_L_groupAt ⟨rfl, rfl⟩ (by rw [hKR]; exact ⟨Nat.le_of_ble_eq_true rfl, Nat.le_of_ble_eq_true rfl⟩) (by rw [hKR]; constructor <;> (dsimp only; omega)) rfl rfl rfl (Nat.le_of_ble_eq_true rfl) dL_kept_327 rfl (fun r4 D4 P4 q4 => ?_)
        obtain ⟨e4, hR4⟩ := q4
        obtain rfl : r4 = (((M 7 p - 1) : Int32).toInt64) := e4.trans (by rw [wv_0 (kRow_0 hp (e1)), ix_n (by omega)])
        refine pv_iload (q := 332) C dL_kept_330 rfl rfl ?_
        refine pv_i2l (q := 333) C dL_kept_332 rfl ?_
        refine pv_lcmp (q := 334) C dL_kept_333 rfl ?_
        refine pv_if_ne (q := 337) (tgt := 357) C dL_kept_334 (by decide) rfl (fun c2 => ?_) (fun c2 => ?_)
        ·
          refine pv_iconst (q := 358) (v := 0) C dL_kept_357 rfl (by decide) ?_
          refine pv_iadd (q := 359) C dL_kept_358 rfl ?_
          rw [tr_n (fun z => c2 ((lg_cmp_eq _ _).mpr (l_eq.mpr z.2.1)))]
          refine pv_istore (q := 361) C dL_kept_359 rfl (Nat.le_of_ble_eq_true rfl) rfl ?_
          refine pv_iinc (q := 364) (v := nI (p + 1)) C dL_kept_361 rfl rfl (nI_add _ _) rfl ?_
          refine pv_goto (tgt := 304) C dL_kept_364 (by decide) ?_
          exact PV_widen (by omega) (by omega) (PV_le (ih (p + 1) D4 P4 hR4 (by omega) (by omega)) ⟨Or.inr rfl, Or.inr rfl, Or.inr rfl, Or.inl rfl, Or.inr rfl, Or.inr rfl, Or.inr rfl, Or.inl rfl, Or.inr rfl, Or.inr rfl, Or.inl rfl, Or.inr rfl, Or.inr rfl, Or.inl rfl, Or.inl rfl, Or.inl rfl, Or.inl rfl, Or.inl rfl, trivial⟩)
        ·
          refine pv_aload_n (q := 338) C dL_kept_337 rfl rfl rfl ?_
          refine pv_iload (q := 340) C dL_kept_338 rfl rfl ?_
          refine pv_callLl (q := 343) (rest := [.int (nI (tr (M 7) v g p))]) C Z hNC hKl (c_L_amountAt l X D4 P4 hfl M (W) hR4 (nI p)) tw_789 mw_L_amountAt ⟨rfl, rfl⟩ (by rw [hKR]; exact ⟨Nat.le_of_ble_eq_true rfl, Nat.le_of_ble_eq_true rfl⟩) (by rw [hKR]; constructor <;> (dsimp only; omega)) rfl rfl rfl (Nat.le_of_ble_eq_true rfl) dL_kept_340 rfl (fun r6 D6 P6 q6 => ?_)
          obtain ⟨e6, hR6⟩ := q6
          obtain rfl : r6 = (((M 7 (16 + p)) : Int32).toInt64) := e6.trans (by rw [wv_0 (kRow_0 hp (e1)), ix_n (by omega)])
          refine pv_aload_n (q := 344) C dL_kept_343 rfl rfl rfl ?_
          refine pv_iload (q := 346) C dL_kept_344 rfl rfl ?_
          refine pv_callLl (q := 349) (rest := [.long (((M 7 (16 + p)) : Int32).toInt64), .int (nI (tr (M 7) v g p))]) C Z hNC hKl (c_L_filterOf l X D6 P6 hfl M (W) hR6 (nI v)) tw_907 mw_L_filterOf ⟨rfl, rfl⟩ (by rw [hKR]; exact ⟨Nat.le_of_ble_eq_true rfl, Nat.le_of_ble_eq_true rfl⟩) (by rw [hKR]; constructor <;> (dsimp only; omega)) rfl rfl rfl (Nat.le_of_ble_eq_true rfl) dL_kept_346 rfl (fun r7 D7 P7 q7 => ?_)
          obtain ⟨e7, hR7⟩ := q7
          obtain rfl : r7 = (((M 7 (32 + 38 * v + 34)) : Int32).toInt64) := e7.trans (by rw [wv_0 (kView_0 hv), ix_n (by omega)])
          refine pv_lcmp (q := 350) C dL_kept_349 rfl ?_
          refine pv_if_lt (q := 353) (tgt := 357) C dL_kept_350 (by decide) rfl (fun c3 => ?_) (fun c3 => ?_)
          ·
            refine pv_iconst (q := 358) (v := 0) C dL_kept_357 rfl (by decide) ?_
            refine pv_iadd (q := 359) C dL_kept_358 rfl ?_
            rw [tr_n (fun z => Int64.not_le.mpr ((lg_cmp_lt _ _).mp c3) (l_le.mpr z.2.2))]
            refine pv_istore (q := 361) C dL_kept_359 rfl (Nat.le_of_ble_eq_true rfl) rfl ?_
            refine pv_iinc (q := 364) (v := nI (p + 1)) C dL_kept_361 rfl rfl (nI_add _ _) rfl ?_
            refine pv_goto (tgt := 304) C dL_kept_364 (by decide) ?_
            exact PV_widen (by omega) (by omega) (PV_le (ih (p + 1) D7 P7 hR7 (by omega) (by omega)) ⟨Or.inr rfl, Or.inr rfl, Or.inr rfl, Or.inl rfl, Or.inr rfl, Or.inr rfl, Or.inr rfl, Or.inl rfl, Or.inr rfl, Or.inr rfl, Or.inl rfl, Or.inr rfl, Or.inr rfl, Or.inl rfl, Or.inl rfl, Or.inl rfl, Or.inl rfl, Or.inl rfl, trivial⟩)
          ·
            refine pv_iconst (q := 354) (v := 1) C dL_kept_353 rfl (by decide) ?_
            refine pv_goto (tgt := 358) C dL_kept_354 (by decide) ?_
            refine pv_iadd (q := 359) C dL_kept_358 rfl ?_
            rw [tr_y e1 (l_eq.mp ((lg_cmp_eq _ _).mp c2)) (l_le.mp (Int64.not_lt.mp (fun z => c3 ((lg_cmp_lt _ _).mpr z))))]
            refine pv_istore (q := 361) C dL_kept_359 rfl (Nat.le_of_ble_eq_true rfl) rfl ?_
            refine pv_iinc (q := 364) (v := nI (p + 1)) C dL_kept_361 rfl rfl (nI_add _ _) rfl ?_
            refine pv_goto (tgt := 304) C dL_kept_364 (by decide) ?_
            exact PV_widen (by omega) (by omega) (PV_le (ih (p + 1) D7 P7 hR7 (by omega) (by omega)) ⟨Or.inr rfl, Or.inr rfl, Or.inr rfl, Or.inl rfl, Or.inr rfl, Or.inr rfl, Or.inr rfl, Or.inl rfl, Or.inr rfl, Or.inr rfl, Or.inl rfl, Or.inr rfl, Or.inr rfl, Or.inl rfl, Or.inl rfl, Or.inl rfl, Or.inl rfl, Or.inl rfl, trivial⟩)
set_option maxRecDepth 100000 in
set_option maxHeartbeats 8000000 in
theorem kp_z {l : Launch} {K : KT} {X : XT} {w0 : Cond} {Q : State → Prop} {M : DT} {W : Nat} (hW : W + 200 < 2 ^ 29) (L : LK l K X cL_kept RL w0 18 (some .boolean) ({ frames := 10, cells := 2300, slots := 13800, locals := 360 } : Room)) {V : Nat} (hJ : JJ (M 7) V) {mo a6 : Int64} {nb : Int32} {v g cb : Nat} (hv : v < 3) (hg : g < 4) (h0 : VN (M 7) v g = 0) (hc : cb + 60 ≤ 2300) (k : ∀ (D : DT) (P : PT), RI D P M W → PV K X Q (cb + 60) (6 * (cb + 60)) 767 [some (.ref (X.2.2 0)), some (.int 1), some (.long mo), none, some (.int (nI v)), some (.int nb), some (.long a6), none, some (.int (nI g)), none, none, none, none, none, none, none, none, none] [] D P) (D : DT) (P : PT) (h : RI D P M W) : PV K X Q (cb) (6 * cb) 374 [some (.ref (X.2.2 0)), some (.int 1), some (.long mo), none, some (.int (nI v)), some (.int nb), some (.long a6), none, some (.int (nI g)), some (.long ((nI (VN (M 7) v g)).toInt64)), none, some (.int (nI (tr (M 7) v g 16))), none, none, none, none, none, none] [] D P := by
  obtain ⟨hKl, hKR, C, Z, hNC, hfl⟩ := id L
  have hF := FB_V (g := g) hJ.1 hv
  have hn16 := VN_le (M 7) v g
  refine pv_aload_n (q := 375) C dL_kept_374 rfl rfl rfl ?_
  refine pv_iload (q := 377) C dL_kept_375 rfl rfl ?_
  refine pv_iload (q := 379) C dL_kept_377 rfl rfl ?_
  refine pv_callLl (q := 382) (rest := []) C Z hNC hKl (c_L_tableCount l X D P hfl M (W) h (nI v) (nI g)) tw_876 mw_L_tableCount ⟨rfl, rfl⟩ (by rw [hKR]; exact ⟨Nat.le_of_ble_eq_true rfl, Nat.le_of_ble_eq_true rfl⟩) (by rw [hKR]; constructor <;> (dsimp only; omega)) rfl rfl rfl (Nat.le_of_ble_eq_true rfl) dL_kept_379 rfl (fun r9 D9 P9 q9 => ?_)
  obtain ⟨e9, hR9⟩ := q9
  obtain rfl : r9 = (((nI (TN (M 7) v g)) : Int32).toInt64) := e9.trans (by rw [wv_0 (kGr_0 hv hg), ix_n (by omega), ix_n (by omega)])
  refine pv_iload (q := 384) C dL_kept_382 rfl rfl ?_
  refine pv_i2l (q := 385) C dL_kept_384 rfl ?_
  refine pv_lcmp (q := 386) C dL_kept_385 rfl ?_
  refine pv_if_ne (q := 389) (tgt := 458) C dL_kept_386 (by decide) rfl (fun c386_10 => False.elim (c386_10 ((lg_cmp_eq _ _).mpr (by rw [tr_16 _ _ _ hg])))) (fun _ => ?_)
  refine pv_aload_n (q := 390) C dL_kept_389 rfl rfl rfl ?_
  refine pv_iload (q := 392) C dL_kept_390 rfl rfl ?_
  refine pv_iload (q := 394) C dL_kept_392 rfl rfl ?_
  refine pv_callLl (q := 397) (rest := []) C Z hNC hKl (c_L_unlikeOf l X D9 P9 hfl M (W) hR9 (nI v) (nI g)) tw_911 mw_L_unlikeOf ⟨rfl, rfl⟩ (by rw [hKR]; exact ⟨Nat.le_of_ble_eq_true rfl, Nat.le_of_ble_eq_true rfl⟩) (by rw [hKR]; constructor <;> (dsimp only; omega)) rfl rfl rfl (Nat.le_of_ble_eq_true rfl) dL_kept_394 rfl (fun r11 D11 P11 q11 => ?_)
  obtain ⟨e11, hR11⟩ := q11
  obtain rfl : r11 = (((nI (kn (VF (M 7) v g) (VN (M 7) v g))) : Int32).toInt64) := e11.trans (by rw [wv_0 (kGr_0 hv hg), ix_n (by omega), ix_n (by omega)])
  refine pv_lload (q := 399) C dL_kept_397 rfl rfl ?_
  refine pv_lconst (q := 400) (v := 0) C dL_kept_399 rfl (by decide) ?_
  refine pv_lcmp (q := 401) C dL_kept_400 rfl ?_
  refine pv_if_ne (q := 404) (tgt := 408) C dL_kept_401 (by decide) rfl (fun c401_12 => False.elim (c401_12 ((lg_cmp_eq _ _).mpr (by rw [h0]; rfl)))) (fun _ => ?_)
  refine pv_lconst (q := 405) (v := 0) C dL_kept_404 rfl (by decide) ?_
  refine pv_goto (tgt := 409) C dL_kept_405 (by decide) ?_
  refine pv_lload (q := 411) C dL_kept_409 rfl rfl ?_
  refine pv_l2i (q := 412) C dL_kept_411 rfl rfl ?_
  refine pv_i2l (q := 413) C dL_kept_412 rfl ?_
  refine pv_callSi (q := 416) (rest := []) C hKl (c_L_in l X D11 P11 _ _ _) tw_894 mm_L_in ⟨rfl, rfl⟩ (by rw [hKR]; exact ⟨Nat.le_of_ble_eq_true rfl, Nat.le_of_ble_eq_true rfl⟩) (by rw [hKR]; constructor <;> (dsimp only; omega)) rfl rfl rfl (Nat.le_of_ble_eq_true rfl) dL_kept_413 rfl (fun r13 D13 P13 q13 => ?_)
  obtain ⟨rfl, rfl, rfl⟩ := q13
  refine pv_if_eq (q := 419) (tgt := 458) C dL_kept_416 (by decide) rfl (fun c416_14 => False.elim (absurd c416_14 (inI_n (l_p (n := 0) (by omega) (by have := kn_le (VF (M 7) v g) (VN (M 7) v g); omega) (Nat.zero_le _)) (by rw [l_ii]; exact l_p (by have := kn_le (VF (M 7) v g) (VN (M 7) v g); omega) (by omega) (kn_le _ _))))) (fun _ => ?_)
  refine pv_aload_n (q := 420) C dL_kept_419 rfl rfl rfl ?_
  refine pv_iload (q := 422) C dL_kept_420 rfl rfl ?_
  refine pv_iload (q := 424) C dL_kept_422 rfl rfl ?_
  refine pv_bipush (q := 426) (v := (-99)) C dL_kept_424 rfl (by decide) ?_
  refine pv_callLl (q := 429) (rest := []) C Z hNC hKl (c_L_rankOf l X D11 P11 hfl M (W) hR11 (nI v) (nI g) (-99)) tw_816 mw_L_rankOf ⟨rfl, rfl⟩ (by rw [hKR]; exact ⟨Nat.le_of_ble_eq_true rfl, Nat.le_of_ble_eq_true rfl⟩) (by rw [hKR]; constructor <;> (dsimp only; omega)) rfl rfl rfl (Nat.le_of_ble_eq_true rfl) dL_kept_426 rfl (fun r15 D15 P15 q15 => ?_)
  obtain ⟨e15, hR15⟩ := q15
  obtain rfl : r15 = (((nI (bl (VF (M 7) v g) (VN (M 7) v g) (-99))) : Int32).toInt64) := e15.trans (by rw [wv_0 (kRk_0n hv hg (by decide)), ix_n (by omega), ix_n (by omega)])
  refine pv_lconst (q := 430) (v := 0) C dL_kept_429 rfl (by decide) ?_
  refine pv_lcmp (q := 431) C dL_kept_430 rfl ?_
  refine pv_if_ne (q := 434) (tgt := 458) C dL_kept_431 (by decide) rfl (fun c431_16 => False.elim (c431_16 ((lg_cmp_eq _ _).mpr (by rw [hF.r99]; rfl)))) (fun _ => ?_)
  refine pv_lload (q := 436) C dL_kept_434 rfl rfl ?_
  refine pv_lconst (q := 437) (v := 0) C dL_kept_436 rfl (by decide) ?_
  refine pv_lcmp (q := 438) C dL_kept_437 rfl ?_
  refine pv_if_gt (q := 441) (tgt := 454) C dL_kept_438 (by decide) rfl (fun c438_17 => False.elim (Int64.not_le.mpr ((lg_cmp_gt _ _).mp c438_17) (by rw [h0]; exact Int64.le_refl _))) (fun _ => ?_)
  refine pv_aload_n (q := 442) C dL_kept_441 rfl rfl rfl ?_
  refine pv_iload (q := 444) C dL_kept_442 rfl rfl ?_
  refine pv_iload (q := 446) C dL_kept_444 rfl rfl ?_
  refine pv_callLl (q := 449) (rest := []) C Z hNC hKl (c_L_sumOf l X D15 P15 hfl M (W) hR15 (nI v) (nI g)) tw_918 mw_L_sumOf ⟨rfl, rfl⟩ (by rw [hKR]; exact ⟨Nat.le_of_ble_eq_true rfl, Nat.le_of_ble_eq_true rfl⟩) (by rw [hKR]; constructor <;> (dsimp only; omega)) rfl rfl rfl (Nat.le_of_ble_eq_true rfl) dL_kept_446 rfl (fun r18 D18 P18 q18 => ?_)
  obtain ⟨e18, hR18⟩ := q18
  obtain rfl : r18 = (((sm (VF (M 7) v g) (VN (M 7) v g)) : Int32).toInt64) := e18.trans (by rw [wv_0 (kGr_0 hv hg), ix_n (by omega), ix_n (by omega)])
  refine pv_lconst (q := 450) (v := 0) C dL_kept_449 rfl (by decide) ?_
  refine pv_lcmp (q := 451) C dL_kept_450 rfl ?_
  refine pv_if_ne (q := 454) (tgt := 458) C dL_kept_451 (by decide) rfl (fun c451_19 => False.elim (c451_19 ((lg_cmp_eq _ _).mpr (by rw [h0]; rfl)))) (fun _ => ?_)
  refine pv_iconst (q := 455) (v := 1) C dL_kept_454 rfl (by decide) ?_
  refine pv_goto (tgt := 459) C dL_kept_455 (by decide) ?_
  refine pv_istore_n (q := 460) C dL_kept_459 rfl rfl (Nat.le_of_ble_eq_true rfl) rfl ?_
  refine pv_iload_n (q := 461) C dL_kept_460 rfl rfl rfl ?_
  refine pv_if_eq (q := 464) (tgt := 680) C dL_kept_461 (by decide) rfl (fun c461_20 => absurd c461_20 (by decide)) (fun _ => ?_)
  refine pv_lload (q := 466) C dL_kept_464 rfl rfl ?_
  refine pv_lconst (q := 467) (v := 0) C dL_kept_466 rfl (by decide) ?_
  refine pv_lcmp (q := 468) C dL_kept_467 rfl ?_
  refine pv_if_le (q := 471) (tgt := 680) C dL_kept_468 (by decide) rfl (fun _ => ?_) (fun c468_21 => False.elim (c468_21 ((lg_cmp_le _ _).mpr (by rw [h0]; exact Int64.le_refl _))))
  refine pv_iload_n (q := 681) C dL_kept_680 rfl rfl rfl ?_
  refine pv_if_eq (q := 684) (tgt := 767) C dL_kept_681 (by decide) rfl (fun c681_22 => absurd c681_22 (by decide)) (fun _ => ?_)
  refine pv_aload_n (q := 685) C dL_kept_684 rfl rfl rfl ?_
  refine pv_iload (q := 687) C dL_kept_685 rfl rfl ?_
  refine pv_callLl (q := 690) (rest := []) C Z hNC hKl (c_L_unlikeGroups l X D18 P18 hfl M (W) hR18 (nI v)) tw_830 mw_L_unlikeGroups ⟨rfl, rfl⟩ (by rw [hKR]; exact ⟨Nat.le_of_ble_eq_true rfl, Nat.le_of_ble_eq_true rfl⟩) (by rw [hKR]; constructor <;> (dsimp only; omega)) rfl rfl rfl (Nat.le_of_ble_eq_true rfl) dL_kept_687 rfl (fun r23 D23 P23 q23 => ?_)
  obtain ⟨e23, hR23⟩ := q23
  obtain rfl : r23 = (((umN (M 7) v 4) : Int32).toInt64) := e23.trans (by rw [wv_0 (kView_0 hv), ix_n (by omega)])
  refine pv_iload (q := 692) C dL_kept_690 rfl rfl ?_
  refine pv_lshr (q := 693) C dL_kept_692 rfl rfl ?_
  refine pv_lconst (q := 694) (v := 1) C dL_kept_693 rfl (by decide) ?_
  refine pv_land (q := 695) C dL_kept_694 rfl ?_
  refine pv_lconst (q := 696) (v := 0) C dL_kept_695 rfl (by decide) ?_
  refine pv_lcmp (q := 697) C dL_kept_696 rfl ?_
  refine pv_if_ne (q := 700) (tgt := 767) C dL_kept_697 (by decide) rfl (fun cb9 => ?_) (fun cb9 => ?_)
  ·
    exact PV_widen (by omega) (by omega) (PV_le (k D23 P23 hR23) ⟨Or.inr rfl, Or.inr rfl, Or.inr rfl, Or.inl rfl, Or.inr rfl, Or.inr rfl, Or.inr rfl, Or.inl rfl, Or.inr rfl, Or.inl rfl, Or.inl rfl, Or.inl rfl, Or.inl rfl, Or.inl rfl, Or.inl rfl, Or.inl rfl, Or.inl rfl, Or.inl rfl, trivial⟩)
  ·
    have hlk := um_bit hg ((lg_cmp_eq _ _).mp cb9)
    refine pv_lload (q := 702) C dL_kept_700 rfl rfl ?_
    refine pv_aload_n (q := 703) C dL_kept_702 rfl rfl rfl ?_
    refine pv_iload (q := 705) C dL_kept_703 rfl rfl ?_
    refine pv_iload (q := 707) C dL_kept_705 rfl rfl ?_
    refine pv_callLl (q := 710) (rest := [.long ((nI (VN (M 7) v g)).toInt64)]) C Z hNC hKl (c_L_tableCount l X D23 P23 hfl M (W) hR23 (nI v) (nI g)) tw_876 mw_L_tableCount ⟨rfl, rfl⟩ (by rw [hKR]; exact ⟨Nat.le_of_ble_eq_true rfl, Nat.le_of_ble_eq_true rfl⟩) (by rw [hKR]; constructor <;> (dsimp only; omega)) rfl rfl rfl (Nat.le_of_ble_eq_true rfl) dL_kept_707 rfl (fun r25 D25 P25 q25 => ?_)
    obtain ⟨e25, hR25⟩ := q25
    obtain rfl : r25 = (((nI (TN (M 7) v g)) : Int32).toInt64) := e25.trans (by rw [wv_0 (kGr_0 hv hg), ix_n (by omega), ix_n (by omega)])
    refine pv_lcmp (q := 711) C dL_kept_710 rfl ?_
    refine pv_if_ne (q := 714) (tgt := 765) C dL_kept_711 (by decide) rfl (fun c711_26 => False.elim (c711_26 ((lg_cmp_eq _ _).mpr (by rw [hlk.1])))) (fun _ => ?_)
    refine pv_aload_n (q := 715) C dL_kept_714 rfl rfl rfl ?_
    refine pv_iload (q := 717) C dL_kept_715 rfl rfl ?_
    refine pv_iload (q := 719) C dL_kept_717 rfl rfl ?_
    refine pv_callLl (q := 722) (rest := []) C Z hNC hKl (c_L_sumOf l X D25 P25 hfl M (W) hR25 (nI v) (nI g)) tw_918 mw_L_sumOf ⟨rfl, rfl⟩ (by rw [hKR]; exact ⟨Nat.le_of_ble_eq_true rfl, Nat.le_of_ble_eq_true rfl⟩) (by rw [hKR]; constructor <;> (dsimp only; omega)) rfl rfl rfl (Nat.le_of_ble_eq_true rfl) dL_kept_719 rfl (fun r27 D27 P27 q27 => ?_)
    obtain ⟨e27, hR27⟩ := q27
    obtain rfl : r27 = (((sm (VF (M 7) v g) (VN (M 7) v g)) : Int32).toInt64) := e27.trans (by rw [wv_0 (kGr_0 hv hg), ix_n (by omega), ix_n (by omega)])
    refine pv_aload_n (q := 723) C dL_kept_722 rfl rfl rfl ?_
    refine pv_iload (q := 725) C dL_kept_723 rfl rfl ?_
    refine pv_iload (q := 727) C dL_kept_725 rfl rfl ?_
    refine pv_callLl (q := 730) (rest := [.long (((sm (VF (M 7) v g) (VN (M 7) v g)) : Int32).toInt64)]) C Z hNC hKl (c_L_tableSum l X D27 P27 hfl M (W) hR27 (nI v) (nI g)) tw_926 mw_L_tableSum ⟨rfl, rfl⟩ (by rw [hKR]; exact ⟨Nat.le_of_ble_eq_true rfl, Nat.le_of_ble_eq_true rfl⟩) (by rw [hKR]; constructor <;> (dsimp only; omega)) rfl rfl rfl (Nat.le_of_ble_eq_true rfl) dL_kept_727 rfl (fun r28 D28 P28 q28 => ?_)
    obtain ⟨e28, hR28⟩ := q28
    obtain rfl : r28 = (((sm (TF (M 7) v g) (TN (M 7) v g)) : Int32).toInt64) := e28.trans (by rw [wv_0 (kGr_0 hv hg), ix_n (by omega), ix_n (by omega)])
    refine pv_lcmp (q := 731) C dL_kept_730 rfl ?_
    refine pv_if_ne (q := 734) (tgt := 765) C dL_kept_731 (by decide) rfl (fun c731_29 => False.elim (c731_29 ((lg_cmp_eq _ _).mpr (by rw [hlk.2.1])))) (fun _ => ?_)
    refine pv_lload (q := 736) C dL_kept_734 rfl rfl ?_
    refine pv_lconst (q := 737) (v := 0) C dL_kept_736 rfl (by decide) ?_
    refine pv_lcmp (q := 738) C dL_kept_737 rfl ?_
    refine pv_if_eq (q := 741) (tgt := 761) C dL_kept_738 (by decide) rfl (fun _ => ?_) (fun c738_30 => False.elim (c738_30 ((lg_cmp_eq _ _).mpr (by rw [h0]; rfl))))
    refine pv_iconst (q := 762) (v := 1) C dL_kept_761 rfl (by decide) ?_
    refine pv_goto (tgt := 766) C dL_kept_762 (by decide) ?_
    refine pv_istore_n (q := 767) C dL_kept_766 rfl rfl (Nat.le_of_ble_eq_true rfl) rfl ?_
    exact PV_widen (by omega) (by omega) (PV_le (k D28 P28 hR28) ⟨Or.inr rfl, Or.inr rfl, Or.inr rfl, Or.inl rfl, Or.inr rfl, Or.inr rfl, Or.inr rfl, Or.inl rfl, Or.inr rfl, Or.inl rfl, Or.inl rfl, Or.inl rfl, Or.inl rfl, Or.inl rfl, Or.inl rfl, Or.inl rfl, Or.inl rfl, Or.inl rfl, trivial⟩)
set_option maxRecDepth 100000 in
set_option maxHeartbeats 8000000 in
theorem kp_n {l : Launch} {K : KT} {X : XT} {w0 : Cond} {Q : State → Prop} {M : DT} {W : Nat} (hW : W + 200 < 2 ^ 29) (L : LK l K X cL_kept RL w0 18 (some .boolean) ({ frames := 10, cells := 2300, slots := 13800, locals := 360 } : Room)) {V : Nat} (hJ : JJ (M 7) V) {mo a6 : Int64} {nb : Int32} {v g cb : Nat} (hv : v < 3) (hg : g < 4) (h0 : 0 < VN (M 7) v g) (hc : cb + 60 ≤ 2300) (k : ∀ (D : DT) (P : PT), RI D P M W → PV K X Q (cb + 60) (6 * (cb + 60)) 767 [some (.ref (X.2.2 0)), some (.int 1), some (.long mo), none, some (.int (nI v)), some (.int nb), some (.long a6), none, some (.int (nI g)), none, none, none, none, none, none, none, none, none] [] D P) (D : DT) (P : PT) (h : RI D P M W) : PV K X Q (cb) (6 * cb) 374 [some (.ref (X.2.2 0)), some (.int 1), some (.long mo), none, some (.int (nI v)), some (.int nb), some (.long a6), none, some (.int (nI g)), some (.long ((nI (VN (M 7) v g)).toInt64)), none, some (.int (nI (tr (M 7) v g 16))), none, none, none, none, none, none] [] D P := by
  obtain ⟨hKl, hKR, C, Z, hNC, hfl⟩ := id L
  have hF := FB_V (g := g) hJ.1 hv
  have hn16 := VN_le (M 7) v g
  have h0n : ¬ VN (M 7) v g = 0 := by omega
  refine pv_aload_n (q := 375) C dL_kept_374 rfl rfl rfl ?_
  refine pv_iload (q := 377) C dL_kept_375 rfl rfl ?_
  refine pv_iload (q := 379) C dL_kept_377 rfl rfl ?_
  refine pv_callLl (q := 382) (rest := []) C Z hNC hKl (c_L_tableCount l X D P hfl M (W) h (nI v) (nI g)) tw_876 mw_L_tableCount ⟨rfl, rfl⟩ (by rw [hKR]; exact ⟨Nat.le_of_ble_eq_true rfl, Nat.le_of_ble_eq_true rfl⟩) (by rw [hKR]; constructor <;> (dsimp only; omega)) rfl rfl rfl (Nat.le_of_ble_eq_true rfl) dL_kept_379 rfl (fun r31 D31 P31 q31 => ?_)
  obtain ⟨e31, hR31⟩ := q31
  obtain rfl : r31 = (((nI (TN (M 7) v g)) : Int32).toInt64) := e31.trans (by rw [wv_0 (kGr_0 hv hg), ix_n (by omega), ix_n (by omega)])
  refine pv_iload (q := 384) C dL_kept_382 rfl rfl ?_
  refine pv_i2l (q := 385) C dL_kept_384 rfl ?_
  refine pv_lcmp (q := 386) C dL_kept_385 rfl ?_
  refine pv_if_ne (q := 389) (tgt := 458) C dL_kept_386 (by decide) rfl (fun c386_32 => False.elim (c386_32 ((lg_cmp_eq _ _).mpr (by rw [tr_16 _ _ _ hg])))) (fun _ => ?_)
  refine pv_aload_n (q := 390) C dL_kept_389 rfl rfl rfl ?_
  refine pv_iload (q := 392) C dL_kept_390 rfl rfl ?_
  refine pv_iload (q := 394) C dL_kept_392 rfl rfl ?_
  refine pv_callLl (q := 397) (rest := []) C Z hNC hKl (c_L_unlikeOf l X D31 P31 hfl M (W) hR31 (nI v) (nI g)) tw_911 mw_L_unlikeOf ⟨rfl, rfl⟩ (by rw [hKR]; exact ⟨Nat.le_of_ble_eq_true rfl, Nat.le_of_ble_eq_true rfl⟩) (by rw [hKR]; constructor <;> (dsimp only; omega)) rfl rfl rfl (Nat.le_of_ble_eq_true rfl) dL_kept_394 rfl (fun r33 D33 P33 q33 => ?_)
  obtain ⟨e33, hR33⟩ := q33
  obtain rfl : r33 = (((nI (kn (VF (M 7) v g) (VN (M 7) v g))) : Int32).toInt64) := e33.trans (by rw [wv_0 (kGr_0 hv hg), ix_n (by omega), ix_n (by omega)])
  refine pv_lload (q := 399) C dL_kept_397 rfl rfl ?_
  refine pv_lconst (q := 400) (v := 0) C dL_kept_399 rfl (by decide) ?_
  refine pv_lcmp (q := 401) C dL_kept_400 rfl ?_
  refine pv_if_ne (q := 404) (tgt := 408) C dL_kept_401 (by decide) rfl (fun _ => ?_) (fun c401_34 => False.elim ((fun z => absurd ((nI_eq (b := 0) (by omega) (by omega)).mp (l_eq.mp z)) h0n) ((lg_cmp_eq _ _).mp c401_34)))
  refine pv_lconst (q := 409) (v := 1) C dL_kept_408 rfl (by decide) ?_
  refine pv_lload (q := 411) C dL_kept_409 rfl rfl ?_
  refine pv_l2i (q := 412) C dL_kept_411 rfl rfl ?_
  refine pv_i2l (q := 413) C dL_kept_412 rfl ?_
  refine pv_callSi (q := 416) (rest := []) C hKl (c_L_in l X D33 P33 _ _ _) tw_894 mm_L_in ⟨rfl, rfl⟩ (by rw [hKR]; exact ⟨Nat.le_of_ble_eq_true rfl, Nat.le_of_ble_eq_true rfl⟩) (by rw [hKR]; constructor <;> (dsimp only; omega)) rfl rfl rfl (Nat.le_of_ble_eq_true rfl) dL_kept_413 rfl (fun r35 D35 P35 q35 => ?_)
  obtain ⟨rfl, rfl, rfl⟩ := q35
  refine pv_if_eq (q := 419) (tgt := 458) C dL_kept_416 (by decide) rfl (fun c416_36 => False.elim (absurd c416_36 (inI_n (l_p (n := 1) (by omega) (by have := kn_le (VF (M 7) v g) (VN (M 7) v g); omega) (kn_1 _ _ h0)) (by rw [l_ii]; exact l_p (by have := kn_le (VF (M 7) v g) (VN (M 7) v g); omega) (by omega) (kn_le _ _))))) (fun _ => ?_)
  refine pv_aload_n (q := 420) C dL_kept_419 rfl rfl rfl ?_
  refine pv_iload (q := 422) C dL_kept_420 rfl rfl ?_
  refine pv_iload (q := 424) C dL_kept_422 rfl rfl ?_
  refine pv_bipush (q := 426) (v := (-99)) C dL_kept_424 rfl (by decide) ?_
  refine pv_callLl (q := 429) (rest := []) C Z hNC hKl (c_L_rankOf l X D33 P33 hfl M (W) hR33 (nI v) (nI g) (-99)) tw_816 mw_L_rankOf ⟨rfl, rfl⟩ (by rw [hKR]; exact ⟨Nat.le_of_ble_eq_true rfl, Nat.le_of_ble_eq_true rfl⟩) (by rw [hKR]; constructor <;> (dsimp only; omega)) rfl rfl rfl (Nat.le_of_ble_eq_true rfl) dL_kept_426 rfl (fun r37 D37 P37 q37 => ?_)
  obtain ⟨e37, hR37⟩ := q37
  obtain rfl : r37 = (((nI (bl (VF (M 7) v g) (VN (M 7) v g) (-99))) : Int32).toInt64) := e37.trans (by rw [wv_0 (kRk_0n hv hg (by decide)), ix_n (by omega), ix_n (by omega)])
  refine pv_lconst (q := 430) (v := 0) C dL_kept_429 rfl (by decide) ?_
  refine pv_lcmp (q := 431) C dL_kept_430 rfl ?_
  refine pv_if_ne (q := 434) (tgt := 458) C dL_kept_431 (by decide) rfl (fun c431_38 => False.elim (c431_38 ((lg_cmp_eq _ _).mpr (by rw [hF.r99]; rfl)))) (fun _ => ?_)
  refine pv_lload (q := 436) C dL_kept_434 rfl rfl ?_
  refine pv_lconst (q := 437) (v := 0) C dL_kept_436 rfl (by decide) ?_
  refine pv_lcmp (q := 438) C dL_kept_437 rfl ?_
  refine pv_if_gt (q := 441) (tgt := 454) C dL_kept_438 (by decide) rfl (fun _ => ?_) (fun c438_39 => False.elim (c438_39 ((lg_cmp_gt _ _).mpr (l_pl (n := 0) (by omega) (by omega) h0))))
  refine pv_iconst (q := 455) (v := 1) C dL_kept_454 rfl (by decide) ?_
  refine pv_goto (tgt := 459) C dL_kept_455 (by decide) ?_
  refine pv_istore_n (q := 460) C dL_kept_459 rfl rfl (Nat.le_of_ble_eq_true rfl) rfl ?_
  refine pv_iload_n (q := 461) C dL_kept_460 rfl rfl rfl ?_
  refine pv_if_eq (q := 464) (tgt := 680) C dL_kept_461 (by decide) rfl (fun c461_40 => absurd c461_40 (by decide)) (fun _ => ?_)
  refine pv_lload (q := 466) C dL_kept_464 rfl rfl ?_
  refine pv_lconst (q := 467) (v := 0) C dL_kept_466 rfl (by decide) ?_
  refine pv_lcmp (q := 468) C dL_kept_467 rfl ?_
  refine pv_if_le (q := 471) (tgt := 680) C dL_kept_468 (by decide) rfl (fun c468_41 => False.elim (Int64.not_le.mpr (l_pl (n := 0) (by omega) (by omega) h0) ((lg_cmp_le _ _).mp c468_41))) (fun _ => ?_)
  refine pv_aload_n (q := 472) C dL_kept_471 rfl rfl rfl ?_
  refine pv_iload (q := 474) C dL_kept_472 rfl rfl ?_
  refine pv_iload (q := 476) C dL_kept_474 rfl rfl ?_
  refine pv_callLl (q := 479) (rest := []) C Z hNC hKl (c_L_leastOf l X D37 P37 hfl M (W) hR37 (nI v) (nI g)) tw_851 mw_L_leastOf ⟨rfl, rfl⟩ (by rw [hKR]; exact ⟨Nat.le_of_ble_eq_true rfl, Nat.le_of_ble_eq_true rfl⟩) (by rw [hKR]; constructor <;> (dsimp only; omega)) rfl rfl rfl (Nat.le_of_ble_eq_true rfl) dL_kept_476 rfl (fun r42 D42 P42 q42 => ?_)
  obtain ⟨e42, hR42⟩ := q42
  obtain rfl : r42 = (((at0 (VF (M 7) v g) (VN (M 7) v g) (0)) : Int32).toInt64) := e42.trans (by rw [wv_0 (kAm_0n hv hg (h0n)), ix_n (by omega), ix_n (by omega)])
  rw [at0_p h0n]
  refine pv_lstore (q := 481) C dL_kept_479 rfl (Nat.le_of_ble_eq_true rfl) rfl ?_
  refine pv_aload_n (q := 482) C dL_kept_481 rfl rfl rfl ?_
  refine pv_iload (q := 484) C dL_kept_482 rfl rfl ?_
  refine pv_iload (q := 486) C dL_kept_484 rfl rfl ?_
  refine pv_callLl (q := 489) (rest := []) C Z hNC hKl (c_L_greatestOf l X D42 P42 hfl M (W) hR42 (nI v) (nI g)) tw_862 mw_L_greatestOf ⟨rfl, rfl⟩ (by rw [hKR]; exact ⟨Nat.le_of_ble_eq_true rfl, Nat.le_of_ble_eq_true rfl⟩) (by rw [hKR]; constructor <;> (dsimp only; omega)) rfl rfl rfl (Nat.le_of_ble_eq_true rfl) dL_kept_486 rfl (fun r43 D43 P43 q43 => ?_)
  obtain ⟨e43, hR43⟩ := q43
  obtain rfl : r43 = (((at0 (VF (M 7) v g) (VN (M 7) v g) (VN (M 7) v g - 1)) : Int32).toInt64) := e43.trans (by rw [wv_0 (kAm_0n hv hg (h0n)), ix_n (by omega), ix_n (by omega)])
  rw [at0_p h0n]
  refine pv_lstore (q := 491) C dL_kept_489 rfl (Nat.le_of_ble_eq_true rfl) rfl ?_
  refine pv_aload_n (q := 492) C dL_kept_491 rfl rfl rfl ?_
  refine pv_iload (q := 494) C dL_kept_492 rfl rfl ?_
  refine pv_iload (q := 496) C dL_kept_494 rfl rfl ?_
  refine pv_callLl (q := 499) (rest := []) C Z hNC hKl (c_L_medianOf l X D43 P43 hfl M (W) hR43 (nI v) (nI g)) tw_869 mw_L_medianOf ⟨rfl, rfl⟩ (by rw [hKR]; exact ⟨Nat.le_of_ble_eq_true rfl, Nat.le_of_ble_eq_true rfl⟩) (by rw [hKR]; constructor <;> (dsimp only; omega)) rfl rfl rfl (Nat.le_of_ble_eq_true rfl) dL_kept_496 rfl (fun r44 D44 P44 q44 => ?_)
  obtain ⟨e44, hR44⟩ := q44
  obtain rfl : r44 = (((at0 (VF (M 7) v g) (VN (M 7) v g) ((VN (M 7) v g - 1) / 2)) : Int32).toInt64) := e44.trans (by rw [wv_0 (kAm_0n hv hg (h0n)), ix_n (by omega), ix_n (by omega)])
  rw [at0_p h0n]
  refine pv_lstore (q := 501) C dL_kept_499 rfl (Nat.le_of_ble_eq_true rfl) rfl ?_
  refine pv_lload (q := 503) C dL_kept_501 rfl rfl ?_
  refine pv_aload_n (q := 504) C dL_kept_503 rfl rfl rfl ?_
  refine pv_iload (q := 506) C dL_kept_504 rfl rfl ?_
  refine pv_callLl (q := 509) (rest := [.long ((VF (M 7) v g 0).toInt64)]) C Z hNC hKl (c_L_filterOf l X D44 P44 hfl M (W) hR44 (nI v)) tw_907 mw_L_filterOf ⟨rfl, rfl⟩ (by rw [hKR]; exact ⟨Nat.le_of_ble_eq_true rfl, Nat.le_of_ble_eq_true rfl⟩) (by rw [hKR]; constructor <;> (dsimp only; omega)) rfl rfl rfl (Nat.le_of_ble_eq_true rfl) dL_kept_506 rfl (fun r45 D45 P45 q45 => ?_)
  obtain ⟨e45, hR45⟩ := q45
  obtain rfl : r45 = (((M 7 (32 + 38 * v + 34)) : Int32).toInt64) := e45.trans (by rw [wv_0 (kView_0 hv), ix_n (by omega)])
  refine pv_lcmp (q := 510) C dL_kept_509 rfl ?_
  refine pv_if_lt (q := 513) (tgt := 678) C dL_kept_510 (by decide) rfl (fun c510_46 => False.elim (Int64.not_le.mpr ((lg_cmp_lt _ _).mp c510_46) (l_le.mpr (VF_lo h0)))) (fun _ => ?_)
  refine pv_lload (q := 515) C dL_kept_513 rfl rfl ?_
  refine pv_lload (q := 517) C dL_kept_515 rfl rfl ?_
  refine pv_lcmp (q := 518) C dL_kept_517 rfl ?_
  refine pv_if_gt (q := 521) (tgt := 678) C dL_kept_518 (by decide) rfl (fun c518_47 => False.elim (Int64.not_le.mpr ((lg_cmp_gt _ _).mp c518_47) (l_le.mpr (hF.1 0 _ (by omega) (by omega))))) (fun _ => ?_)
  refine pv_lload (q := 523) C dL_kept_521 rfl rfl ?_
  refine pv_lload (q := 525) C dL_kept_523 rfl rfl ?_
  refine pv_lcmp (q := 526) C dL_kept_525 rfl ?_
  refine pv_if_gt (q := 529) (tgt := 678) C dL_kept_526 (by decide) rfl (fun c526_48 => False.elim (Int64.not_le.mpr ((lg_cmp_gt _ _).mp c526_48) (l_le.mpr (hF.1 _ _ (by omega) (by omega))))) (fun _ => ?_)
  refine pv_aload_n (q := 530) C dL_kept_529 rfl rfl rfl ?_
  refine pv_iload (q := 532) C dL_kept_530 rfl rfl ?_
  refine pv_iload (q := 534) C dL_kept_532 rfl rfl ?_
  refine pv_callLl (q := 537) (rest := []) C Z hNC hKl (c_L_sumOf l X D45 P45 hfl M (W) hR45 (nI v) (nI g)) tw_918 mw_L_sumOf ⟨rfl, rfl⟩ (by rw [hKR]; exact ⟨Nat.le_of_ble_eq_true rfl, Nat.le_of_ble_eq_true rfl⟩) (by rw [hKR]; constructor <;> (dsimp only; omega)) rfl rfl rfl (Nat.le_of_ble_eq_true rfl) dL_kept_534 rfl (fun r49 D49 P49 q49 => ?_)
  obtain ⟨e49, hR49⟩ := q49
  obtain rfl : r49 = (((sm (VF (M 7) v g) (VN (M 7) v g)) : Int32).toInt64) := e49.trans (by rw [wv_0 (kGr_0 hv hg), ix_n (by omega), ix_n (by omega)])
  refine pv_lload (q := 539) C dL_kept_537 rfl rfl ?_
  refine pv_lload (q := 541) C dL_kept_539 rfl rfl ?_
  refine pv_lmul (q := 542) C dL_kept_541 rfl ?_
  refine pv_lcmp (q := 543) C dL_kept_542 rfl ?_
  refine pv_if_lt (q := 546) (tgt := 678) C dL_kept_543 (by decide) rfl (fun c543_50 => False.elim (Int64.not_le.mpr ((lg_cmp_lt _ _).mp c543_50) (hF.sumlo h0))) (fun _ => ?_)
  refine pv_aload_n (q := 547) C dL_kept_546 rfl rfl rfl ?_
  refine pv_iload (q := 549) C dL_kept_547 rfl rfl ?_
  refine pv_iload (q := 551) C dL_kept_549 rfl rfl ?_
  refine pv_callLl (q := 554) (rest := []) C Z hNC hKl (c_L_sumOf l X D49 P49 hfl M (W) hR49 (nI v) (nI g)) tw_918 mw_L_sumOf ⟨rfl, rfl⟩ (by rw [hKR]; exact ⟨Nat.le_of_ble_eq_true rfl, Nat.le_of_ble_eq_true rfl⟩) (by rw [hKR]; constructor <;> (dsimp only; omega)) rfl rfl rfl (Nat.le_of_ble_eq_true rfl) dL_kept_551 rfl (fun r51 D51 P51 q51 => ?_)
  obtain ⟨e51, hR51⟩ := q51
  obtain rfl : r51 = (((sm (VF (M 7) v g) (VN (M 7) v g)) : Int32).toInt64) := e51.trans (by rw [wv_0 (kGr_0 hv hg), ix_n (by omega), ix_n (by omega)])
  refine pv_lload (q := 556) C dL_kept_554 rfl rfl ?_
  refine pv_lload (q := 558) C dL_kept_556 rfl rfl ?_
  refine pv_lmul (q := 559) C dL_kept_558 rfl ?_
  refine pv_lcmp (q := 560) C dL_kept_559 rfl ?_
  refine pv_if_gt (q := 563) (tgt := 678) C dL_kept_560 (by decide) rfl (fun c560_52 => False.elim (Int64.not_le.mpr ((lg_cmp_gt _ _).mp c560_52) (hF.sumhi h0))) (fun _ => ?_)
  refine pv_aload_n (q := 564) C dL_kept_563 rfl rfl rfl ?_
  refine pv_iload (q := 566) C dL_kept_564 rfl rfl ?_
  refine pv_iload (q := 568) C dL_kept_566 rfl rfl ?_
  refine pv_lload (q := 570) C dL_kept_568 rfl rfl ?_
  refine pv_l2i (q := 571) C dL_kept_570 rfl rfl ?_
  refine pv_callLl (q := 574) (rest := []) C Z hNC hKl (c_L_rankOf l X D51 P51 hfl M (W) hR51 (nI v) (nI g) (((VF (M 7) v g 0).toInt64)).toInt32) tw_816 mw_L_rankOf ⟨rfl, rfl⟩ (by rw [hKR]; exact ⟨Nat.le_of_ble_eq_true rfl, Nat.le_of_ble_eq_true rfl⟩) (by rw [hKR]; constructor <;> (dsimp only; omega)) rfl rfl rfl (Nat.le_of_ble_eq_true rfl) dL_kept_571 rfl (fun r53 D53 P53 q53 => ?_)
  obtain ⟨e53, hR53⟩ := q53
  obtain rfl : r53 = (((nI (bl (VF (M 7) v g) (VN (M 7) v g) (((VF (M 7) v g 0).toInt64)).toInt32)) : Int32).toInt64) := e53.trans (by rw [wv_0 (kRk_0n hv hg (by rw [l_ii]; exact hF.2.2 0 h0)), ix_n (by omega), ix_n (by omega)])
  rw [l_ii]
  refine pv_lconst (q := 575) (v := 0) C dL_kept_574 rfl (by decide) ?_
  refine pv_lcmp (q := 576) C dL_kept_575 rfl ?_
  refine pv_if_ne (q := 579) (tgt := 678) C dL_kept_576 (by decide) rfl (fun c576_54 => False.elim (c576_54 ((lg_cmp_eq _ _).mpr (by rw [hF.r0 h0]; rfl)))) (fun _ => ?_)
  refine pv_aload_n (q := 580) C dL_kept_579 rfl rfl rfl ?_
  refine pv_iload (q := 582) C dL_kept_580 rfl rfl ?_
  refine pv_iload (q := 584) C dL_kept_582 rfl rfl ?_
  refine pv_lload (q := 586) C dL_kept_584 rfl rfl ?_
  refine pv_l2i (q := 587) C dL_kept_586 rfl rfl ?_
  refine pv_callLl (q := 590) (rest := []) C Z hNC hKl (c_L_rankOf l X D53 P53 hfl M (W) hR53 (nI v) (nI g) (((VF (M 7) v g ((VN (M 7) v g - 1) / 2)).toInt64)).toInt32) tw_816 mw_L_rankOf ⟨rfl, rfl⟩ (by rw [hKR]; exact ⟨Nat.le_of_ble_eq_true rfl, Nat.le_of_ble_eq_true rfl⟩) (by rw [hKR]; constructor <;> (dsimp only; omega)) rfl rfl rfl (Nat.le_of_ble_eq_true rfl) dL_kept_587 rfl (fun r55 D55 P55 q55 => ?_)
  obtain ⟨e55, hR55⟩ := q55
  obtain rfl : r55 = (((nI (bl (VF (M 7) v g) (VN (M 7) v g) (((VF (M 7) v g ((VN (M 7) v g - 1) / 2)).toInt64)).toInt32)) : Int32).toInt64) := e55.trans (by rw [wv_0 (kRk_0n hv hg (by rw [l_ii]; exact hF.2.2 _ (by omega))), ix_n (by omega), ix_n (by omega)])
  rw [l_ii]
  refine pv_lload (q := 592) C dL_kept_590 rfl rfl ?_
  refine pv_lconst (q := 593) (v := 1) C dL_kept_592 rfl (by decide) ?_
  refine pv_lsub (q := 594) C dL_kept_593 rfl ?_
  refine pv_ldc2 (q := 597) C dL_kept_594 rfl tw_925 ?_
  refine pv_ldiv (q := 598) C dL_kept_597 rfl (by decide) ?_
  refine pv_lcmp (q := 599) C dL_kept_598 rfl ?_
  refine pv_if_gt (q := 602) (tgt := 678) C dL_kept_599 (by decide) rfl (fun c599_56 => False.elim (Int64.not_le.mpr ((lg_cmp_gt _ _).mp c599_56) (by rw [nI_half hn16 h0]; exact l_p (by have := hF.rm h0; omega) (by omega) (hF.rm h0)))) (fun _ => ?_)
  refine pv_aload_n (q := 603) C dL_kept_602 rfl rfl rfl ?_
  refine pv_iload (q := 605) C dL_kept_603 rfl rfl ?_
  refine pv_iload (q := 607) C dL_kept_605 rfl rfl ?_
  refine pv_lload (q := 609) C dL_kept_607 rfl rfl ?_
  refine pv_l2i (q := 610) C dL_kept_609 rfl rfl ?_
  refine pv_callLl (q := 613) (rest := []) C Z hNC hKl (c_L_rankOf l X D55 P55 hfl M (W) hR55 (nI v) (nI g) (((VF (M 7) v g (VN (M 7) v g - 1)).toInt64)).toInt32) tw_816 mw_L_rankOf ⟨rfl, rfl⟩ (by rw [hKR]; exact ⟨Nat.le_of_ble_eq_true rfl, Nat.le_of_ble_eq_true rfl⟩) (by rw [hKR]; constructor <;> (dsimp only; omega)) rfl rfl rfl (Nat.le_of_ble_eq_true rfl) dL_kept_610 rfl (fun r57 D57 P57 q57 => ?_)
  obtain ⟨e57, hR57⟩ := q57
  obtain rfl : r57 = (((nI (bl (VF (M 7) v g) (VN (M 7) v g) (((VF (M 7) v g (VN (M 7) v g - 1)).toInt64)).toInt32)) : Int32).toInt64) := e57.trans (by rw [wv_0 (kRk_0n hv hg (by rw [l_ii]; exact hF.2.2 _ (by omega))), ix_n (by omega), ix_n (by omega)])
  rw [l_ii]
  refine pv_lload (q := 615) C dL_kept_613 rfl rfl ?_
  refine pv_lcmp (q := 616) C dL_kept_615 rfl ?_
  refine pv_if_ge (q := 619) (tgt := 678) C dL_kept_616 (by decide) rfl (fun c616_58 => False.elim (Int64.not_le.mpr (l_pl (by have := hF.rh h0; omega) (by omega) (hF.rh h0)) ((lg_cmp_ge _ _).mp c616_58))) (fun _ => ?_)
  refine pv_lload (q := 621) C dL_kept_619 rfl rfl ?_
  refine pv_lload (q := 623) C dL_kept_621 rfl rfl ?_
  refine pv_lcmp (q := 624) C dL_kept_623 rfl ?_
  refine pv_if_ne (q := 627) (tgt := 631) C dL_kept_624 (by decide) rfl (fun c6 => ?_) (fun c6 => ?_)
  ·
    have u1 : ¬ kn (VF (M 7) v g) (VN (M 7) v g) = 1 := fun z => c6 ((lg_cmp_eq _ _).mpr (l_eq.mpr ((hF.u1 h0).mpr z)))
    refine pv_iconst (q := 632) (v := 0) C dL_kept_631 rfl (by decide) ?_
    refine pv_aload_n (q := 633) C dL_kept_632 rfl rfl rfl ?_
    refine pv_iload (q := 635) C dL_kept_633 rfl rfl ?_
    refine pv_iload (q := 637) C dL_kept_635 rfl rfl ?_
    refine pv_callLl (q := 640) (rest := [.int 0]) C Z hNC hKl (c_L_unlikeOf l X D57 P57 hfl M (W) hR57 (nI v) (nI g)) tw_911 mw_L_unlikeOf ⟨rfl, rfl⟩ (by rw [hKR]; exact ⟨Nat.le_of_ble_eq_true rfl, Nat.le_of_ble_eq_true rfl⟩) (by rw [hKR]; constructor <;> (dsimp only; omega)) rfl rfl rfl (Nat.le_of_ble_eq_true rfl) dL_kept_637 rfl (fun r60 D60 P60 q60 => ?_)
    obtain ⟨e60, hR60⟩ := q60
    obtain rfl : r60 = (((nI (kn (VF (M 7) v g) (VN (M 7) v g))) : Int32).toInt64) := e60.trans (by rw [wv_0 (kGr_0 hv hg), ix_n (by omega), ix_n (by omega)])
    refine pv_lconst (q := 641) (v := 1) C dL_kept_640 rfl (by decide) ?_
    refine pv_lcmp (q := 642) C dL_kept_641 rfl ?_
    refine pv_if_ne (q := 645) (tgt := 649) C dL_kept_642 (by decide) rfl (fun _ => ?_) (fun c642_61 => False.elim ((fun z => u1 ((nI_eq (b := 1) (by have := kn_le (VF (M 7) v g) (VN (M 7) v g); omega) (by omega)).mp (l_eq.mp z))) ((lg_cmp_eq _ _).mp c642_61)))
    refine pv_iconst (q := 650) (v := 0) C dL_kept_649 rfl (by decide) ?_
    refine pv_icmp_ne (q := 653) (tgt := 678) C dL_kept_650 (by decide) rfl (fun c650_62 => False.elim (c650_62 (rfl))) (fun _ => ?_)
    refine pv_aload_n (q := 654) C dL_kept_653 rfl rfl rfl ?_
    refine pv_iload (q := 656) C dL_kept_654 rfl rfl ?_
    refine pv_iload (q := 658) C dL_kept_656 rfl rfl ?_
    refine pv_callLl (q := 661) (rest := []) C Z hNC hKl (c_L_unlikeOf l X D60 P60 hfl M (W) hR60 (nI v) (nI g)) tw_911 mw_L_unlikeOf ⟨rfl, rfl⟩ (by rw [hKR]; exact ⟨Nat.le_of_ble_eq_true rfl, Nat.le_of_ble_eq_true rfl⟩) (by rw [hKR]; constructor <;> (dsimp only; omega)) rfl rfl rfl (Nat.le_of_ble_eq_true rfl) dL_kept_658 rfl (fun r63 D63 P63 q63 => ?_)
    obtain ⟨e63, hR63⟩ := q63
    obtain rfl : r63 = (((nI (kn (VF (M 7) v g) (VN (M 7) v g))) : Int32).toInt64) := e63.trans (by rw [wv_0 (kGr_0 hv hg), ix_n (by omega), ix_n (by omega)])
    refine pv_lconst (q := 662) (v := 1) C dL_kept_661 rfl (by decide) ?_
    refine pv_lcmp (q := 663) C dL_kept_662 rfl ?_
    refine pv_if_gt (q := 666) (tgt := 674) C dL_kept_663 (by decide) rfl (fun _ => ?_) (fun c663_64 => False.elim (c663_64 ((lg_cmp_gt _ _).mpr (l_pl (n := 1) (by omega) (by have := kn_le (VF (M 7) v g) (VN (M 7) v g); omega) (by have := kn_1 (VF (M 7) v g) _ h0; omega)))))
    refine pv_iconst (q := 675) (v := 1) C dL_kept_674 rfl (by decide) ?_
    refine pv_goto (tgt := 679) C dL_kept_675 (by decide) ?_
    refine pv_istore_n (q := 680) C dL_kept_679 rfl rfl (Nat.le_of_ble_eq_true rfl) rfl ?_
    refine pv_iload_n (q := 681) C dL_kept_680 rfl rfl rfl ?_
    refine pv_if_eq (q := 684) (tgt := 767) C dL_kept_681 (by decide) rfl (fun c681_65 => absurd c681_65 (by decide)) (fun _ => ?_)
    refine pv_aload_n (q := 685) C dL_kept_684 rfl rfl rfl ?_
    refine pv_iload (q := 687) C dL_kept_685 rfl rfl ?_
    refine pv_callLl (q := 690) (rest := []) C Z hNC hKl (c_L_unlikeGroups l X D63 P63 hfl M (W) hR63 (nI v)) tw_830 mw_L_unlikeGroups ⟨rfl, rfl⟩ (by rw [hKR]; exact ⟨Nat.le_of_ble_eq_true rfl, Nat.le_of_ble_eq_true rfl⟩) (by rw [hKR]; constructor <;> (dsimp only; omega)) rfl rfl rfl (Nat.le_of_ble_eq_true rfl) dL_kept_687 rfl (fun r66 D66 P66 q66 => ?_)
    obtain ⟨e66, hR66⟩ := q66
    obtain rfl : r66 = (((umN (M 7) v 4) : Int32).toInt64) := e66.trans (by rw [wv_0 (kView_0 hv), ix_n (by omega)])
    refine pv_iload (q := 692) C dL_kept_690 rfl rfl ?_
    refine pv_lshr (q := 693) C dL_kept_692 rfl rfl ?_
    refine pv_lconst (q := 694) (v := 1) C dL_kept_693 rfl (by decide) ?_
    refine pv_land (q := 695) C dL_kept_694 rfl ?_
    refine pv_lconst (q := 696) (v := 0) C dL_kept_695 rfl (by decide) ?_
    refine pv_lcmp (q := 697) C dL_kept_696 rfl ?_
    refine pv_if_ne (q := 700) (tgt := 767) C dL_kept_697 (by decide) rfl (fun cb9 => ?_) (fun cb9 => ?_)
    ·
      exact PV_widen (by omega) (by omega) (PV_le (k D66 P66 hR66) ⟨Or.inr rfl, Or.inr rfl, Or.inr rfl, Or.inl rfl, Or.inr rfl, Or.inr rfl, Or.inr rfl, Or.inl rfl, Or.inr rfl, Or.inl rfl, Or.inl rfl, Or.inl rfl, Or.inl rfl, Or.inl rfl, Or.inl rfl, Or.inl rfl, Or.inl rfl, Or.inl rfl, trivial⟩)
    ·
      have hlk := um_bit hg ((lg_cmp_eq _ _).mp cb9)
      refine pv_lload (q := 702) C dL_kept_700 rfl rfl ?_
      refine pv_aload_n (q := 703) C dL_kept_702 rfl rfl rfl ?_
      refine pv_iload (q := 705) C dL_kept_703 rfl rfl ?_
      refine pv_iload (q := 707) C dL_kept_705 rfl rfl ?_
      refine pv_callLl (q := 710) (rest := [.long ((nI (VN (M 7) v g)).toInt64)]) C Z hNC hKl (c_L_tableCount l X D66 P66 hfl M (W) hR66 (nI v) (nI g)) tw_876 mw_L_tableCount ⟨rfl, rfl⟩ (by rw [hKR]; exact ⟨Nat.le_of_ble_eq_true rfl, Nat.le_of_ble_eq_true rfl⟩) (by rw [hKR]; constructor <;> (dsimp only; omega)) rfl rfl rfl (Nat.le_of_ble_eq_true rfl) dL_kept_707 rfl (fun r68 D68 P68 q68 => ?_)
      obtain ⟨e68, hR68⟩ := q68
      obtain rfl : r68 = (((nI (TN (M 7) v g)) : Int32).toInt64) := e68.trans (by rw [wv_0 (kGr_0 hv hg), ix_n (by omega), ix_n (by omega)])
      refine pv_lcmp (q := 711) C dL_kept_710 rfl ?_
      refine pv_if_ne (q := 714) (tgt := 765) C dL_kept_711 (by decide) rfl (fun c711_69 => False.elim (c711_69 ((lg_cmp_eq _ _).mpr (by rw [hlk.1])))) (fun _ => ?_)
      refine pv_aload_n (q := 715) C dL_kept_714 rfl rfl rfl ?_
      refine pv_iload (q := 717) C dL_kept_715 rfl rfl ?_
      refine pv_iload (q := 719) C dL_kept_717 rfl rfl ?_
      refine pv_callLl (q := 722) (rest := []) C Z hNC hKl (c_L_sumOf l X D68 P68 hfl M (W) hR68 (nI v) (nI g)) tw_918 mw_L_sumOf ⟨rfl, rfl⟩ (by rw [hKR]; exact ⟨Nat.le_of_ble_eq_true rfl, Nat.le_of_ble_eq_true rfl⟩) (by rw [hKR]; constructor <;> (dsimp only; omega)) rfl rfl rfl (Nat.le_of_ble_eq_true rfl) dL_kept_719 rfl (fun r70 D70 P70 q70 => ?_)
      obtain ⟨e70, hR70⟩ := q70
      obtain rfl : r70 = (((sm (VF (M 7) v g) (VN (M 7) v g)) : Int32).toInt64) := e70.trans (by rw [wv_0 (kGr_0 hv hg), ix_n (by omega), ix_n (by omega)])
      refine pv_aload_n (q := 723) C dL_kept_722 rfl rfl rfl ?_
      refine pv_iload (q := 725) C dL_kept_723 rfl rfl ?_
      refine pv_iload (q := 727) C dL_kept_725 rfl rfl ?_
      refine pv_callLl (q := 730) (rest := [.long (((sm (VF (M 7) v g) (VN (M 7) v g)) : Int32).toInt64)]) C Z hNC hKl (c_L_tableSum l X D70 P70 hfl M (W) hR70 (nI v) (nI g)) tw_926 mw_L_tableSum ⟨rfl, rfl⟩ (by rw [hKR]; exact ⟨Nat.le_of_ble_eq_true rfl, Nat.le_of_ble_eq_true rfl⟩) (by rw [hKR]; constructor <;> (dsimp only; omega)) rfl rfl rfl (Nat.le_of_ble_eq_true rfl) dL_kept_727 rfl (fun r71 D71 P71 q71 => ?_)
      obtain ⟨e71, hR71⟩ := q71
      obtain rfl : r71 = (((sm (TF (M 7) v g) (TN (M 7) v g)) : Int32).toInt64) := e71.trans (by rw [wv_0 (kGr_0 hv hg), ix_n (by omega), ix_n (by omega)])
      refine pv_lcmp (q := 731) C dL_kept_730 rfl ?_
      refine pv_if_ne (q := 734) (tgt := 765) C dL_kept_731 (by decide) rfl (fun c731_72 => False.elim (c731_72 ((lg_cmp_eq _ _).mpr (by rw [hlk.2.1])))) (fun _ => ?_)
      refine pv_lload (q := 736) C dL_kept_734 rfl rfl ?_
      refine pv_lconst (q := 737) (v := 0) C dL_kept_736 rfl (by decide) ?_
      refine pv_lcmp (q := 738) C dL_kept_737 rfl ?_
      refine pv_if_eq (q := 741) (tgt := 761) C dL_kept_738 (by decide) rfl (fun c738_73 => False.elim ((fun z => absurd ((nI_eq (b := 0) (by omega) (by omega)).mp (l_eq.mp z)) h0n) ((lg_cmp_eq _ _).mp c738_73))) (fun _ => ?_)
      refine pv_aload_n (q := 742) C dL_kept_741 rfl rfl rfl ?_
      refine pv_iload (q := 744) C dL_kept_742 rfl rfl ?_
      refine pv_iload (q := 746) C dL_kept_744 rfl rfl ?_
      refine pv_callLl (q := 749) (rest := []) C Z hNC hKl (c_L_medianOf l X D71 P71 hfl M (W) hR71 (nI v) (nI g)) tw_869 mw_L_medianOf ⟨rfl, rfl⟩ (by rw [hKR]; exact ⟨Nat.le_of_ble_eq_true rfl, Nat.le_of_ble_eq_true rfl⟩) (by rw [hKR]; constructor <;> (dsimp only; omega)) rfl rfl rfl (Nat.le_of_ble_eq_true rfl) dL_kept_746 rfl (fun r74 D74 P74 q74 => ?_)
      obtain ⟨e74, hR74⟩ := q74
      obtain rfl : r74 = (((at0 (VF (M 7) v g) (VN (M 7) v g) ((VN (M 7) v g - 1) / 2)) : Int32).toInt64) := e74.trans (by rw [wv_0 (kAm_0n hv hg (h0n)), ix_n (by omega), ix_n (by omega)])
      refine pv_aload_n (q := 750) C dL_kept_749 rfl rfl rfl ?_
      refine pv_iload (q := 752) C dL_kept_750 rfl rfl ?_
      refine pv_iload (q := 754) C dL_kept_752 rfl rfl ?_
      refine pv_callLl (q := 757) (rest := [.long (((at0 (VF (M 7) v g) (VN (M 7) v g) ((VN (M 7) v g - 1) / 2)) : Int32).toInt64)]) C Z hNC hKl (c_L_tableMedian l X D74 P74 hfl M (W) hR74 (nI v) (nI g)) tw_883 mw_L_tableMedian ⟨rfl, rfl⟩ (by rw [hKR]; exact ⟨Nat.le_of_ble_eq_true rfl, Nat.le_of_ble_eq_true rfl⟩) (by rw [hKR]; constructor <;> (dsimp only; omega)) rfl rfl rfl (Nat.le_of_ble_eq_true rfl) dL_kept_754 rfl (fun r75 D75 P75 q75 => ?_)
      obtain ⟨e75, hR75⟩ := q75
      obtain rfl : r75 = (((at0 (TF (M 7) v g) (TN (M 7) v g) ((TN (M 7) v g - 1) / 2)) : Int32).toInt64) := e75.trans (by rw [wv_0 (kAt_0n hv hg (by rw [← hlk.1]; exact h0n)), ix_n (by omega), ix_n (by omega)])
      refine pv_lcmp (q := 758) C dL_kept_757 rfl ?_
      refine pv_if_ne (q := 761) (tgt := 765) C dL_kept_758 (by decide) rfl (fun c758_76 => False.elim (c758_76 ((lg_cmp_eq _ _).mpr (by rw [(like_at hlk).2.2])))) (fun _ => ?_)
      refine pv_iconst (q := 762) (v := 1) C dL_kept_761 rfl (by decide) ?_
      refine pv_goto (tgt := 766) C dL_kept_762 (by decide) ?_
      refine pv_istore_n (q := 767) C dL_kept_766 rfl rfl (Nat.le_of_ble_eq_true rfl) rfl ?_
      exact PV_widen (by omega) (by omega) (PV_le (k D75 P75 hR75) ⟨Or.inr rfl, Or.inr rfl, Or.inr rfl, Or.inl rfl, Or.inr rfl, Or.inr rfl, Or.inr rfl, Or.inl rfl, Or.inr rfl, Or.inl rfl, Or.inl rfl, Or.inl rfl, Or.inl rfl, Or.inl rfl, Or.inl rfl, Or.inl rfl, Or.inl rfl, Or.inl rfl, trivial⟩)
  ·
    have u1 : kn (VF (M 7) v g) (VN (M 7) v g) = 1 := (hF.u1 h0).mp (l_eq.mp ((lg_cmp_eq _ _).mp c6))
    refine pv_iconst (q := 628) (v := 1) C dL_kept_627 rfl (by decide) ?_
    refine pv_goto (tgt := 632) C dL_kept_628 (by decide) ?_
    refine pv_aload_n (q := 633) C dL_kept_632 rfl rfl rfl ?_
    refine pv_iload (q := 635) C dL_kept_633 rfl rfl ?_
    refine pv_iload (q := 637) C dL_kept_635 rfl rfl ?_
    refine pv_callLl (q := 640) (rest := [.int 1]) C Z hNC hKl (c_L_unlikeOf l X D57 P57 hfl M (W) hR57 (nI v) (nI g)) tw_911 mw_L_unlikeOf ⟨rfl, rfl⟩ (by rw [hKR]; exact ⟨Nat.le_of_ble_eq_true rfl, Nat.le_of_ble_eq_true rfl⟩) (by rw [hKR]; constructor <;> (dsimp only; omega)) rfl rfl rfl (Nat.le_of_ble_eq_true rfl) dL_kept_637 rfl (fun r77 D77 P77 q77 => ?_)
    obtain ⟨e77, hR77⟩ := q77
    obtain rfl : r77 = (((nI (kn (VF (M 7) v g) (VN (M 7) v g))) : Int32).toInt64) := e77.trans (by rw [wv_0 (kGr_0 hv hg), ix_n (by omega), ix_n (by omega)])
    refine pv_lconst (q := 641) (v := 1) C dL_kept_640 rfl (by decide) ?_
    refine pv_lcmp (q := 642) C dL_kept_641 rfl ?_
    refine pv_if_ne (q := 645) (tgt := 649) C dL_kept_642 (by decide) rfl (fun c642_78 => False.elim (c642_78 ((lg_cmp_eq _ _).mpr (by rw [u1]; rfl)))) (fun _ => ?_)
    refine pv_iconst (q := 646) (v := 1) C dL_kept_645 rfl (by decide) ?_
    refine pv_goto (tgt := 650) C dL_kept_646 (by decide) ?_
    refine pv_icmp_ne (q := 653) (tgt := 678) C dL_kept_650 (by decide) rfl (fun c650_79 => False.elim (c650_79 (rfl))) (fun _ => ?_)
    refine pv_aload_n (q := 654) C dL_kept_653 rfl rfl rfl ?_
    refine pv_iload (q := 656) C dL_kept_654 rfl rfl ?_
    refine pv_iload (q := 658) C dL_kept_656 rfl rfl ?_
    refine pv_callLl (q := 661) (rest := []) C Z hNC hKl (c_L_unlikeOf l X D77 P77 hfl M (W) hR77 (nI v) (nI g)) tw_911 mw_L_unlikeOf ⟨rfl, rfl⟩ (by rw [hKR]; exact ⟨Nat.le_of_ble_eq_true rfl, Nat.le_of_ble_eq_true rfl⟩) (by rw [hKR]; constructor <;> (dsimp only; omega)) rfl rfl rfl (Nat.le_of_ble_eq_true rfl) dL_kept_658 rfl (fun r80 D80 P80 q80 => ?_)
    obtain ⟨e80, hR80⟩ := q80
    obtain rfl : r80 = (((nI (kn (VF (M 7) v g) (VN (M 7) v g))) : Int32).toInt64) := e80.trans (by rw [wv_0 (kGr_0 hv hg), ix_n (by omega), ix_n (by omega)])
    refine pv_lconst (q := 662) (v := 1) C dL_kept_661 rfl (by decide) ?_
    refine pv_lcmp (q := 663) C dL_kept_662 rfl ?_
    refine pv_if_gt (q := 666) (tgt := 674) C dL_kept_663 (by decide) rfl (fun c663_81 => False.elim (Int64.not_le.mpr ((lg_cmp_gt _ _).mp c663_81) (by rw [u1]; exact Int64.le_refl _))) (fun _ => ?_)
    refine pv_lload (q := 668) C dL_kept_666 rfl rfl ?_
    refine pv_lload (q := 670) C dL_kept_668 rfl rfl ?_
    refine pv_lcmp (q := 671) C dL_kept_670 rfl ?_
    refine pv_if_ne (q := 674) (tgt := 678) C dL_kept_671 (by decide) rfl (fun c671_82 => False.elim (c671_82 ((lg_cmp_eq _ _).mpr (by rw [hF.um h0 u1])))) (fun _ => ?_)
    refine pv_iconst (q := 675) (v := 1) C dL_kept_674 rfl (by decide) ?_
    refine pv_goto (tgt := 679) C dL_kept_675 (by decide) ?_
    refine pv_istore_n (q := 680) C dL_kept_679 rfl rfl (Nat.le_of_ble_eq_true rfl) rfl ?_
    refine pv_iload_n (q := 681) C dL_kept_680 rfl rfl rfl ?_
    refine pv_if_eq (q := 684) (tgt := 767) C dL_kept_681 (by decide) rfl (fun c681_83 => absurd c681_83 (by decide)) (fun _ => ?_)
    refine pv_aload_n (q := 685) C dL_kept_684 rfl rfl rfl ?_
    refine pv_iload (q := 687) C dL_kept_685 rfl rfl ?_
    refine pv_callLl (q := 690) (rest := []) C Z hNC hKl (c_L_unlikeGroups l X D80 P80 hfl M (W) hR80 (nI v)) tw_830 mw_L_unlikeGroups ⟨rfl, rfl⟩ (by rw [hKR]; exact ⟨Nat.le_of_ble_eq_true rfl, Nat.le_of_ble_eq_true rfl⟩) (by rw [hKR]; constructor <;> (dsimp only; omega)) rfl rfl rfl (Nat.le_of_ble_eq_true rfl) dL_kept_687 rfl (fun r84 D84 P84 q84 => ?_)
    obtain ⟨e84, hR84⟩ := q84
    obtain rfl : r84 = (((umN (M 7) v 4) : Int32).toInt64) := e84.trans (by rw [wv_0 (kView_0 hv), ix_n (by omega)])
    refine pv_iload (q := 692) C dL_kept_690 rfl rfl ?_
    refine pv_lshr (q := 693) C dL_kept_692 rfl rfl ?_
    refine pv_lconst (q := 694) (v := 1) C dL_kept_693 rfl (by decide) ?_
    refine pv_land (q := 695) C dL_kept_694 rfl ?_
    refine pv_lconst (q := 696) (v := 0) C dL_kept_695 rfl (by decide) ?_
    refine pv_lcmp (q := 697) C dL_kept_696 rfl ?_
    refine pv_if_ne (q := 700) (tgt := 767) C dL_kept_697 (by decide) rfl (fun cb9 => ?_) (fun cb9 => ?_)
    ·
      exact PV_widen (by omega) (by omega) (PV_le (k D84 P84 hR84) ⟨Or.inr rfl, Or.inr rfl, Or.inr rfl, Or.inl rfl, Or.inr rfl, Or.inr rfl, Or.inr rfl, Or.inl rfl, Or.inr rfl, Or.inl rfl, Or.inl rfl, Or.inl rfl, Or.inl rfl, Or.inl rfl, Or.inl rfl, Or.inl rfl, Or.inl rfl, Or.inl rfl, trivial⟩)
    ·
      have hlk := um_bit hg ((lg_cmp_eq _ _).mp cb9)
      refine pv_lload (q := 702) C dL_kept_700 rfl rfl ?_
      refine pv_aload_n (q := 703) C dL_kept_702 rfl rfl rfl ?_
      refine pv_iload (q := 705) C dL_kept_703 rfl rfl ?_
      refine pv_iload (q := 707) C dL_kept_705 rfl rfl ?_
      refine pv_callLl (q := 710) (rest := [.long ((nI (VN (M 7) v g)).toInt64)]) C Z hNC hKl (c_L_tableCount l X D84 P84 hfl M (W) hR84 (nI v) (nI g)) tw_876 mw_L_tableCount ⟨rfl, rfl⟩ (by rw [hKR]; exact ⟨Nat.le_of_ble_eq_true rfl, Nat.le_of_ble_eq_true rfl⟩) (by rw [hKR]; constructor <;> (dsimp only; omega)) rfl rfl rfl (Nat.le_of_ble_eq_true rfl) dL_kept_707 rfl (fun r86 D86 P86 q86 => ?_)
      obtain ⟨e86, hR86⟩ := q86
      obtain rfl : r86 = (((nI (TN (M 7) v g)) : Int32).toInt64) := e86.trans (by rw [wv_0 (kGr_0 hv hg), ix_n (by omega), ix_n (by omega)])
      refine pv_lcmp (q := 711) C dL_kept_710 rfl ?_
      refine pv_if_ne (q := 714) (tgt := 765) C dL_kept_711 (by decide) rfl (fun c711_87 => False.elim (c711_87 ((lg_cmp_eq _ _).mpr (by rw [hlk.1])))) (fun _ => ?_)
      refine pv_aload_n (q := 715) C dL_kept_714 rfl rfl rfl ?_
      refine pv_iload (q := 717) C dL_kept_715 rfl rfl ?_
      refine pv_iload (q := 719) C dL_kept_717 rfl rfl ?_
      refine pv_callLl (q := 722) (rest := []) C Z hNC hKl (c_L_sumOf l X D86 P86 hfl M (W) hR86 (nI v) (nI g)) tw_918 mw_L_sumOf ⟨rfl, rfl⟩ (by rw [hKR]; exact ⟨Nat.le_of_ble_eq_true rfl, Nat.le_of_ble_eq_true rfl⟩) (by rw [hKR]; constructor <;> (dsimp only; omega)) rfl rfl rfl (Nat.le_of_ble_eq_true rfl) dL_kept_719 rfl (fun r88 D88 P88 q88 => ?_)
      obtain ⟨e88, hR88⟩ := q88
      obtain rfl : r88 = (((sm (VF (M 7) v g) (VN (M 7) v g)) : Int32).toInt64) := e88.trans (by rw [wv_0 (kGr_0 hv hg), ix_n (by omega), ix_n (by omega)])
      refine pv_aload_n (q := 723) C dL_kept_722 rfl rfl rfl ?_
      refine pv_iload (q := 725) C dL_kept_723 rfl rfl ?_
      refine pv_iload (q := 727) C dL_kept_725 rfl rfl ?_
      refine pv_callLl (q := 730) (rest := [.long (((sm (VF (M 7) v g) (VN (M 7) v g)) : Int32).toInt64)]) C Z hNC hKl (c_L_tableSum l X D88 P88 hfl M (W) hR88 (nI v) (nI g)) tw_926 mw_L_tableSum ⟨rfl, rfl⟩ (by rw [hKR]; exact ⟨Nat.le_of_ble_eq_true rfl, Nat.le_of_ble_eq_true rfl⟩) (by rw [hKR]; constructor <;> (dsimp only; omega)) rfl rfl rfl (Nat.le_of_ble_eq_true rfl) dL_kept_727 rfl (fun r89 D89 P89 q89 => ?_)
      obtain ⟨e89, hR89⟩ := q89
      obtain rfl : r89 = (((sm (TF (M 7) v g) (TN (M 7) v g)) : Int32).toInt64) := e89.trans (by rw [wv_0 (kGr_0 hv hg), ix_n (by omega), ix_n (by omega)])
      refine pv_lcmp (q := 731) C dL_kept_730 rfl ?_
      refine pv_if_ne (q := 734) (tgt := 765) C dL_kept_731 (by decide) rfl (fun c731_90 => False.elim (c731_90 ((lg_cmp_eq _ _).mpr (by rw [hlk.2.1])))) (fun _ => ?_)
      refine pv_lload (q := 736) C dL_kept_734 rfl rfl ?_
      refine pv_lconst (q := 737) (v := 0) C dL_kept_736 rfl (by decide) ?_
      refine pv_lcmp (q := 738) C dL_kept_737 rfl ?_
      refine pv_if_eq (q := 741) (tgt := 761) C dL_kept_738 (by decide) rfl (fun c738_91 => False.elim ((fun z => absurd ((nI_eq (b := 0) (by omega) (by omega)).mp (l_eq.mp z)) h0n) ((lg_cmp_eq _ _).mp c738_91))) (fun _ => ?_)
      refine pv_aload_n (q := 742) C dL_kept_741 rfl rfl rfl ?_
      refine pv_iload (q := 744) C dL_kept_742 rfl rfl ?_
      refine pv_iload (q := 746) C dL_kept_744 rfl rfl ?_
      refine pv_callLl (q := 749) (rest := []) C Z hNC hKl (c_L_medianOf l X D89 P89 hfl M (W) hR89 (nI v) (nI g)) tw_869 mw_L_medianOf ⟨rfl, rfl⟩ (by rw [hKR]; exact ⟨Nat.le_of_ble_eq_true rfl, Nat.le_of_ble_eq_true rfl⟩) (by rw [hKR]; constructor <;> (dsimp only; omega)) rfl rfl rfl (Nat.le_of_ble_eq_true rfl) dL_kept_746 rfl (fun r92 D92 P92 q92 => ?_)
      obtain ⟨e92, hR92⟩ := q92
      obtain rfl : r92 = (((at0 (VF (M 7) v g) (VN (M 7) v g) ((VN (M 7) v g - 1) / 2)) : Int32).toInt64) := e92.trans (by rw [wv_0 (kAm_0n hv hg (h0n)), ix_n (by omega), ix_n (by omega)])
      refine pv_aload_n (q := 750) C dL_kept_749 rfl rfl rfl ?_
      refine pv_iload (q := 752) C dL_kept_750 rfl rfl ?_
      refine pv_iload (q := 754) C dL_kept_752 rfl rfl ?_
      refine pv_callLl (q := 757) (rest := [.long (((at0 (VF (M 7) v g) (VN (M 7) v g) ((VN (M 7) v g - 1) / 2)) : Int32).toInt64)]) C Z hNC hKl (c_L_tableMedian l X D92 P92 hfl M (W) hR92 (nI v) (nI g)) tw_883 mw_L_tableMedian ⟨rfl, rfl⟩ (by rw [hKR]; exact ⟨Nat.le_of_ble_eq_true rfl, Nat.le_of_ble_eq_true rfl⟩) (by rw [hKR]; constructor <;> (dsimp only; omega)) rfl rfl rfl (Nat.le_of_ble_eq_true rfl) dL_kept_754 rfl (fun r93 D93 P93 q93 => ?_)
      obtain ⟨e93, hR93⟩ := q93
      obtain rfl : r93 = (((at0 (TF (M 7) v g) (TN (M 7) v g) ((TN (M 7) v g - 1) / 2)) : Int32).toInt64) := e93.trans (by rw [wv_0 (kAt_0n hv hg (by rw [← hlk.1]; exact h0n)), ix_n (by omega), ix_n (by omega)])
      refine pv_lcmp (q := 758) C dL_kept_757 rfl ?_
      refine pv_if_ne (q := 761) (tgt := 765) C dL_kept_758 (by decide) rfl (fun c758_94 => False.elim (c758_94 ((lg_cmp_eq _ _).mpr (by rw [(like_at hlk).2.2])))) (fun _ => ?_)
      refine pv_iconst (q := 762) (v := 1) C dL_kept_761 rfl (by decide) ?_
      refine pv_goto (tgt := 766) C dL_kept_762 (by decide) ?_
      refine pv_istore_n (q := 767) C dL_kept_766 rfl rfl (Nat.le_of_ble_eq_true rfl) rfl ?_
      exact PV_widen (by omega) (by omega) (PV_le (k D93 P93 hR93) ⟨Or.inr rfl, Or.inr rfl, Or.inr rfl, Or.inl rfl, Or.inr rfl, Or.inr rfl, Or.inr rfl, Or.inl rfl, Or.inr rfl, Or.inl rfl, Or.inl rfl, Or.inl rfl, Or.inl rfl, Or.inl rfl, Or.inl rfl, Or.inl rfl, Or.inl rfl, Or.inl rfl, trivial⟩)
set_option maxRecDepth 100000 in
set_option maxHeartbeats 4000000 in
theorem kp_g {l : Launch} {K : KT} {X : XT} {w0 : Cond} {Q : State → Prop} {M : DT} {W : Nat} (hW : W + 200 < 2 ^ 29) (L : LK l K X cL_kept RL w0 18 (some .boolean) ({ frames := 10, cells := 2300, slots := 13800, locals := 360 } : Room)) {V : Nat} (hJ : JJ (M 7) V) {mo : Int64} {nb : Int32} {v cb : Nat} (hv : v < 3) (hc : cb + 680 ≤ 2300) (k : ∀ (D : DT) (P : PT), RI D P M W → PV K X Q (cb + 680) (6 * (cb + 680)) 773 [some (.ref (X.2.2 0)), some (.int 1), some (.long mo), none, some (.int (nI v)), none, some (.long (al (M 7) v 4)), none, none, none, none, none, none, none, none, none, none, none] [] D P) : ∀ (nn g : Nat) (D : DT) (P : PT), RI D P M W → 5 ≤ g + nn → g ≤ 4 → PV K X Q (cb + 170 * g) (6 * (cb + 170 * g)) 278 [some (.ref (X.2.2 0)), some (.int 1), some (.long mo), none, some (.int (nI v)), some (.int nb), some (.long (al (M 7) v g)), none, some (.int (nI g)), none, none, none, none, none, none, none, none, none] [] D P := by
  obtain ⟨hKl, hKR, C, Z, hNC, hfl⟩ := id L
  intro nn
  induction nn with
  | zero =>
    intro g D P h hfu hg4
    exact absurd hfu (by omega)
  | succ nn ih =>
    intro g D P h hfu hg4
    refine pv_iload (q := 280) C dL_kept_278 rfl rfl ?_
    refine pv_iconst (q := 281) (v := 4) C dL_kept_280 rfl (by decide) ?_
    refine pv_icmp_ge (q := 284) (tgt := 773) C dL_kept_281 (by decide) rfl (fun cL => ?_) (fun cL => ?_)
    ·
      obtain rfl : g = 4 := by
        have := (nI_leI (a := 4) (b := g) (by decide) (by omega)).mp cL
        omega
      exact PV_widen (by omega) (by omega) (PV_le (k D P h) ⟨Or.inr rfl, Or.inr rfl, Or.inr rfl, Or.inl rfl, Or.inr rfl, Or.inl rfl, Or.inr rfl, Or.inl rfl, Or.inl rfl, Or.inl rfl, Or.inl rfl, Or.inl rfl, Or.inl rfl, Or.inl rfl, Or.inl rfl, Or.inl rfl, Or.inl rfl, Or.inl rfl, trivial⟩)
    ·
      have hg : g < 4 := by
        rcases Nat.lt_or_ge g 4 with z | z
        · exact z
        · exact absurd ((nI_leI (a := 4) (b := g) (by decide) (by omega)).mpr z) cL
      refine pv_iload_n (q := 285) C dL_kept_284 rfl rfl rfl ?_
      refine pv_if_eq (q := 288) (tgt := 773) C dL_kept_285 (by decide) rfl (fun c285_96 => absurd c285_96 (by decide)) (fun _ => ?_)
      refine pv_aload_n (q := 289) C dL_kept_288 rfl rfl rfl ?_
      refine pv_iload (q := 291) C dL_kept_289 rfl rfl ?_
      refine pv_iload (q := 293) C dL_kept_291 rfl rfl ?_
      refine pv_callLl (q := 296) (rest := []) C Z hNC hKl (c_L_countOf l X D P hfl M (W) h (nI v) (nI g)) tw_809 mw_L_countOf ⟨rfl, rfl⟩ (by rw [hKR]; exact ⟨Nat.le_of_ble_eq_true rfl, Nat.le_of_ble_eq_true rfl⟩) (by rw [hKR]; constructor <;> (dsimp only; omega)) rfl rfl rfl (Nat.le_of_ble_eq_true rfl) dL_kept_293 rfl (fun r97 D97 P97 q97 => ?_)
      obtain ⟨e97, hR97⟩ := q97
      obtain rfl : r97 = (((nI (VN (M 7) v g)) : Int32).toInt64) := e97.trans (by rw [wv_0 (kGr_0 hv hg), ix_n (by omega), ix_n (by omega)])
      refine pv_lstore (q := 298) C dL_kept_296 rfl (Nat.le_of_ble_eq_true rfl) rfl ?_
      refine pv_iconst (q := 299) (v := 0) C dL_kept_298 rfl (by decide) ?_
      refine pv_istore (q := 301) C dL_kept_299 rfl (Nat.le_of_ble_eq_true rfl) rfl ?_
      refine pv_iconst (q := 302) (v := 0) C dL_kept_301 rfl (by decide) ?_
      refine pv_istore (q := 304) C dL_kept_302 rfl (Nat.le_of_ble_eq_true rfl) rfl ?_
      refine PV_lv (lv' := [some (.ref (X.2.2 0)), some (.int 1), some (.long mo), none, some (.int (nI v)), some (.int nb), some (.long (al (M 7) v g)), none, some (.int (nI g)), some (.long ((nI (VN (M 7) v g)).toInt64)), none, some (.int (nI (tr (M 7) v g 0))), some (.int (nI 0)), none, none, none, none, none]) rfl ?_
      refine PV_widen (ce' := cb + 170 * g + 2) (sl' := 6 * (cb + 170 * g + 2)) (by omega) (by omega) (kp_p hW L (cb := cb + 170 * g + 2) hv hg (by omega) (fun D7 P7 h7 => ?_) 17 0 D97 P97 hR97 (by omega) (by omega))
      refine pv_lload (q := 369) C dL_kept_367 rfl rfl ?_
      refine pv_lload (q := 371) C dL_kept_369 rfl rfl ?_
      refine pv_ladd (q := 372) C dL_kept_371 rfl ?_
      refine pv_lstore (q := 374) C dL_kept_372 rfl (Nat.le_of_ble_eq_true rfl) rfl ?_
      refine PV_widen (ce' := cb + 170 * g + 98) (sl' := 6 * (cb + 170 * g + 98)) (by omega) (by omega) ?_
      have kk : ∀ (D : DT) (P : PT), RI D P M W → PV K X Q (cb + 170 * g + 98 + 60) (6 * (cb + 170 * g + 98 + 60)) 767 [some (.ref (X.2.2 0)), some (.int 1), some (.long mo), none, some (.int (nI v)), some (.int nb), some (.long (al (M 7) v (g + 1))), none, some (.int (nI g)), none, none, none, none, none, none, none, none, none] [] D P := fun D8 P8 h8 => ?_
      · rcases Nat.eq_zero_or_pos (VN (M 7) v g) with z | z
        · exact kp_z hW L (cb := cb + 170 * g + 98) hJ hv hg z (by omega) kk D7 P7 h7
        · exact kp_n hW L (cb := cb + 170 * g + 98) hJ hv hg z (by omega) kk D7 P7 h7
      refine pv_iinc (q := 770) (v := nI (g + 1)) C dL_kept_767 rfl rfl (nI_add _ _) rfl ?_
      refine pv_goto (tgt := 278) C dL_kept_770 (by decide) ?_
      exact PV_widen (by omega) (by omega) (PV_le (ih (g + 1) D8 P8 h8 (by omega) (by omega)) ⟨Or.inr rfl, Or.inr rfl, Or.inr rfl, Or.inl rfl, Or.inr rfl, Or.inr rfl, Or.inr rfl, Or.inl rfl, Or.inr rfl, Or.inl rfl, Or.inl rfl, Or.inl rfl, Or.inl rfl, Or.inl rfl, Or.inl rfl, Or.inl rfl, Or.inl rfl, Or.inl rfl, trivial⟩)
set_option maxRecDepth 100000 in
set_option maxHeartbeats 4000000 in
theorem kp_v1 {l : Launch} {K : KT} {X : XT} {w0 : Cond} {Q : State → Prop} {M : DT} {W : Nat} (hW : W + 200 < 2 ^ 29) (L : LK l K X cL_kept RL w0 18 (some .boolean) ({ frames := 10, cells := 2300, slots := 13800, locals := 360 } : Room)) {V : Nat} (hJ : JJ (M 7) V) {mo a6 : Int64} {v cb : Nat} (hv : v < 3) (hn :  M 7 (32 + 38 * v + 32) = 1) (hc : cb + 20 ≤ 2300) (k : ∀ (D : DT) (P : PT), RI D P M W → PV K X Q (cb + 20) (6 * (cb + 20)) 253 [some (.ref (X.2.2 0)), some (.int 1), some (.long mo), none, some (.int (nI v)), some (.int 1), some (.long a6), none, none, none, none, none, none, none, none, none, none, none] [] D P) (D : DT) (P : PT) (h : RI D P M W) : PV K X Q (cb) (6 * cb) 83 [some (.ref (X.2.2 0)), some (.int 1), some (.long mo), none, some (.int (nI v)), some (.int 1), some (.long a6), none, none, none, none, none, none, none, none, none, none, none] [] D P := by
  obtain ⟨hKl, hKR, C, Z, hNC, hfl⟩ := id L
  obtain ⟨wr, nx, w1, w2, w3, w4, w5, w6, w7⟩ := SB_wt h.1 hv
  have hS := h.1
  refine pv_aload_n (q := 84) C dL_kept_83 rfl rfl rfl ?_
  refine pv_iload (q := 86) C dL_kept_84 rfl rfl ?_
  refine pv_callLl (q := 89) (rest := []) C Z hNC hKl (c_L_waiting l X D P hfl M (W) h (nI v)) tw_797 mw_L_waiting ⟨rfl, rfl⟩ (by rw [hKR]; exact ⟨Nat.le_of_ble_eq_true rfl, Nat.le_of_ble_eq_true rfl⟩) (by rw [hKR]; constructor <;> (dsimp only; omega)) rfl rfl rfl (Nat.le_of_ble_eq_true rfl) dL_kept_86 rfl (fun r98 D98 P98 q98 => ?_)
  obtain ⟨e98, hR98⟩ := q98
  obtain rfl : r98 = (((wt (M 7) v) : Int32).toInt64) := e98.trans (by rw [wv_0 (kView_0 hv), ix_n (by omega)])
  refine pv_aload_n (q := 90) C dL_kept_89 rfl rfl rfl ?_
  refine pv_iload (q := 92) C dL_kept_90 rfl rfl ?_
  refine pv_callLl (q := 95) (rest := [.long (((wt (M 7) v) : Int32).toInt64)]) C Z hNC hKl (c_L_byNumbers l X D98 P98 hfl M (W) hR98 (nI v)) tw_801 mw_L_byNumbers ⟨rfl, rfl⟩ (by rw [hKR]; exact ⟨Nat.le_of_ble_eq_true rfl, Nat.le_of_ble_eq_true rfl⟩) (by rw [hKR]; constructor <;> (dsimp only; omega)) rfl rfl rfl (Nat.le_of_ble_eq_true rfl) dL_kept_92 rfl (fun r99 D99 P99 q99 => ?_)
  obtain ⟨e99, hR99⟩ := q99
  obtain rfl : r99 = (((wt (M 7) v) : Int32).toInt64) := e99.trans (by rw [wv_0 (kView_0 hv), ix_n (by omega)])
  refine pv_lcmp (q := 96) C dL_kept_95 rfl ?_
  refine pv_if_ne (q := 99) (tgt := 251) C dL_kept_96 (by decide) rfl (fun c96_100 => False.elim (c96_100 ((lg_cmp_eq _ _).mpr (rfl)))) (fun _ => ?_)
  refine pv_aload_n (q := 100) C dL_kept_99 rfl rfl rfl ?_
  refine pv_iload (q := 102) C dL_kept_100 rfl rfl ?_
  refine pv_callLl (q := 105) (rest := []) C Z hNC hKl (c_L_waiting l X D99 P99 hfl M (W) hR99 (nI v)) tw_797 mw_L_waiting ⟨rfl, rfl⟩ (by rw [hKR]; exact ⟨Nat.le_of_ble_eq_true rfl, Nat.le_of_ble_eq_true rfl⟩) (by rw [hKR]; constructor <;> (dsimp only; omega)) rfl rfl rfl (Nat.le_of_ble_eq_true rfl) dL_kept_102 rfl (fun r101 D101 P101 q101 => ?_)
  obtain ⟨e101, hR101⟩ := q101
  obtain rfl : r101 = (((wt (M 7) v) : Int32).toInt64) := e101.trans (by rw [wv_0 (kView_0 hv), ix_n (by omega)])
  refine pv_aload_n (q := 106) C dL_kept_105 rfl rfl rfl ?_
  refine pv_callVi (q := 109) (rest := [.long (((wt (M 7) v) : Int32).toInt64)]) C hKl (c_X6_deltas l X D101 P101 M (W) hR101) tw_901 (show kd 0 = 6 from rfl) (by decide) rfl mm_X6_deltas ⟨rfl, rfl⟩ (by rw [hKR]; exact ⟨Nat.le_of_ble_eq_true rfl, Nat.le_of_ble_eq_true rfl⟩) (by rw [hKR]; constructor <;> (dsimp only; omega)) rfl rfl rfl (Nat.le_of_ble_eq_true rfl) dL_kept_106 rfl (fun r102 D102 P102 q102 => ?_)
  obtain ⟨rfl, rfl, rfl⟩ := q102
  have hR102 := hR101
  refine pv_i2l (q := 110) C dL_kept_109 rfl ?_
  refine pv_lcmp (q := 111) C dL_kept_110 rfl ?_
  refine pv_if_gt (q := 114) (tgt := 251) C dL_kept_111 (by decide) rfl (fun c111_103 => False.elim (Int64.not_le.mpr ((lg_cmp_gt _ _).mp c111_103) (by rw [w5, w1]; exact l_p (by omega) (by omega) (by omega)))) (fun _ => ?_)
  refine pv_aload_n (q := 115) C dL_kept_114 rfl rfl rfl ?_
  refine pv_iload (q := 117) C dL_kept_115 rfl rfl ?_
  refine pv_callLl (q := 120) (rest := []) C Z hNC hKl (c_L_matters l X D101 P101 hfl M (W) hR102 (nI v)) tw_805 mw_L_matters ⟨rfl, rfl⟩ (by rw [hKR]; exact ⟨Nat.le_of_ble_eq_true rfl, Nat.le_of_ble_eq_true rfl⟩) (by rw [hKR]; constructor <;> (dsimp only; omega)) rfl rfl rfl (Nat.le_of_ble_eq_true rfl) dL_kept_117 rfl (fun r104 D104 P104 q104 => ?_)
  obtain ⟨e104, hR104⟩ := q104
  obtain rfl : r104 = (((nI (wgt (M 7) v)) : Int32).toInt64) := e104.trans (by rw [wv_0 (kView_0 hv), ix_n (by omega)])
  refine pv_lconst (q := 121) (v := 0) C dL_kept_120 rfl (by decide) ?_
  refine pv_aload_n (q := 122) C dL_kept_121 rfl rfl rfl ?_
  refine pv_iload (q := 124) C dL_kept_122 rfl rfl ?_
  refine pv_callLl (q := 127) (rest := [.long 0, .long (((nI (wgt (M 7) v)) : Int32).toInt64)]) C Z hNC hKl (c_L_waiting l X D104 P104 hfl M (W) hR104 (nI v)) tw_797 mw_L_waiting ⟨rfl, rfl⟩ (by rw [hKR]; exact ⟨Nat.le_of_ble_eq_true rfl, Nat.le_of_ble_eq_true rfl⟩) (by rw [hKR]; constructor <;> (dsimp only; omega)) rfl rfl rfl (Nat.le_of_ble_eq_true rfl) dL_kept_124 rfl (fun r105 D105 P105 q105 => ?_)
  obtain ⟨e105, hR105⟩ := q105
  obtain rfl : r105 = (((wt (M 7) v) : Int32).toInt64) := e105.trans (by rw [wv_0 (kView_0 hv), ix_n (by omega)])
  refine pv_l2i (q := 128) C dL_kept_127 rfl rfl ?_
  refine pv_i2l (q := 129) C dL_kept_128 rfl ?_
  refine pv_callSi (q := 132) (rest := []) C hKl (c_L_in l X D105 P105 _ _ _) tw_894 mm_L_in ⟨rfl, rfl⟩ (by rw [hKR]; exact ⟨Nat.le_of_ble_eq_true rfl, Nat.le_of_ble_eq_true rfl⟩) (by rw [hKR]; constructor <;> (dsimp only; omega)) rfl rfl rfl (Nat.le_of_ble_eq_true rfl) dL_kept_129 rfl (fun r106 D106 P106 q106 => ?_)
  obtain ⟨rfl, rfl, rfl⟩ := q106
  refine pv_if_eq (q := 135) (tgt := 251) C dL_kept_132 (by decide) rfl (fun c132_107 => False.elim (absurd c132_107 (inI_n (l_p (n := 0) (by omega) (by omega) (Nat.zero_le _)) (by rw [l_ii, w5]; exact l_p (by omega) (by omega) w6)))) (fun _ => ?_)
  refine pv_iload (q := 137) C dL_kept_135 rfl rfl ?_
  refine pv_if_eq (q := 140) (tgt := 170) C dL_kept_137 (by decide) rfl (fun c137_108 => absurd c137_108 (by decide)) (fun _ => ?_)
  refine pv_aload_n (q := 141) C dL_kept_140 rfl rfl rfl ?_
  refine pv_iload (q := 143) C dL_kept_141 rfl rfl ?_
  refine pv_callLl (q := 146) (rest := []) C Z hNC hKl (c_L_wakesIn l X D105 P105 hfl M (W) hR105 (nI v)) tw_838 mw_L_wakesIn ⟨rfl, rfl⟩ (by rw [hKR]; exact ⟨Nat.le_of_ble_eq_true rfl, Nat.le_of_ble_eq_true rfl⟩) (by rw [hKR]; constructor <;> (dsimp only; omega)) rfl rfl rfl (Nat.le_of_ble_eq_true rfl) dL_kept_143 rfl (fun r109 D109 P109 q109 => ?_)
  obtain ⟨e109, hR109⟩ := q109
  obtain rfl : r109 = (((wks (M 7) v) : Int32).toInt64) := e109.trans (by rw [wv_0 (kView_0 hv), ix_n (by omega)])
  refine pv_lconst (q := 147) (v := 1) C dL_kept_146 rfl (by decide) ?_
  refine pv_lcmp (q := 148) C dL_kept_147 rfl ?_
  refine pv_if_lt (q := 151) (tgt := 251) C dL_kept_148 (by decide) rfl (fun c148_110 => False.elim (Int64.not_le.mpr ((lg_cmp_lt _ _).mp c148_110) (l_le.mpr (wks_1 hn)))) (fun _ => ?_)
  refine pv_aload_n (q := 152) C dL_kept_151 rfl rfl rfl ?_
  refine pv_iload (q := 154) C dL_kept_152 rfl rfl ?_
  refine pv_callLl (q := 157) (rest := []) C Z hNC hKl (c_L_waiting l X D109 P109 hfl M (W) hR109 (nI v)) tw_797 mw_L_waiting ⟨rfl, rfl⟩ (by rw [hKR]; exact ⟨Nat.le_of_ble_eq_true rfl, Nat.le_of_ble_eq_true rfl⟩) (by rw [hKR]; constructor <;> (dsimp only; omega)) rfl rfl rfl (Nat.le_of_ble_eq_true rfl) dL_kept_154 rfl (fun r111 D111 P111 q111 => ?_)
  obtain ⟨e111, hR111⟩ := q111
  obtain rfl : r111 = (((wt (M 7) v) : Int32).toInt64) := e111.trans (by rw [wv_0 (kView_0 hv), ix_n (by omega)])
  refine pv_lconst (q := 158) (v := 0) C dL_kept_157 rfl (by decide) ?_
  refine pv_ldc2 (q := 161) C dL_kept_158 rfl tw_902 ?_
  refine pv_callSi (q := 164) (rest := []) C hKl (c_L_in l X D111 P111 _ _ _) tw_894 mm_L_in ⟨rfl, rfl⟩ (by rw [hKR]; exact ⟨Nat.le_of_ble_eq_true rfl, Nat.le_of_ble_eq_true rfl⟩) (by rw [hKR]; constructor <;> (dsimp only; omega)) rfl rfl rfl (Nat.le_of_ble_eq_true rfl) dL_kept_161 rfl (fun r112 D112 P112 q112 => ?_)
  obtain ⟨rfl, rfl, rfl⟩ := q112
  refine pv_if_eq (q := 167) (tgt := 251) C dL_kept_164 (by decide) rfl (fun c164_113 => False.elim (absurd c164_113 (inI_n (by rw [w5]; exact l_p (n := 0) (by omega) (by omega) (Nat.zero_le _)) (by rw [w5]; exact l_p (m := 30) (by omega) (by omega) (by omega))))) (fun _ => ?_)
  refine pv_goto (tgt := 214) C dL_kept_167 (by decide) ?_
  refine pv_aload_n (q := 215) C dL_kept_214 rfl rfl rfl ?_
  refine pv_iload (q := 217) C dL_kept_215 rfl rfl ?_
  refine pv_callLl (q := 220) (rest := []) C Z hNC hKl (c_L_ifWoken l X D111 P111 hfl M (W) hR111 (nI v)) tw_834 mw_L_ifWoken ⟨rfl, rfl⟩ (by rw [hKR]; exact ⟨Nat.le_of_ble_eq_true rfl, Nat.le_of_ble_eq_true rfl⟩) (by rw [hKR]; constructor <;> (dsimp only; omega)) rfl rfl rfl (Nat.le_of_ble_eq_true rfl) dL_kept_217 rfl (fun r114 D114 P114 q114 => ?_)
  obtain ⟨e114, hR114⟩ := q114
  obtain rfl : r114 = (((0) : Int32).toInt64) := e114.trans (by rw [wv_0 (kView_0 hv)])
  refine pv_lconst (q := 221) (v := 0) C dL_kept_220 rfl (by decide) ?_
  refine pv_lcmp (q := 222) C dL_kept_221 rfl ?_
  refine pv_if_ne (q := 225) (tgt := 251) C dL_kept_222 (by decide) rfl (fun c222_115 => False.elim (c222_115 ((lg_cmp_eq _ _).mpr (rfl)))) (fun _ => ?_)
  refine pv_aload_n (q := 226) C dL_kept_225 rfl rfl rfl ?_
  refine pv_iload (q := 228) C dL_kept_226 rfl rfl ?_
  refine pv_callLl (q := 231) (rest := []) C Z hNC hKl (c_L_matters l X D114 P114 hfl M (W) hR114 (nI v)) tw_805 mw_L_matters ⟨rfl, rfl⟩ (by rw [hKR]; exact ⟨Nat.le_of_ble_eq_true rfl, Nat.le_of_ble_eq_true rfl⟩) (by rw [hKR]; constructor <;> (dsimp only; omega)) rfl rfl rfl (Nat.le_of_ble_eq_true rfl) dL_kept_228 rfl (fun r116 D116 P116 q116 => ?_)
  obtain ⟨e116, hR116⟩ := q116
  obtain rfl : r116 = (((nI (wgt (M 7) v)) : Int32).toInt64) := e116.trans (by rw [wv_0 (kView_0 hv), ix_n (by omega)])
  refine pv_lconst (q := 232) (v := 0) C dL_kept_231 rfl (by decide) ?_
  refine pv_lcmp (q := 233) C dL_kept_232 rfl ?_
  refine pv_if_gt (q := 236) (tgt := 247) C dL_kept_233 (by decide) rfl (fun c9 => ?_) (fun c9 => ?_)
  ·
    refine pv_iconst (q := 248) (v := 1) C dL_kept_247 rfl (by decide) ?_
    refine pv_goto (tgt := 252) C dL_kept_248 (by decide) ?_
    refine pv_istore_n (q := 253) C dL_kept_252 rfl rfl (Nat.le_of_ble_eq_true rfl) rfl ?_
    exact PV_widen (by omega) (by omega) (PV_le (k D116 P116 hR116) ⟨Or.inr rfl, Or.inr rfl, Or.inr rfl, Or.inl rfl, Or.inr rfl, Or.inr rfl, Or.inr rfl, Or.inl rfl, Or.inl rfl, Or.inl rfl, Or.inl rfl, Or.inl rfl, Or.inl rfl, Or.inl rfl, Or.inl rfl, Or.inl rfl, Or.inl rfl, Or.inl rfl, trivial⟩)
  ·
    have g0 := nI_pos0 (by omega) c9
    refine pv_aload_n (q := 237) C dL_kept_236 rfl rfl rfl ?_
    refine pv_iload (q := 239) C dL_kept_237 rfl rfl ?_
    refine pv_callLl (q := 242) (rest := []) C Z hNC hKl (c_L_unlikeGroups l X D116 P116 hfl M (W) hR116 (nI v)) tw_830 mw_L_unlikeGroups ⟨rfl, rfl⟩ (by rw [hKR]; exact ⟨Nat.le_of_ble_eq_true rfl, Nat.le_of_ble_eq_true rfl⟩) (by rw [hKR]; constructor <;> (dsimp only; omega)) rfl rfl rfl (Nat.le_of_ble_eq_true rfl) dL_kept_239 rfl (fun r118 D118 P118 q118 => ?_)
    obtain ⟨e118, hR118⟩ := q118
    obtain rfl : r118 = (((umN (M 7) v 4) : Int32).toInt64) := e118.trans (by rw [wv_0 (kView_0 hv), ix_n (by omega)])
    refine pv_lconst (q := 243) (v := 0) C dL_kept_242 rfl (by decide) ?_
    refine pv_lcmp (q := 244) C dL_kept_243 rfl ?_
    refine pv_if_ne (q := 247) (tgt := 251) C dL_kept_244 (by decide) rfl (fun c244_119 => False.elim (c244_119 ((lg_cmp_eq _ _).mpr (by rw [um_low hS hv g0]; rfl)))) (fun _ => ?_)
    refine pv_iconst (q := 248) (v := 1) C dL_kept_247 rfl (by decide) ?_
    refine pv_goto (tgt := 252) C dL_kept_248 (by decide) ?_
    refine pv_istore_n (q := 253) C dL_kept_252 rfl rfl (Nat.le_of_ble_eq_true rfl) rfl ?_
    exact PV_widen (by omega) (by omega) (PV_le (k D118 P118 hR118) ⟨Or.inr rfl, Or.inr rfl, Or.inr rfl, Or.inl rfl, Or.inr rfl, Or.inr rfl, Or.inr rfl, Or.inl rfl, Or.inl rfl, Or.inl rfl, Or.inl rfl, Or.inl rfl, Or.inl rfl, Or.inl rfl, Or.inl rfl, Or.inl rfl, Or.inl rfl, Or.inl rfl, trivial⟩)
set_option maxRecDepth 100000 in
set_option maxHeartbeats 4000000 in
theorem kp_v0 {l : Launch} {K : KT} {X : XT} {w0 : Cond} {Q : State → Prop} {M : DT} {W : Nat} (hW : W + 200 < 2 ^ 29) (L : LK l K X cL_kept RL w0 18 (some .boolean) ({ frames := 10, cells := 2300, slots := 13800, locals := 360 } : Room)) {V : Nat} (hJ : JJ (M 7) V) {mo a6 : Int64} {v cb : Nat} (hv : v < 3) (hn : ¬ M 7 (32 + 38 * v + 32) = 1) (hc : cb + 20 ≤ 2300) (k : ∀ (D : DT) (P : PT), RI D P M W → PV K X Q (cb + 20) (6 * (cb + 20)) 253 [some (.ref (X.2.2 0)), some (.int 1), some (.long mo), none, some (.int (nI v)), some (.int 0), some (.long a6), none, none, none, none, none, none, none, none, none, none, none] [] D P) (D : DT) (P : PT) (h : RI D P M W) : PV K X Q (cb) (6 * cb) 83 [some (.ref (X.2.2 0)), some (.int 1), some (.long mo), none, some (.int (nI v)), some (.int 0), some (.long a6), none, none, none, none, none, none, none, none, none, none, none] [] D P := by
  obtain ⟨hKl, hKR, C, Z, hNC, hfl⟩ := id L
  obtain ⟨wr, nx, w1, w2, w3, w4, w5, w6, w7⟩ := SB_wt h.1 hv
  have hS := h.1
  have hz : M 7 (32 + 38 * v + 32) = 0 := (hJ.2.1 v hv).1.resolve_right hn
  have hnx := w7 hz
  have hwt : wt (M 7) v = 0 := by rw [w5, hnx, Nat.sub_self]; rfl
  refine pv_aload_n (q := 84) C dL_kept_83 rfl rfl rfl ?_
  refine pv_iload (q := 86) C dL_kept_84 rfl rfl ?_
  refine pv_callLl (q := 89) (rest := []) C Z hNC hKl (c_L_waiting l X D P hfl M (W) h (nI v)) tw_797 mw_L_waiting ⟨rfl, rfl⟩ (by rw [hKR]; exact ⟨Nat.le_of_ble_eq_true rfl, Nat.le_of_ble_eq_true rfl⟩) (by rw [hKR]; constructor <;> (dsimp only; omega)) rfl rfl rfl (Nat.le_of_ble_eq_true rfl) dL_kept_86 rfl (fun r120 D120 P120 q120 => ?_)
  obtain ⟨e120, hR120⟩ := q120
  obtain rfl : r120 = (((wt (M 7) v) : Int32).toInt64) := e120.trans (by rw [wv_0 (kView_0 hv), ix_n (by omega)])
  refine pv_aload_n (q := 90) C dL_kept_89 rfl rfl rfl ?_
  refine pv_iload (q := 92) C dL_kept_90 rfl rfl ?_
  refine pv_callLl (q := 95) (rest := [.long (((wt (M 7) v) : Int32).toInt64)]) C Z hNC hKl (c_L_byNumbers l X D120 P120 hfl M (W) hR120 (nI v)) tw_801 mw_L_byNumbers ⟨rfl, rfl⟩ (by rw [hKR]; exact ⟨Nat.le_of_ble_eq_true rfl, Nat.le_of_ble_eq_true rfl⟩) (by rw [hKR]; constructor <;> (dsimp only; omega)) rfl rfl rfl (Nat.le_of_ble_eq_true rfl) dL_kept_92 rfl (fun r121 D121 P121 q121 => ?_)
  obtain ⟨e121, hR121⟩ := q121
  obtain rfl : r121 = (((wt (M 7) v) : Int32).toInt64) := e121.trans (by rw [wv_0 (kView_0 hv), ix_n (by omega)])
  refine pv_lcmp (q := 96) C dL_kept_95 rfl ?_
  refine pv_if_ne (q := 99) (tgt := 251) C dL_kept_96 (by decide) rfl (fun c96_122 => False.elim (c96_122 ((lg_cmp_eq _ _).mpr (rfl)))) (fun _ => ?_)
  refine pv_aload_n (q := 100) C dL_kept_99 rfl rfl rfl ?_
  refine pv_iload (q := 102) C dL_kept_100 rfl rfl ?_
  refine pv_callLl (q := 105) (rest := []) C Z hNC hKl (c_L_waiting l X D121 P121 hfl M (W) hR121 (nI v)) tw_797 mw_L_waiting ⟨rfl, rfl⟩ (by rw [hKR]; exact ⟨Nat.le_of_ble_eq_true rfl, Nat.le_of_ble_eq_true rfl⟩) (by rw [hKR]; constructor <;> (dsimp only; omega)) rfl rfl rfl (Nat.le_of_ble_eq_true rfl) dL_kept_102 rfl (fun r123 D123 P123 q123 => ?_)
  obtain ⟨e123, hR123⟩ := q123
  obtain rfl : r123 = (((wt (M 7) v) : Int32).toInt64) := e123.trans (by rw [wv_0 (kView_0 hv), ix_n (by omega)])
  refine pv_aload_n (q := 106) C dL_kept_105 rfl rfl rfl ?_
  refine pv_callVi (q := 109) (rest := [.long (((wt (M 7) v) : Int32).toInt64)]) C hKl (c_X6_deltas l X D123 P123 M (W) hR123) tw_901 (show kd 0 = 6 from rfl) (by decide) rfl mm_X6_deltas ⟨rfl, rfl⟩ (by rw [hKR]; exact ⟨Nat.le_of_ble_eq_true rfl, Nat.le_of_ble_eq_true rfl⟩) (by rw [hKR]; constructor <;> (dsimp only; omega)) rfl rfl rfl (Nat.le_of_ble_eq_true rfl) dL_kept_106 rfl (fun r124 D124 P124 q124 => ?_)
  obtain ⟨rfl, rfl, rfl⟩ := q124
  have hR124 := hR123
  refine pv_i2l (q := 110) C dL_kept_109 rfl ?_
  refine pv_lcmp (q := 111) C dL_kept_110 rfl ?_
  refine pv_if_gt (q := 114) (tgt := 251) C dL_kept_111 (by decide) rfl (fun c111_125 => False.elim (Int64.not_le.mpr ((lg_cmp_gt _ _).mp c111_125) (by rw [w5, w1]; exact l_p (by omega) (by omega) (by omega)))) (fun _ => ?_)
  refine pv_aload_n (q := 115) C dL_kept_114 rfl rfl rfl ?_
  refine pv_iload (q := 117) C dL_kept_115 rfl rfl ?_
  refine pv_callLl (q := 120) (rest := []) C Z hNC hKl (c_L_matters l X D123 P123 hfl M (W) hR124 (nI v)) tw_805 mw_L_matters ⟨rfl, rfl⟩ (by rw [hKR]; exact ⟨Nat.le_of_ble_eq_true rfl, Nat.le_of_ble_eq_true rfl⟩) (by rw [hKR]; constructor <;> (dsimp only; omega)) rfl rfl rfl (Nat.le_of_ble_eq_true rfl) dL_kept_117 rfl (fun r126 D126 P126 q126 => ?_)
  obtain ⟨e126, hR126⟩ := q126
  obtain rfl : r126 = (((nI (wgt (M 7) v)) : Int32).toInt64) := e126.trans (by rw [wv_0 (kView_0 hv), ix_n (by omega)])
  refine pv_lconst (q := 121) (v := 0) C dL_kept_120 rfl (by decide) ?_
  refine pv_aload_n (q := 122) C dL_kept_121 rfl rfl rfl ?_
  refine pv_iload (q := 124) C dL_kept_122 rfl rfl ?_
  refine pv_callLl (q := 127) (rest := [.long 0, .long (((nI (wgt (M 7) v)) : Int32).toInt64)]) C Z hNC hKl (c_L_waiting l X D126 P126 hfl M (W) hR126 (nI v)) tw_797 mw_L_waiting ⟨rfl, rfl⟩ (by rw [hKR]; exact ⟨Nat.le_of_ble_eq_true rfl, Nat.le_of_ble_eq_true rfl⟩) (by rw [hKR]; constructor <;> (dsimp only; omega)) rfl rfl rfl (Nat.le_of_ble_eq_true rfl) dL_kept_124 rfl (fun r127 D127 P127 q127 => ?_)
  obtain ⟨e127, hR127⟩ := q127
  obtain rfl : r127 = (((wt (M 7) v) : Int32).toInt64) := e127.trans (by rw [wv_0 (kView_0 hv), ix_n (by omega)])
  refine pv_l2i (q := 128) C dL_kept_127 rfl rfl ?_
  refine pv_i2l (q := 129) C dL_kept_128 rfl ?_
  refine pv_callSi (q := 132) (rest := []) C hKl (c_L_in l X D127 P127 _ _ _) tw_894 mm_L_in ⟨rfl, rfl⟩ (by rw [hKR]; exact ⟨Nat.le_of_ble_eq_true rfl, Nat.le_of_ble_eq_true rfl⟩) (by rw [hKR]; constructor <;> (dsimp only; omega)) rfl rfl rfl (Nat.le_of_ble_eq_true rfl) dL_kept_129 rfl (fun r128 D128 P128 q128 => ?_)
  obtain ⟨rfl, rfl, rfl⟩ := q128
  refine pv_if_eq (q := 135) (tgt := 251) C dL_kept_132 (by decide) rfl (fun c132_129 => False.elim (absurd c132_129 (inI_n (l_p (n := 0) (by omega) (by omega) (Nat.zero_le _)) (by rw [l_ii, w5]; exact l_p (by omega) (by omega) w6)))) (fun _ => ?_)
  refine pv_iload (q := 137) C dL_kept_135 rfl rfl ?_
  refine pv_if_eq (q := 140) (tgt := 170) C dL_kept_137 (by decide) rfl (fun _ => ?_) (fun c137_130 => absurd rfl c137_130)
  refine pv_aload_n (q := 171) C dL_kept_170 rfl rfl rfl ?_
  refine pv_iload (q := 173) C dL_kept_171 rfl rfl ?_
  refine pv_callLl (q := 176) (rest := []) C Z hNC hKl (c_L_waiting l X D127 P127 hfl M (W) hR127 (nI v)) tw_797 mw_L_waiting ⟨rfl, rfl⟩ (by rw [hKR]; exact ⟨Nat.le_of_ble_eq_true rfl, Nat.le_of_ble_eq_true rfl⟩) (by rw [hKR]; constructor <;> (dsimp only; omega)) rfl rfl rfl (Nat.le_of_ble_eq_true rfl) dL_kept_173 rfl (fun r131 D131 P131 q131 => ?_)
  obtain ⟨e131, hR131⟩ := q131
  obtain rfl : r131 = (((wt (M 7) v) : Int32).toInt64) := e131.trans (by rw [wv_0 (kView_0 hv), ix_n (by omega)])
  refine pv_lconst (q := 177) (v := 0) C dL_kept_176 rfl (by decide) ?_
  refine pv_lcmp (q := 178) C dL_kept_177 rfl ?_
  refine pv_if_ne (q := 181) (tgt := 251) C dL_kept_178 (by decide) rfl (fun c178_132 => False.elim (c178_132 ((lg_cmp_eq _ _).mpr (by rw [hwt]; rfl)))) (fun _ => ?_)
  refine pv_aload_n (q := 182) C dL_kept_181 rfl rfl rfl ?_
  refine pv_iload (q := 184) C dL_kept_182 rfl rfl ?_
  refine pv_callLl (q := 187) (rest := []) C Z hNC hKl (c_L_napOf l X D131 P131 hfl M (W) hR131 (nI v)) tw_903 mw_L_napOf ⟨rfl, rfl⟩ (by rw [hKR]; exact ⟨Nat.le_of_ble_eq_true rfl, Nat.le_of_ble_eq_true rfl⟩) (by rw [hKR]; constructor <;> (dsimp only; omega)) rfl rfl rfl (Nat.le_of_ble_eq_true rfl) dL_kept_184 rfl (fun r133 D133 P133 q133 => ?_)
  obtain ⟨e133, hR133⟩ := q133
  obtain rfl : r133 = (((M 7 (32 + 38 * v + 33)) : Int32).toInt64) := e133.trans (by rw [wv_0 (kView_0 hv), ix_n (by omega)])
  refine pv_lconst (q := 188) (v := 0) C dL_kept_187 rfl (by decide) ?_
  refine pv_lcmp (q := 189) C dL_kept_188 rfl ?_
  refine pv_if_ne (q := 192) (tgt := 251) C dL_kept_189 (by decide) rfl (fun c189_134 => False.elim (c189_134 ((lg_cmp_eq _ _).mpr (by rw [(hJ.2.1 v hv).2.2.2.1 hz]; rfl)))) (fun _ => ?_)
  refine pv_aload_n (q := 193) C dL_kept_192 rfl rfl rfl ?_
  refine pv_iload (q := 195) C dL_kept_193 rfl rfl ?_
  refine pv_callLl (q := 198) (rest := []) C Z hNC hKl (c_L_unlikeGroups l X D133 P133 hfl M (W) hR133 (nI v)) tw_830 mw_L_unlikeGroups ⟨rfl, rfl⟩ (by rw [hKR]; exact ⟨Nat.le_of_ble_eq_true rfl, Nat.le_of_ble_eq_true rfl⟩) (by rw [hKR]; constructor <;> (dsimp only; omega)) rfl rfl rfl (Nat.le_of_ble_eq_true rfl) dL_kept_195 rfl (fun r135 D135 P135 q135 => ?_)
  obtain ⟨e135, hR135⟩ := q135
  obtain rfl : r135 = (((umN (M 7) v 4) : Int32).toInt64) := e135.trans (by rw [wv_0 (kView_0 hv), ix_n (by omega)])
  refine pv_lconst (q := 199) (v := 0) C dL_kept_198 rfl (by decide) ?_
  refine pv_lcmp (q := 200) C dL_kept_199 rfl ?_
  refine pv_if_ne (q := 203) (tgt := 251) C dL_kept_200 (by decide) rfl (fun c200_136 => False.elim (c200_136 ((lg_cmp_eq _ _).mpr (by rw [um_low hS hv (by omega)]; rfl)))) (fun _ => ?_)
  refine pv_aload_n (q := 204) C dL_kept_203 rfl rfl rfl ?_
  refine pv_iload (q := 206) C dL_kept_204 rfl rfl ?_
  refine pv_callLl (q := 209) (rest := []) C Z hNC hKl (c_L_wakesIn l X D135 P135 hfl M (W) hR135 (nI v)) tw_838 mw_L_wakesIn ⟨rfl, rfl⟩ (by rw [hKR]; exact ⟨Nat.le_of_ble_eq_true rfl, Nat.le_of_ble_eq_true rfl⟩) (by rw [hKR]; constructor <;> (dsimp only; omega)) rfl rfl rfl (Nat.le_of_ble_eq_true rfl) dL_kept_206 rfl (fun r137 D137 P137 q137 => ?_)
  obtain ⟨e137, hR137⟩ := q137
  obtain rfl : r137 = (((wks (M 7) v) : Int32).toInt64) := e137.trans (by rw [wv_0 (kView_0 hv), ix_n (by omega)])
  refine pv_lconst (q := 210) (v := 0) C dL_kept_209 rfl (by decide) ?_
  refine pv_lcmp (q := 211) C dL_kept_210 rfl ?_
  refine pv_if_ne (q := 214) (tgt := 251) C dL_kept_211 (by decide) rfl (fun c211_138 => False.elim (c211_138 ((lg_cmp_eq _ _).mpr (by rw [wks_0 hn]; rfl)))) (fun _ => ?_)
  refine pv_aload_n (q := 215) C dL_kept_214 rfl rfl rfl ?_
  refine pv_iload (q := 217) C dL_kept_215 rfl rfl ?_
  refine pv_callLl (q := 220) (rest := []) C Z hNC hKl (c_L_ifWoken l X D137 P137 hfl M (W) hR137 (nI v)) tw_834 mw_L_ifWoken ⟨rfl, rfl⟩ (by rw [hKR]; exact ⟨Nat.le_of_ble_eq_true rfl, Nat.le_of_ble_eq_true rfl⟩) (by rw [hKR]; constructor <;> (dsimp only; omega)) rfl rfl rfl (Nat.le_of_ble_eq_true rfl) dL_kept_217 rfl (fun r139 D139 P139 q139 => ?_)
  obtain ⟨e139, hR139⟩ := q139
  obtain rfl : r139 = (((0) : Int32).toInt64) := e139.trans (by rw [wv_0 (kView_0 hv)])
  refine pv_lconst (q := 221) (v := 0) C dL_kept_220 rfl (by decide) ?_
  refine pv_lcmp (q := 222) C dL_kept_221 rfl ?_
  refine pv_if_ne (q := 225) (tgt := 251) C dL_kept_222 (by decide) rfl (fun c222_140 => False.elim (c222_140 ((lg_cmp_eq _ _).mpr (rfl)))) (fun _ => ?_)
  refine pv_aload_n (q := 226) C dL_kept_225 rfl rfl rfl ?_
  refine pv_iload (q := 228) C dL_kept_226 rfl rfl ?_
  refine pv_callLl (q := 231) (rest := []) C Z hNC hKl (c_L_matters l X D139 P139 hfl M (W) hR139 (nI v)) tw_805 mw_L_matters ⟨rfl, rfl⟩ (by rw [hKR]; exact ⟨Nat.le_of_ble_eq_true rfl, Nat.le_of_ble_eq_true rfl⟩) (by rw [hKR]; constructor <;> (dsimp only; omega)) rfl rfl rfl (Nat.le_of_ble_eq_true rfl) dL_kept_228 rfl (fun r141 D141 P141 q141 => ?_)
  obtain ⟨e141, hR141⟩ := q141
  obtain rfl : r141 = (((nI (wgt (M 7) v)) : Int32).toInt64) := e141.trans (by rw [wv_0 (kView_0 hv), ix_n (by omega)])
  refine pv_lconst (q := 232) (v := 0) C dL_kept_231 rfl (by decide) ?_
  refine pv_lcmp (q := 233) C dL_kept_232 rfl ?_
  refine pv_if_gt (q := 236) (tgt := 247) C dL_kept_233 (by decide) rfl (fun c9 => ?_) (fun c9 => ?_)
  ·
    refine pv_iconst (q := 248) (v := 1) C dL_kept_247 rfl (by decide) ?_
    refine pv_goto (tgt := 252) C dL_kept_248 (by decide) ?_
    refine pv_istore_n (q := 253) C dL_kept_252 rfl rfl (Nat.le_of_ble_eq_true rfl) rfl ?_
    exact PV_widen (by omega) (by omega) (PV_le (k D141 P141 hR141) ⟨Or.inr rfl, Or.inr rfl, Or.inr rfl, Or.inl rfl, Or.inr rfl, Or.inr rfl, Or.inr rfl, Or.inl rfl, Or.inl rfl, Or.inl rfl, Or.inl rfl, Or.inl rfl, Or.inl rfl, Or.inl rfl, Or.inl rfl, Or.inl rfl, Or.inl rfl, Or.inl rfl, trivial⟩)
  ·
    have g0 := nI_pos0 (by omega) c9
    refine pv_aload_n (q := 237) C dL_kept_236 rfl rfl rfl ?_
    refine pv_iload (q := 239) C dL_kept_237 rfl rfl ?_
    refine pv_callLl (q := 242) (rest := []) C Z hNC hKl (c_L_unlikeGroups l X D141 P141 hfl M (W) hR141 (nI v)) tw_830 mw_L_unlikeGroups ⟨rfl, rfl⟩ (by rw [hKR]; exact ⟨Nat.le_of_ble_eq_true rfl, Nat.le_of_ble_eq_true rfl⟩) (by rw [hKR]; constructor <;> (dsimp only; omega)) rfl rfl rfl (Nat.le_of_ble_eq_true rfl) dL_kept_239 rfl (fun r143 D143 P143 q143 => ?_)
    obtain ⟨e143, hR143⟩ := q143
    obtain rfl : r143 = (((umN (M 7) v 4) : Int32).toInt64) := e143.trans (by rw [wv_0 (kView_0 hv), ix_n (by omega)])
    refine pv_lconst (q := 243) (v := 0) C dL_kept_242 rfl (by decide) ?_
    refine pv_lcmp (q := 244) C dL_kept_243 rfl ?_
    refine pv_if_ne (q := 247) (tgt := 251) C dL_kept_244 (by decide) rfl (fun c244_144 => False.elim (c244_144 ((lg_cmp_eq _ _).mpr (by rw [um_low hS hv g0]; rfl)))) (fun _ => ?_)
    refine pv_iconst (q := 248) (v := 1) C dL_kept_247 rfl (by decide) ?_
    refine pv_goto (tgt := 252) C dL_kept_248 (by decide) ?_
    refine pv_istore_n (q := 253) C dL_kept_252 rfl rfl (Nat.le_of_ble_eq_true rfl) rfl ?_
    exact PV_widen (by omega) (by omega) (PV_le (k D143 P143 hR143) ⟨Or.inr rfl, Or.inr rfl, Or.inr rfl, Or.inl rfl, Or.inr rfl, Or.inr rfl, Or.inr rfl, Or.inl rfl, Or.inl rfl, Or.inl rfl, Or.inl rfl, Or.inl rfl, Or.inl rfl, Or.inl rfl, Or.inl rfl, Or.inl rfl, Or.inl rfl, Or.inl rfl, trivial⟩)
set_option maxRecDepth 100000 in
set_option maxHeartbeats 4000000 in
theorem kp_v {l : Launch} {K : KT} {X : XT} {w0 : Cond} {Q : State → Prop} {M : DT} {W : Nat} (hW : W + 200 < 2 ^ 29) (L : LK l K X cL_kept RL w0 18 (some .boolean) ({ frames := 10, cells := 2300, slots := 13800, locals := 360 } : Room)) {V : Nat} (hJ : JJ (M 7) V) {cb : Nat} (hc : cb + 2130 ≤ 2300) (k : ∀ (D : DT) (P : PT), RI D P M W → PV K X Q (cb + 2130) (6 * (cb + 2130)) 798 [some (.ref (X.2.2 0)), some (.int 1), some (.long ((lgd (M 7) 3).toInt64)), none, none, none, none, none, none, none, none, none, none, none, none, none, none, none] [] D P) : ∀ (nn v : Nat) (D : DT) (P : PT), RI D P M W → 4 ≤ v + nn → v ≤ 3 → PV K X Q (cb + 710 * v) (6 * (cb + 710 * v)) 52 [some (.ref (X.2.2 0)), some (.int 1), some (.long ((lgd (M 7) v).toInt64)), none, some (.int (nI v)), none, none, none, none, none, none, none, none, none, none, none, none, none] [] D P := by
  obtain ⟨hKl, hKR, C, Z, hNC, hfl⟩ := id L
  intro nn
  induction nn with
  | zero =>
    intro v D P h hfu hv4
    exact absurd hfu (by omega)
  | succ nn ih =>
    intro v D P h hfu hv4
    refine pv_iload (q := 54) C dL_kept_52 rfl rfl ?_
    refine pv_iconst (q := 55) (v := 3) C dL_kept_54 rfl (by decide) ?_
    refine pv_icmp_ge (q := 58) (tgt := 798) C dL_kept_55 (by decide) rfl (fun cL => ?_) (fun cL => ?_)
    ·
      obtain rfl : v = 3 := by
        have := (nI_leI (a := 3) (b := v) (by decide) (by omega)).mp cL
        omega
      exact PV_widen (by omega) (by omega) (PV_le (k D P h) ⟨Or.inr rfl, Or.inr rfl, Or.inr rfl, Or.inl rfl, Or.inl rfl, Or.inl rfl, Or.inl rfl, Or.inl rfl, Or.inl rfl, Or.inl rfl, Or.inl rfl, Or.inl rfl, Or.inl rfl, Or.inl rfl, Or.inl rfl, Or.inl rfl, Or.inl rfl, Or.inl rfl, trivial⟩)
    ·
      have hv : v < 3 := by
        rcases Nat.lt_or_ge v 3 with z | z
        · exact z
        · exact absurd ((nI_leI (a := 3) (b := v) (by decide) (by omega)).mpr z) cL
      refine pv_iload_n (q := 59) C dL_kept_58 rfl rfl rfl ?_
      refine pv_if_eq (q := 62) (tgt := 798) C dL_kept_59 (by decide) rfl (fun c59_146 => absurd c59_146 (by decide)) (fun _ => ?_)
      refine pv_aload_n (q := 63) C dL_kept_62 rfl rfl rfl ?_
      refine pv_iload (q := 65) C dL_kept_63 rfl rfl ?_
      refine pv_callLl (q := 68) (rest := []) C Z hNC hKl (c_L_napping l X D P hfl M (W) h (nI v)) tw_793 mw_L_napping ⟨rfl, rfl⟩ (by rw [hKR]; exact ⟨Nat.le_of_ble_eq_true rfl, Nat.le_of_ble_eq_true rfl⟩) (by rw [hKR]; constructor <;> (dsimp only; omega)) rfl rfl rfl (Nat.le_of_ble_eq_true rfl) dL_kept_65 rfl (fun r147 D147 P147 q147 => ?_)
      obtain ⟨e147, hR147⟩ := q147
      obtain rfl : r147 = (((if M 7 (32 + 38 * v + 32) = 1 then 1 else 0) : Int32).toInt64) := e147.trans (by rw [wv_0 (kView_0 hv), ix_n (by omega)])
      refine pv_lconst (q := 69) (v := 1) C dL_kept_68 rfl (by decide) ?_
      refine pv_lcmp (q := 70) C dL_kept_69 rfl ?_
      refine pv_if_ne (q := 73) (tgt := 77) C dL_kept_70 (by decide) rfl (fun c => ?_) (fun c => ?_)
      ·
        refine pv_iconst (q := 78) (v := 0) C dL_kept_77 rfl (by decide) ?_
        refine pv_istore (q := 80) C dL_kept_78 rfl (Nat.le_of_ble_eq_true rfl) rfl ?_
        refine pv_lconst (q := 81) (v := 0) C dL_kept_80 rfl (by decide) ?_
        refine pv_lstore (q := 83) C dL_kept_81 rfl (Nat.le_of_ble_eq_true rfl) rfl ?_
        refine PV_widen (ce' := cb + 710 * v + 2) (sl' := 6 * (cb + 710 * v + 2)) (by omega) (by omega) (kp_v0 hW L (cb := cb + 710 * v + 2) hJ hv (f10 c) (by omega) (fun D5 P5 h5 => ?_) D147 P147 hR147)
        refine pv_aload_n (q := 254) C dL_kept_253 rfl rfl rfl ?_
        refine pv_iload (q := 256) C dL_kept_254 rfl rfl ?_
        refine pv_callLl (q := 259) (rest := []) C Z hNC hKl (c_L_waiting l X D5 P5 hfl M (W) h5 (nI v)) tw_797 mw_L_waiting ⟨rfl, rfl⟩ (by rw [hKR]; exact ⟨Nat.le_of_ble_eq_true rfl, Nat.le_of_ble_eq_true rfl⟩) (by rw [hKR]; constructor <;> (dsimp only; omega)) rfl rfl rfl (Nat.le_of_ble_eq_true rfl) dL_kept_256 rfl (fun r149 D149 P149 q149 => ?_)
        obtain ⟨e149, hR149⟩ := q149
        obtain rfl : r149 = (((wt (M 7) v) : Int32).toInt64) := e149.trans (by rw [wv_0 (kView_0 hv), ix_n (by omega)])
        refine pv_lload_n (q := 260) C dL_kept_259 rfl rfl rfl ?_
        refine pv_lcmp (q := 261) C dL_kept_260 rfl ?_
        refine pv_if_le (q := 264) (tgt := 273) C dL_kept_261 (by decide) rfl (fun c9 => ?_) (fun c9 => ?_)
        ·
          refine pv_lload_n (q := 274) C dL_kept_273 rfl rfl rfl ?_
          rw [lgd_k c9]
          refine pv_lstore_n (q := 275) C dL_kept_274 rfl rfl (Nat.le_of_ble_eq_true rfl) rfl ?_
          refine pv_iconst (q := 276) (v := 0) C dL_kept_275 rfl (by decide) ?_
          refine pv_istore (q := 278) C dL_kept_276 rfl (Nat.le_of_ble_eq_true rfl) rfl ?_
          refine PV_lv (lv' := [some (.ref (X.2.2 0)), some (.int 1), some (.long ((lgd (M 7) (v + 1)).toInt64)), none, some (.int (nI v)), some (.int 0), some (.long (al (M 7) v 0)), none, some (.int (nI 0)), none, none, none, none, none, none, none, none, none]) rfl ?_
          refine PV_widen (ce' := cb + 710 * v + 26) (sl' := 6 * (cb + 710 * v + 26)) (by omega) (by omega) (kp_g hW L (cb := cb + 710 * v + 26) hJ hv (by omega) (fun D6 P6 h6 => ?_) 5 0 D149 P149 hR149 (by omega) (by omega))
          refine pv_iload_n (q := 774) C dL_kept_773 rfl rfl rfl ?_
          refine pv_if_eq (q := 777) (tgt := 790) C dL_kept_774 (by decide) rfl (fun c774_151 => absurd c774_151 (by decide)) (fun _ => ?_)
          refine pv_lload (q := 779) C dL_kept_777 rfl rfl ?_
          refine pv_ldc2 (q := 782) C dL_kept_779 rfl tw_893 ?_
          refine pv_lcmp (q := 783) C dL_kept_782 rfl ?_
          refine pv_if_gt (q := 786) (tgt := 790) C dL_kept_783 (by decide) rfl (fun c783_152 => False.elim (Int64.not_le.mpr ((lg_cmp_gt _ _).mp c783_152) (al_4 _ _))) (fun _ => ?_)
          refine pv_iconst (q := 787) (v := 1) C dL_kept_786 rfl (by decide) ?_
          refine pv_goto (tgt := 791) C dL_kept_787 (by decide) ?_
          refine pv_istore_n (q := 792) C dL_kept_791 rfl rfl (Nat.le_of_ble_eq_true rfl) rfl ?_
          refine pv_iinc (q := 795) (v := nI (v + 1)) C dL_kept_792 rfl rfl (nI_add _ _) rfl ?_
          refine pv_goto (tgt := 52) C dL_kept_795 (by decide) ?_
          exact PV_widen (by omega) (by omega) (PV_le (ih (v + 1) D6 P6 h6 (by omega) (by omega)) ⟨Or.inr rfl, Or.inr rfl, Or.inr rfl, Or.inl rfl, Or.inr rfl, Or.inl rfl, Or.inl rfl, Or.inl rfl, Or.inl rfl, Or.inl rfl, Or.inl rfl, Or.inl rfl, Or.inl rfl, Or.inl rfl, Or.inl rfl, Or.inl rfl, Or.inl rfl, Or.inl rfl, trivial⟩)
        ·
          refine pv_aload_n (q := 265) C dL_kept_264 rfl rfl rfl ?_
          refine pv_iload (q := 267) C dL_kept_265 rfl rfl ?_
          refine pv_callLl (q := 270) (rest := []) C Z hNC hKl (c_L_waiting l X D149 P149 hfl M (W) hR149 (nI v)) tw_797 mw_L_waiting ⟨rfl, rfl⟩ (by rw [hKR]; exact ⟨Nat.le_of_ble_eq_true rfl, Nat.le_of_ble_eq_true rfl⟩) (by rw [hKR]; constructor <;> (dsimp only; omega)) rfl rfl rfl (Nat.le_of_ble_eq_true rfl) dL_kept_267 rfl (fun r153 D153 P153 q153 => ?_)
          obtain ⟨e153, hR153⟩ := q153
          obtain rfl : r153 = (((wt (M 7) v) : Int32).toInt64) := e153.trans (by rw [wv_0 (kView_0 hv), ix_n (by omega)])
          rw [lgd_u c9]
          refine pv_goto (tgt := 274) C dL_kept_270 (by decide) ?_
          refine pv_lstore_n (q := 275) C dL_kept_274 rfl rfl (Nat.le_of_ble_eq_true rfl) rfl ?_
          refine pv_iconst (q := 276) (v := 0) C dL_kept_275 rfl (by decide) ?_
          refine pv_istore (q := 278) C dL_kept_276 rfl (Nat.le_of_ble_eq_true rfl) rfl ?_
          refine PV_lv (lv' := [some (.ref (X.2.2 0)), some (.int 1), some (.long ((lgd (M 7) (v + 1)).toInt64)), none, some (.int (nI v)), some (.int 0), some (.long (al (M 7) v 0)), none, some (.int (nI 0)), none, none, none, none, none, none, none, none, none]) rfl ?_
          refine PV_widen (ce' := cb + 710 * v + 26) (sl' := 6 * (cb + 710 * v + 26)) (by omega) (by omega) (kp_g hW L (cb := cb + 710 * v + 26) hJ hv (by omega) (fun D6 P6 h6 => ?_) 5 0 D153 P153 hR153 (by omega) (by omega))
          refine pv_iload_n (q := 774) C dL_kept_773 rfl rfl rfl ?_
          refine pv_if_eq (q := 777) (tgt := 790) C dL_kept_774 (by decide) rfl (fun c774_154 => absurd c774_154 (by decide)) (fun _ => ?_)
          refine pv_lload (q := 779) C dL_kept_777 rfl rfl ?_
          refine pv_ldc2 (q := 782) C dL_kept_779 rfl tw_893 ?_
          refine pv_lcmp (q := 783) C dL_kept_782 rfl ?_
          refine pv_if_gt (q := 786) (tgt := 790) C dL_kept_783 (by decide) rfl (fun c783_155 => False.elim (Int64.not_le.mpr ((lg_cmp_gt _ _).mp c783_155) (al_4 _ _))) (fun _ => ?_)
          refine pv_iconst (q := 787) (v := 1) C dL_kept_786 rfl (by decide) ?_
          refine pv_goto (tgt := 791) C dL_kept_787 (by decide) ?_
          refine pv_istore_n (q := 792) C dL_kept_791 rfl rfl (Nat.le_of_ble_eq_true rfl) rfl ?_
          refine pv_iinc (q := 795) (v := nI (v + 1)) C dL_kept_792 rfl rfl (nI_add _ _) rfl ?_
          refine pv_goto (tgt := 52) C dL_kept_795 (by decide) ?_
          exact PV_widen (by omega) (by omega) (PV_le (ih (v + 1) D6 P6 h6 (by omega) (by omega)) ⟨Or.inr rfl, Or.inr rfl, Or.inr rfl, Or.inl rfl, Or.inr rfl, Or.inl rfl, Or.inl rfl, Or.inl rfl, Or.inl rfl, Or.inl rfl, Or.inl rfl, Or.inl rfl, Or.inl rfl, Or.inl rfl, Or.inl rfl, Or.inl rfl, Or.inl rfl, Or.inl rfl, trivial⟩)
      ·
        refine pv_iconst (q := 74) (v := 1) C dL_kept_73 rfl (by decide) ?_
        refine pv_goto (tgt := 78) C dL_kept_74 (by decide) ?_
        refine pv_istore (q := 80) C dL_kept_78 rfl (Nat.le_of_ble_eq_true rfl) rfl ?_
        refine pv_lconst (q := 81) (v := 0) C dL_kept_80 rfl (by decide) ?_
        refine pv_lstore (q := 83) C dL_kept_81 rfl (Nat.le_of_ble_eq_true rfl) rfl ?_
        refine PV_widen (ce' := cb + 710 * v + 2) (sl' := 6 * (cb + 710 * v + 2)) (by omega) (by omega) (kp_v1 hW L (cb := cb + 710 * v + 2) hJ hv (f11 c) (by omega) (fun D5 P5 h5 => ?_) D147 P147 hR147)
        refine pv_aload_n (q := 254) C dL_kept_253 rfl rfl rfl ?_
        refine pv_iload (q := 256) C dL_kept_254 rfl rfl ?_
        refine pv_callLl (q := 259) (rest := []) C Z hNC hKl (c_L_waiting l X D5 P5 hfl M (W) h5 (nI v)) tw_797 mw_L_waiting ⟨rfl, rfl⟩ (by rw [hKR]; exact ⟨Nat.le_of_ble_eq_true rfl, Nat.le_of_ble_eq_true rfl⟩) (by rw [hKR]; constructor <;> (dsimp only; omega)) rfl rfl rfl (Nat.le_of_ble_eq_true rfl) dL_kept_256 rfl (fun r156 D156 P156 q156 => ?_)
        obtain ⟨e156, hR156⟩ := q156
        obtain rfl : r156 = (((wt (M 7) v) : Int32).toInt64) := e156.trans (by rw [wv_0 (kView_0 hv), ix_n (by omega)])
        refine pv_lload_n (q := 260) C dL_kept_259 rfl rfl rfl ?_
        refine pv_lcmp (q := 261) C dL_kept_260 rfl ?_
        refine pv_if_le (q := 264) (tgt := 273) C dL_kept_261 (by decide) rfl (fun c9 => ?_) (fun c9 => ?_)
        ·
          refine pv_lload_n (q := 274) C dL_kept_273 rfl rfl rfl ?_
          rw [lgd_k c9]
          refine pv_lstore_n (q := 275) C dL_kept_274 rfl rfl (Nat.le_of_ble_eq_true rfl) rfl ?_
          refine pv_iconst (q := 276) (v := 0) C dL_kept_275 rfl (by decide) ?_
          refine pv_istore (q := 278) C dL_kept_276 rfl (Nat.le_of_ble_eq_true rfl) rfl ?_
          refine PV_lv (lv' := [some (.ref (X.2.2 0)), some (.int 1), some (.long ((lgd (M 7) (v + 1)).toInt64)), none, some (.int (nI v)), some (.int 1), some (.long (al (M 7) v 0)), none, some (.int (nI 0)), none, none, none, none, none, none, none, none, none]) rfl ?_
          refine PV_widen (ce' := cb + 710 * v + 26) (sl' := 6 * (cb + 710 * v + 26)) (by omega) (by omega) (kp_g hW L (cb := cb + 710 * v + 26) hJ hv (by omega) (fun D6 P6 h6 => ?_) 5 0 D156 P156 hR156 (by omega) (by omega))
          refine pv_iload_n (q := 774) C dL_kept_773 rfl rfl rfl ?_
          refine pv_if_eq (q := 777) (tgt := 790) C dL_kept_774 (by decide) rfl (fun c774_158 => absurd c774_158 (by decide)) (fun _ => ?_)
          refine pv_lload (q := 779) C dL_kept_777 rfl rfl ?_
          refine pv_ldc2 (q := 782) C dL_kept_779 rfl tw_893 ?_
          refine pv_lcmp (q := 783) C dL_kept_782 rfl ?_
          refine pv_if_gt (q := 786) (tgt := 790) C dL_kept_783 (by decide) rfl (fun c783_159 => False.elim (Int64.not_le.mpr ((lg_cmp_gt _ _).mp c783_159) (al_4 _ _))) (fun _ => ?_)
          refine pv_iconst (q := 787) (v := 1) C dL_kept_786 rfl (by decide) ?_
          refine pv_goto (tgt := 791) C dL_kept_787 (by decide) ?_
          refine pv_istore_n (q := 792) C dL_kept_791 rfl rfl (Nat.le_of_ble_eq_true rfl) rfl ?_
          refine pv_iinc (q := 795) (v := nI (v + 1)) C dL_kept_792 rfl rfl (nI_add _ _) rfl ?_
          refine pv_goto (tgt := 52) C dL_kept_795 (by decide) ?_
          exact PV_widen (by omega) (by omega) (PV_le (ih (v + 1) D6 P6 h6 (by omega) (by omega)) ⟨Or.inr rfl, Or.inr rfl, Or.inr rfl, Or.inl rfl, Or.inr rfl, Or.inl rfl, Or.inl rfl, Or.inl rfl, Or.inl rfl, Or.inl rfl, Or.inl rfl, Or.inl rfl, Or.inl rfl, Or.inl rfl, Or.inl rfl, Or.inl rfl, Or.inl rfl, Or.inl rfl, trivial⟩)
        ·
          refine pv_aload_n (q := 265) C dL_kept_264 rfl rfl rfl ?_
          refine pv_iload (q := 267) C dL_kept_265 rfl rfl ?_
          refine pv_callLl (q := 270) (rest := []) C Z hNC hKl (c_L_waiting l X D156 P156 hfl M (W) hR156 (nI v)) tw_797 mw_L_waiting ⟨rfl, rfl⟩ (by rw [hKR]; exact ⟨Nat.le_of_ble_eq_true rfl, Nat.le_of_ble_eq_true rfl⟩) (by rw [hKR]; constructor <;> (dsimp only; omega)) rfl rfl rfl (Nat.le_of_ble_eq_true rfl) dL_kept_267 rfl (fun r160 D160 P160 q160 => ?_)
          obtain ⟨e160, hR160⟩ := q160
          obtain rfl : r160 = (((wt (M 7) v) : Int32).toInt64) := e160.trans (by rw [wv_0 (kView_0 hv), ix_n (by omega)])
          rw [lgd_u c9]
          refine pv_goto (tgt := 274) C dL_kept_270 (by decide) ?_
          refine pv_lstore_n (q := 275) C dL_kept_274 rfl rfl (Nat.le_of_ble_eq_true rfl) rfl ?_
          refine pv_iconst (q := 276) (v := 0) C dL_kept_275 rfl (by decide) ?_
          refine pv_istore (q := 278) C dL_kept_276 rfl (Nat.le_of_ble_eq_true rfl) rfl ?_
          refine PV_lv (lv' := [some (.ref (X.2.2 0)), some (.int 1), some (.long ((lgd (M 7) (v + 1)).toInt64)), none, some (.int (nI v)), some (.int 1), some (.long (al (M 7) v 0)), none, some (.int (nI 0)), none, none, none, none, none, none, none, none, none]) rfl ?_
          refine PV_widen (ce' := cb + 710 * v + 26) (sl' := 6 * (cb + 710 * v + 26)) (by omega) (by omega) (kp_g hW L (cb := cb + 710 * v + 26) hJ hv (by omega) (fun D6 P6 h6 => ?_) 5 0 D160 P160 hR160 (by omega) (by omega))
          refine pv_iload_n (q := 774) C dL_kept_773 rfl rfl rfl ?_
          refine pv_if_eq (q := 777) (tgt := 790) C dL_kept_774 (by decide) rfl (fun c774_161 => absurd c774_161 (by decide)) (fun _ => ?_)
          refine pv_lload (q := 779) C dL_kept_777 rfl rfl ?_
          refine pv_ldc2 (q := 782) C dL_kept_779 rfl tw_893 ?_
          refine pv_lcmp (q := 783) C dL_kept_782 rfl ?_
          refine pv_if_gt (q := 786) (tgt := 790) C dL_kept_783 (by decide) rfl (fun c783_162 => False.elim (Int64.not_le.mpr ((lg_cmp_gt _ _).mp c783_162) (al_4 _ _))) (fun _ => ?_)
          refine pv_iconst (q := 787) (v := 1) C dL_kept_786 rfl (by decide) ?_
          refine pv_goto (tgt := 791) C dL_kept_787 (by decide) ?_
          refine pv_istore_n (q := 792) C dL_kept_791 rfl rfl (Nat.le_of_ble_eq_true rfl) rfl ?_
          refine pv_iinc (q := 795) (v := nI (v + 1)) C dL_kept_792 rfl rfl (nI_add _ _) rfl ?_
          refine pv_goto (tgt := 52) C dL_kept_795 (by decide) ?_
          exact PV_widen (by omega) (by omega) (PV_le (ih (v + 1) D6 P6 h6 (by omega) (by omega)) ⟨Or.inr rfl, Or.inr rfl, Or.inr rfl, Or.inl rfl, Or.inr rfl, Or.inl rfl, Or.inl rfl, Or.inl rfl, Or.inl rfl, Or.inl rfl, Or.inl rfl, Or.inl rfl, Or.inl rfl, Or.inl rfl, Or.inl rfl, Or.inl rfl, Or.inl rfl, Or.inl rfl, trivial⟩)
set_option maxRecDepth 100000 in
set_option maxHeartbeats 8000000 in
theorem c_L_kept (l : Launch) (X : XT) (D : DT) (P : PT) (hfl : l.stackTraces = false) (M : DT) (W : Nat) (h : RI D P M W) (hW : W + 200 < 2 ^ 29) (V : Nat) (hJ : JJ (M 7) V) (hV : V < 2 ^ 29) : LM l X yL_kept (.code yL_kept cL_kept 18 (some .boolean)) ({ frames := 10, cells := 2300, slots := 13800, locals := 360 } : Room) [.ref (X.2.2 0)] (qI X (fun r D' P' => r = 1 ∧ RI D' P' M W)) D P 2300 13800 := by
  refine lm_of (by decide +kernel) (Nat.le_of_ble_eq_true rfl) ?_
  intro K hKl hKR C Z hNC
  obtain ⟨ka, kb, j1, j2, j3, j4⟩ := hJ.2.2
  obtain ⟨s0, s1, s2, -⟩ := h.2.1
  have L : LK l K X cL_kept RL _ 18 (some .boolean) ({ frames := 10, cells := 2300, slots := 13800, locals := 360 } : Room) := ⟨hKl, hKR, C, Z, hNC, hfl⟩
  refine PV_lv (lv' := [some (.ref (X.2.2 0)), none, none, none, none, none, none, none, none, none, none, none, none, none, none, none, none, none]) rfl ?_
  refine pv_aload_n (q := 1) C dL_kept_0 rfl rfl rfl ?_
  refine pv_callVi (q := 4) (rest := []) C hKl (c_X6_rows l X D P M (W) h) tw_259 (show kd 0 = 6 from rfl) (by decide) rfl mm_X6_rows ⟨rfl, rfl⟩ (by rw [hKR]; exact ⟨Nat.le_of_ble_eq_true rfl, Nat.le_of_ble_eq_true rfl⟩) (by rw [hKR]; constructor <;> (dsimp only; omega)) rfl rfl rfl (Nat.le_of_ble_eq_true rfl) dL_kept_1 rfl (fun r163 D163 P163 q163 => ?_)
  obtain ⟨rfl, rfl, rfl⟩ := q163
  have hR163 := h
  refine pv_i2l (q := 5) C dL_kept_4 rfl ?_
  refine pv_lconst (q := 6) (v := 0) C dL_kept_5 rfl (by decide) ?_
  refine pv_ldc2 (q := 9) C dL_kept_6 rfl tw_893 ?_
  refine pv_callSi (q := 12) (rest := []) C hKl (c_L_in l X D P _ _ _) tw_894 mm_L_in ⟨rfl, rfl⟩ (by rw [hKR]; exact ⟨Nat.le_of_ble_eq_true rfl, Nat.le_of_ble_eq_true rfl⟩) (by rw [hKR]; constructor <;> (dsimp only; omega)) rfl rfl rfl (Nat.le_of_ble_eq_true rfl) dL_kept_9 rfl (fun r164 D164 P164 q164 => ?_)
  obtain ⟨rfl, rfl, rfl⟩ := q164
  refine pv_if_eq (q := 15) (tgt := 45) C dL_kept_12 (by decide) rfl (fun c12_165 => False.elim (absurd c12_165 (inI_n (l_p (n := 0) (m := tk (M 7)) (by omega) (by have := tk_le (M 7); omega) (Nat.zero_le _)) (l_p (n := tk (M 7)) (m := 16) (by have := tk_le (M 7); omega) (by omega) (tk_le _))))) (fun _ => ?_)
  refine pv_aload_n (q := 16) C dL_kept_15 rfl rfl rfl ?_
  refine pv_callVi (q := 19) (rest := []) C hKl (c_X6_wakingsByThemselves l X D P M (W) hR163) tw_897 (show kd 0 = 6 from rfl) (by decide) rfl mm_X6_wakingsByThemselves ⟨rfl, rfl⟩ (by rw [hKR]; exact ⟨Nat.le_of_ble_eq_true rfl, Nat.le_of_ble_eq_true rfl⟩) (by rw [hKR]; constructor <;> (dsimp only; omega)) rfl rfl rfl (Nat.le_of_ble_eq_true rfl) dL_kept_16 rfl (fun r166 D166 P166 q166 => ?_)
  obtain ⟨rfl, rfl, rfl⟩ := q166
  have hR166 := hR163
  refine pv_aload_n (q := 20) C dL_kept_19 rfl rfl rfl ?_
  refine pv_callVi (q := 23) (rest := [.int (M 7 181)]) C hKl (c_X6_wakings l X D P M (W) hR166) tw_898 (show kd 0 = 6 from rfl) (by decide) rfl mm_X6_wakings ⟨rfl, rfl⟩ (by rw [hKR]; exact ⟨Nat.le_of_ble_eq_true rfl, Nat.le_of_ble_eq_true rfl⟩) (by rw [hKR]; constructor <;> (dsimp only; omega)) rfl rfl rfl (Nat.le_of_ble_eq_true rfl) dL_kept_20 rfl (fun r167 D167 P167 q167 => ?_)
  obtain ⟨rfl, rfl, rfl⟩ := q167
  have hR167 := hR166
  refine pv_icmp_gt (q := 26) (tgt := 45) C dL_kept_23 (by decide) rfl (fun c23_168 => False.elim (absurd c23_168 (by rw [j1, j2]; exact fun z => absurd ((nI_ltI (by omega) (by omega)).mp z) (by omega)))) (fun _ => ?_)
  refine pv_aload_n (q := 27) C dL_kept_26 rfl rfl rfl ?_
  refine pv_callVi (q := 30) (rest := []) C hKl (c_X6_savedStates l X D P M (W) hR167) tw_899 (show kd 0 = 6 from rfl) (by decide) rfl mm_X6_savedStates ⟨rfl, rfl⟩ (by rw [hKR]; exact ⟨Nat.le_of_ble_eq_true rfl, Nat.le_of_ble_eq_true rfl⟩) (by rw [hKR]; constructor <;> (dsimp only; omega)) rfl rfl rfl (Nat.le_of_ble_eq_true rfl) dL_kept_27 rfl (fun r169 D169 P169 q169 => ?_)
  obtain ⟨rfl, rfl, rfl⟩ := q169
  have hR169 := hR167
  refine pv_i2l (q := 31) C dL_kept_30 rfl ?_
  refine pv_lconst (q := 32) (v := 0) C dL_kept_31 rfl (by decide) ?_
  refine pv_ldc2 (q := 35) C dL_kept_32 rfl tw_900 ?_
  refine pv_callSi (q := 38) (rest := []) C hKl (c_L_in l X D P _ _ _) tw_894 mm_L_in ⟨rfl, rfl⟩ (by rw [hKR]; exact ⟨Nat.le_of_ble_eq_true rfl, Nat.le_of_ble_eq_true rfl⟩) (by rw [hKR]; constructor <;> (dsimp only; omega)) rfl rfl rfl (Nat.le_of_ble_eq_true rfl) dL_kept_35 rfl (fun r170 D170 P170 q170 => ?_)
  obtain ⟨rfl, rfl, rfl⟩ := q170
  refine pv_if_eq (q := 41) (tgt := 45) C dL_kept_38 (by decide) rfl (fun c38_171 => False.elim (absurd c38_171 (inI_n (by rw [s2]; exact l_p (n := 0) (by omega) (by omega) (Nat.zero_le _)) (by rw [s2]; exact l_p (m := 5) (by omega) (by omega) s1)))) (fun _ => ?_)
  refine pv_iconst (q := 42) (v := 1) C dL_kept_41 rfl (by decide) ?_
  refine pv_goto (tgt := 46) C dL_kept_42 (by decide) ?_
  refine pv_istore_n (q := 47) C dL_kept_46 rfl rfl (Nat.le_of_ble_eq_true rfl) rfl ?_
  refine pv_lconst (q := 48) (v := 0) C dL_kept_47 rfl (by decide) ?_
  refine pv_lstore_n (q := 49) C dL_kept_48 rfl rfl (Nat.le_of_ble_eq_true rfl) rfl ?_
  refine pv_iconst (q := 50) (v := 0) C dL_kept_49 rfl (by decide) ?_
  refine pv_istore (q := 52) C dL_kept_50 rfl (Nat.le_of_ble_eq_true rfl) rfl ?_
  refine PV_lv (lv' := [some (.ref (X.2.2 0)), some (.int 1), some (.long ((lgd (M 7) 0).toInt64)), none, some (.int (nI 0)), none, none, none, none, none, none, none, none, none, none, none, none, none]) rfl ?_
  refine PV_widen (ce' := 100) (sl' := 6 * 100) (by omega) (by omega) (kp_v hW L (cb := 100) hJ (by omega) (fun D4 P4 h4 => ?_) 4 0 D P hR169 (by omega) (by omega))
  refine pv_iload_n (q := 799) C dL_kept_798 rfl rfl rfl ?_
  refine pv_if_eq (q := 802) (tgt := 816) C dL_kept_799 (by decide) rfl (fun c799_172 => absurd c799_172 (by decide)) (fun _ => ?_)
  refine pv_lload_n (q := 803) C dL_kept_802 rfl rfl rfl ?_
  refine pv_aload_n (q := 804) C dL_kept_803 rfl rfl rfl ?_
  refine pv_callVi (q := 807) (rest := [.long ((lgd (M 7) 3).toInt64)]) C hKl (c_X6_logLength l X D4 P4 M (W) h4) tw_933 (show kd 0 = 6 from rfl) (by decide) rfl mm_X6_logLength ⟨rfl, rfl⟩ (by rw [hKR]; exact ⟨Nat.le_of_ble_eq_true rfl, Nat.le_of_ble_eq_true rfl⟩) (by rw [hKR]; constructor <;> (dsimp only; omega)) rfl rfl rfl (Nat.le_of_ble_eq_true rfl) dL_kept_804 rfl (fun r173 D173 P173 q173 => ?_)
  obtain ⟨rfl, rfl, rfl⟩ := q173
  have hR173 := h4
  refine pv_i2l (q := 808) C dL_kept_807 rfl ?_
  refine pv_lcmp (q := 809) C dL_kept_808 rfl ?_
  refine pv_if_ne (q := 812) (tgt := 816) C dL_kept_809 (by decide) rfl (fun c809_174 => False.elim (c809_174 ((lg_cmp_eq _ _).mpr (rfl)))) (fun _ => ?_)
  refine pv_iconst (q := 813) (v := 1) C dL_kept_812 rfl (by decide) ?_
  refine pv_goto (tgt := 817) C dL_kept_813 (by decide) ?_
  exact XK.of (pv_zret C (Or.inr rfl) ⟨rfl, hR173⟩ (by omega) (by omega) dL_kept_817)
