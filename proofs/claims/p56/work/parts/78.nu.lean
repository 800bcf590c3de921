/-! a sign more in the text -/
def ap1 (M : DT) (c : Int32) : DT := up2 (up2 (clr M) 12 (ix (M 6 9)) c) 6 9 (M 6 9 + 1)
theorem ap1_n {M : DT} {n : Nat} {c : Int32} (h : M 6 9 = nI n) (hn : n ≤ 60) : up2 (up2 (clr M) 12 n c) 6 9 (nI n + 1) = ap1 M c := by unfold ap1; rw [h, ix_n (by omega)]
theorem ap1_len {M : DT} {n : Nat} {c : Int32} (h : M 6 9 = nI n) : ap1 M c 6 9 = nI (n + 1) := by unfold ap1; rw [up2_self, h, nI_1]
theorem JM_ap1 {M : DT} {V : Nat} {c : Int32} (h : JM M V) : JM (ap1 M c) V := JM_f (JM_12 (JM_clr h)) (by decide) (by decide)
theorem kApp_0 {n : Nat} {c : Int32} (hc : rg c 33 126) (hn : n < 60) : kApp n c = 0 := by unfold kApp; rw [if_pos hc, if_neg (by omega)]
theorem rg_cN {c : Nat} (h1 : 33 ≤ c) (h2 : c ≤ 126) : rg (nI c) 33 126 := ⟨(nI_leI (a := 33) (by decide) (by omega)).mpr h1, (nI_leI (b := 126) (by omega) (by decide)).mpr h2⟩
def numE (m : Nat) (M : DT) : DT := if m < 10 then ap1 M (nI (48 + m % 10)) else ap1 (ap1 M (nI (48 + m / 10))) (nI (48 + m % 10))
theorem numE_len {m n : Nat} {M : DT} (h : M 6 9 = nI n) : ∃ n2, n ≤ n2 ∧ n2 ≤ n + 2 ∧ numE m M 6 9 = nI n2 := by
  unfold numE
  split
  · exact ⟨n + 1, by omega, by omega, ap1_len h⟩
  · exact ⟨n + 2, by omega, by omega, ap1_len (ap1_len h)⟩
theorem JM_num {m V : Nat} {M : DT} (h : JM M V) : JM (numE m M) V := by
  unfold numE
  split
  · exact JM_ap1 h
  · exact JM_ap1 (JM_ap1 h)
theorem nI_nneg {m : Nat} (hm : m < 2 ^ 31) : 0 ≤ nI m := nI_pos' hm
theorem neg_lt {m : Nat} (h1 : 1 ≤ m) (hm : m < 1000) : ¬ 0 ≤ -(nI m) := by
  rw [i32_le, Int32.toInt_neg, nI_toInt (by omega), show (0 : Int32).toInt = 0 from rfl, Int.bmod_eq_of_le (by omega) (by omega)]
  omega
theorem neg_sub {a b : Nat} (h : a ≤ b) : nI a - nI b = -(nI (b - a)) := by
  rw [← pk_sub h, Int32.neg_sub]
theorem shr_N {x k : Nat} (hx : x < 2 ^ 31) (hk : k < 7) : nI x >>> (nI k &&& 31) = nI (x / 2 ^ k) := pk_shrN hx _ k (by
  rcases (show k = 0 ∨ k = 1 ∨ k = 2 ∨ k = 3 ∨ k = 4 ∨ k = 5 ∨ k = 6 by omega) with z | z | z | z | z | z | z <;> subst z <;> decide)
theorem ap_pos {n : Nat} (h : n < 60) : 0 < (nI n + 1).toInt64 := by
  rw [nI_1]
  exact l_pl (n := 0) (by omega) (by omega) (by omega)
set_option maxRecDepth 100000 in
set_option maxHeartbeats 4000000 in
theorem c_L_numP (l : Launch) (X : XT) (D : DT) (P : PT) (hfl : l.stackTraces = false) (M : DT) (W : Nat) (h : RI D P M W) (hW : W + 1000 < 2 ^ 29) (m n : Nat) (hm : m ≤ 99) (hn9 : M 6 9 = nI n) (hn : n + 3 ≤ 60) : LM l X yL_number (.code yL_number cL_number 3 (some .boolean)) ({ frames := 8, cells := 6, slots := 36, locals := 288 } : Room) [.ref (X.2.2 0), .int (nI m)] (qI X (fun r D' P' => r = 1 ∧ RI D' P' (numE m M) (W + 390))) D P 6 36 := by
  refine lm_of (by decide +kernel) (Nat.le_of_ble_eq_true rfl) ?_
  intro K hKl hKR C Z hNC
  refine PV_lv (lv' := [some (.ref (X.2.2 0)), some (.int (nI m)), none]) rfl ?_
  refine pv_iload_n (q := 1) C dL_number_0 rfl rfl rfl ?_
  refine pv_if_ge (q := 4) (tgt := 9) C dL_number_1 (by decide) rfl (fun _ => ?_) (fun c1_1 => False.elim (c1_1 (nI_nneg (by omega))))
  refine pv_iload_n (q := 10) C dL_number_9 rfl rfl rfl ?_
  refine pv_istore_n (q := 11) C dL_number_10 rfl rfl (Nat.le_of_ble_eq_true rfl) rfl ?_
  refine pv_iload_n (q := 12) C dL_number_11 rfl rfl rfl ?_
  refine pv_if_ge (q := 15) (tgt := 26) C dL_number_12 (by decide) rfl (fun _ => ?_) (fun c12_2 => False.elim (c12_2 (nI_nneg (by omega))))
  refine pv_iload_n (q := 27) C dL_number_26 rfl rfl rfl ?_
  refine pv_bipush (q := 29) (v := 10) C dL_number_27 rfl (by decide) ?_
  refine pv_icmp_lt (q := 32) (tgt := 48) C dL_number_29 (by decide) rfl (fun c => ?_) (fun c => ?_)
  ·
    have hm1 : m < 10 := (nI_ltI (b := 10) (by omega) (by decide)).mp c
    refine pv_aload_n (q := 49) C dL_number_48 rfl rfl rfl ?_
    refine pv_bipush (q := 51) (v := 48) C dL_number_49 rfl (by decide) ?_
    refine pv_iload_n (q := 52) C dL_number_51 rfl rfl rfl ?_
    refine pv_bipush (q := 54) (v := 10) C dL_number_52 rfl (by decide) ?_
    refine pv_iremN (q := 55) (a := m) (b := 10) C rfl rfl (by omega) (by decide) (by decide) dL_number_54 rfl ?_
    refine pv_iaddN (q := 56) (a := 48) (b := (m % 10)) C rfl rfl dL_number_55 rfl ?_
    refine pv_callLl (q := 59) (rest := []) C Z hNC hKl (c_L_append l X D P hfl M (W) h (by omega) n (by omega) (hn9) (nI (48 + (m % 10)))) tw_768 mw_L_append ⟨rfl, rfl⟩ (by rw [hKR]; exact ⟨Nat.le_of_ble_eq_true rfl, Nat.le_of_ble_eq_true rfl⟩) (by rw [hKR]; constructor <;> (dsimp only; omega)) rfl rfl rfl (Nat.le_of_ble_eq_true rfl) dL_number_56 rfl (fun r4 D4 P4 q4 => ?_)
    obtain ⟨e4, hR4⟩ := QE.ok q4 (kApp_0 (rg_cN (by omega) (by omega)) (by omega))
    obtain rfl : r4 = ((nI n + 1).toInt64) := e4.trans (rfl)
    rw [ap1_n (hn9) (by omega)] at hR4
    refine pv_lconst (q := 60) (v := 0) C dL_number_59 rfl (by decide) ?_
    refine pv_lcmp (q := 61) C dL_number_60 rfl ?_
    refine pv_if_le (q := 64) (tgt := 68) C dL_number_61 (by decide) rfl (fun c61_5 => False.elim (Int64.not_le.mpr (ap_pos (by omega)) ((lg_cmp_le _ _).mp c61_5))) (fun _ => ?_)
    refine pv_iconst (q := 65) (v := 1) C dL_number_64 rfl (by decide) ?_
    refine pv_goto (tgt := 69) C dL_number_65 (by decide) ?_
    exact XK.of (pv_zret C (Or.inr rfl) ⟨rfl, by unfold numE; first | (rw [if_pos hm1]; exact RI_W hR4 (by omega)) | (rw [if_neg hm1]; exact RI_W hR4 (by omega))⟩ (by omega) (by omega) dL_number_69)
  ·
    have hm1 : ¬ m < 10 := fun z => c ((nI_ltI (b := 10) (by omega) (by decide)).mpr z)
    refine pv_aload_n (q := 33) C dL_number_32 rfl rfl rfl ?_
    refine pv_bipush (q := 35) (v := 48) C dL_number_33 rfl (by decide) ?_
    refine pv_iload_n (q := 36) C dL_number_35 rfl rfl rfl ?_
    refine pv_bipush (q := 38) (v := 10) C dL_number_36 rfl (by decide) ?_
    refine pv_idivN (q := 39) (a := m) (b := 10) C rfl rfl (by omega) (by decide) (by decide) dL_number_38 rfl ?_
    refine pv_iaddN (q := 40) (a := 48) (b := (m / 10)) C rfl rfl dL_number_39 rfl ?_
    refine pv_callLl (q := 43) (rest := []) C Z hNC hKl (c_L_append l X D P hfl M (W) h (by omega) n (by omega) (hn9) (nI (48 + (m / 10)))) tw_768 mw_L_append ⟨rfl, rfl⟩ (by rw [hKR]; exact ⟨Nat.le_of_ble_eq_true rfl, Nat.le_of_ble_eq_true rfl⟩) (by rw [hKR]; constructor <;> (dsimp only; omega)) rfl rfl rfl (Nat.le_of_ble_eq_true rfl) dL_number_40 rfl (fun r6 D6 P6 q6 => ?_)
    obtain ⟨e6, hR6⟩ := QE.ok q6 (kApp_0 (rg_cN (by omega) (by omega)) (by omega))
    obtain rfl : r6 = ((nI n + 1).toInt64) := e6.trans (rfl)
    rw [ap1_n (hn9) (by omega)] at hR6
    refine pv_lconst (q := 44) (v := 0) C dL_number_43 rfl (by decide) ?_
    refine pv_lcmp (q := 45) C dL_number_44 rfl ?_
    refine pv_if_le (q := 48) (tgt := 68) C dL_number_45 (by decide) rfl (fun c45_7 => False.elim (Int64.not_le.mpr (ap_pos (by omega)) ((lg_cmp_le _ _).mp c45_7))) (fun _ => ?_)
    refine pv_aload_n (q := 49) C dL_number_48 rfl rfl rfl ?_
    refine pv_bipush (q := 51) (v := 48) C dL_number_49 rfl (by decide) ?_
    refine pv_iload_n (q := 52) C dL_number_51 rfl rfl rfl ?_
    refine pv_bipush (q := 54) (v := 10) C dL_number_52 rfl (by decide) ?_
    refine pv_iremN (q := 55) (a := m) (b := 10) C rfl rfl (by omega) (by decide) (by decide) dL_number_54 rfl ?_
    refine pv_iaddN (q := 56) (a := 48) (b := (m % 10)) C rfl rfl dL_number_55 rfl ?_
    refine pv_callLl (q := 59) (rest := []) C Z hNC hKl (c_L_append l X D6 P6 hfl (ap1 M (nI (48 + (m / 10)))) (W + 130) hR6 (by omega) (n + 1) (by omega) (ap1_len (hn9)) (nI (48 + (m % 10)))) tw_768 mw_L_append ⟨rfl, rfl⟩ (by rw [hKR]; exact ⟨Nat.le_of_ble_eq_true rfl, Nat.le_of_ble_eq_true rfl⟩) (by rw [hKR]; constructor <;> (dsimp only; omega)) rfl rfl rfl (Nat.le_of_ble_eq_true rfl) dL_number_56 rfl (fun r8 D8 P8 q8 => ?_)
    obtain ⟨e8, hR8⟩ := QE.ok q8 (kApp_0 (rg_cN (by omega) (by omega)) (by omega))
    obtain rfl : r8 = ((nI (n + 1) + 1).toInt64) := e8.trans (rfl)
    rw [ap1_n (ap1_len (hn9)) (by omega)] at hR8
    refine pv_lconst (q := 60) (v := 0) C dL_number_59 rfl (by decide) ?_
    refine pv_lcmp (q := 61) C dL_number_60 rfl ?_
    refine pv_if_le (q := 64) (tgt := 68) C dL_number_61 (by decide) rfl (fun c61_9 => False.elim (Int64.not_le.mpr (ap_pos (by omega)) ((lg_cmp_le _ _).mp c61_9))) (fun _ => ?_)
    refine pv_iconst (q := 65) (v := 1) C dL_number_64 rfl (by decide) ?_
    refine pv_goto (tgt := 69) C dL_number_65 (by decide) ?_
    exact XK.of (pv_zret C (Or.inr rfl) ⟨rfl, by unfold numE; first | (rw [if_pos hm1]; exact RI_W hR8 (by omega)) | (rw [if_neg hm1]; exact RI_W hR8 (by omega))⟩ (by omega) (by omega) dL_number_69)
set_option maxRecDepth 100000 in
set_option maxHeartbeats 4000000 in
theorem c_L_numN (l : Launch) (X : XT) (D : DT) (P : PT) (hfl : l.stackTraces = false) (M : DT) (W : Nat) (h : RI D P M W) (hW : W + 1000 < 2 ^ 29) (m n : Nat) (hm : 1 ≤ m ∧ m ≤ 99) (hn9 : M 6 9 = nI n) (hn : n + 3 ≤ 60) : LM l X yL_number (.code yL_number cL_number 3 (some .boolean)) ({ frames := 8, cells := 6, slots := 36, locals := 288 } : Room) [.ref (X.2.2 0), .int (-(nI m))] (qI X (fun r D' P' => r = 1 ∧ RI D' P' (numE m (ap1 M 45)) (W + 390))) D P 6 36 := by
  refine lm_of (by decide +kernel) (Nat.le_of_ble_eq_true rfl) ?_
  intro K hKl hKR C Z hNC
  refine PV_lv (lv' := [some (.ref (X.2.2 0)), some (.int (-(nI m))), none]) rfl ?_
  have hng := neg_lt hm.1 (by omega)
  refine pv_iload_n (q := 1) C dL_number_0 rfl rfl rfl ?_
  refine pv_if_ge (q := 4) (tgt := 9) C dL_number_1 (by decide) rfl (fun c1_1 => False.elim (absurd c1_1 (hng))) (fun _ => ?_)
  refine pv_iload_n (q := 5) C dL_number_4 rfl rfl rfl ?_
  refine pv_ineg (q := 6) C dL_number_5 rfl ?_
  rw [show -(-(nI m)) = nI m from Int32.neg_neg]
  refine pv_goto (tgt := 10) C dL_number_6 (by decide) ?_
  refine pv_istore_n (q := 11) C dL_number_10 rfl rfl (Nat.le_of_ble_eq_true rfl) rfl ?_
  refine pv_iload_n (q := 12) C dL_number_11 rfl rfl rfl ?_
  refine pv_if_ge (q := 15) (tgt := 26) C dL_number_12 (by decide) rfl (fun c12_2 => False.elim (absurd c12_2 (hng))) (fun _ => ?_)
  refine pv_aload_n (q := 16) C dL_number_15 rfl rfl rfl ?_
  refine pv_bipush (q := 18) (v := 45) C dL_number_16 rfl (by decide) ?_
  refine pv_callLl (q := 21) (rest := []) C Z hNC hKl (c_L_append l X D P hfl M (W) h (by omega) n (by omega) (hn9) 45) tw_768 mw_L_append ⟨rfl, rfl⟩ (by rw [hKR]; exact ⟨Nat.le_of_ble_eq_true rfl, Nat.le_of_ble_eq_true rfl⟩) (by rw [hKR]; constructor <;> (dsimp only; omega)) rfl rfl rfl (Nat.le_of_ble_eq_true rfl) dL_number_18 rfl (fun r3 D3 P3 q3 => ?_)
  obtain ⟨e3, hR3⟩ := QE.ok q3 (kApp_0 (by decide) (by omega))
  obtain rfl : r3 = ((nI n + 1).toInt64) := e3.trans (rfl)
  rw [ap1_n (hn9) (by omega)] at hR3
  refine pv_lconst (q := 22) (v := 0) C dL_number_21 rfl (by decide) ?_
  refine pv_lcmp (q := 23) C dL_number_22 rfl ?_
  refine pv_if_le (q := 26) (tgt := 68) C dL_number_23 (by decide) rfl (fun c23_4 => False.elim (Int64.not_le.mpr (ap_pos (by omega)) ((lg_cmp_le _ _).mp c23_4))) (fun _ => ?_)
  refine pv_iload_n (q := 27) C dL_number_26 rfl rfl rfl ?_
  refine pv_bipush (q := 29) (v := 10) C dL_number_27 rfl (by decide) ?_
  refine pv_icmp_lt (q := 32) (tgt := 48) C dL_number_29 (by decide) rfl (fun c => ?_) (fun c => ?_)
  ·
    have hm1 : m < 10 := (nI_ltI (b := 10) (by omega) (by decide)).mp c
    refine pv_aload_n (q := 49) C dL_number_48 rfl rfl rfl ?_
    refine pv_bipush (q := 51) (v := 48) C dL_number_49 rfl (by decide) ?_
    refine pv_iload_n (q := 52) C dL_number_51 rfl rfl rfl ?_
    refine pv_bipush (q := 54) (v := 10) C dL_number_52 rfl (by decide) ?_
    refine pv_iremN (q := 55) (a := m) (b := 10) C rfl rfl (by omega) (by decide) (by decide) dL_number_54 rfl ?_
    refine pv_iaddN (q := 56) (a := 48) (b := (m % 10)) C rfl rfl dL_number_55 rfl ?_
    refine pv_callLl (q := 59) (rest := []) C Z hNC hKl (c_L_append l X D3 P3 hfl (ap1 M 45) (W + 130) hR3 (by omega) (n + 1) (by omega) (ap1_len (hn9)) (nI (48 + (m % 10)))) tw_768 mw_L_append ⟨rfl, rfl⟩ (by rw [hKR]; exact ⟨Nat.le_of_ble_eq_true rfl, Nat.le_of_ble_eq_true rfl⟩) (by rw [hKR]; constructor <;> (dsimp only; omega)) rfl rfl rfl (Nat.le_of_ble_eq_true rfl) dL_number_56 rfl (fun r6 D6 P6 q6 => ?_)
    obtain ⟨e6, hR6⟩ := QE.ok q6 (kApp_0 (rg_cN (by omega) (by omega)) (by omega))
    obtain rfl : r6 = ((nI (n + 1) + 1).toInt64) := e6.trans (rfl)
    rw [ap1_n (ap1_len (hn9)) (by omega)] at hR6
    refine pv_lconst (q := 60) (v := 0) C dL_number_59 rfl (by decide) ?_
    refine pv_lcmp (q := 61) C dL_number_60 rfl ?_
    refine pv_if_le (q := 64) (tgt := 68) C dL_number_61 (by decide) rfl (fun c61_7 => False.elim (Int64.not_le.mpr (ap_pos (by omega)) ((lg_cmp_le _ _).mp c61_7))) (fun _ => ?_)
    refine pv_iconst (q := 65) (v := 1) C dL_number_64 rfl (by decide) ?_
    refine pv_goto (tgt := 69) C dL_number_65 (by decide) ?_
    exact XK.of (pv_zret C (Or.inr rfl) ⟨rfl, by unfold numE; first | (rw [if_pos hm1]; exact RI_W hR6 (by omega)) | (rw [if_neg hm1]; exact RI_W hR6 (by omega))⟩ (by omega) (by omega) dL_number_69)
  ·
    have hm1 : ¬ m < 10 := fun z => c ((nI_ltI (b := 10) (by omega) (by decide)).mpr z)
    refine pv_aload_n (q := 33) C dL_number_32 rfl rfl rfl ?_
    refine pv_bipush (q := 35) (v := 48) C dL_number_33 rfl (by decide) ?_
    refine pv_iload_n (q := 36) C dL_number_35 rfl rfl rfl ?_
    refine pv_bipush (q := 38) (v := 10) C dL_number_36 rfl (by decide) ?_
    refine pv_idivN (q := 39) (a := m) (b := 10) C rfl rfl (by omega) (by decide) (by decide) dL_number_38 rfl ?_
    refine pv_iaddN (q := 40) (a := 48) (b := (m / 10)) C rfl rfl dL_number_39 rfl ?_
    refine pv_callLl (q := 43) (rest := []) C Z hNC hKl (c_L_append l X D3 P3 hfl (ap1 M 45) (W + 130) hR3 (by omega) (n + 1) (by omega) (ap1_len (hn9)) (nI (48 + (m / 10)))) tw_768 mw_L_append ⟨rfl, rfl⟩ (by rw [hKR]; exact ⟨Nat.le_of_ble_eq_true rfl, Nat.le_of_ble_eq_true rfl⟩) (by rw [hKR]; constructor <;> (dsimp only; omega)) rfl rfl rfl (Nat.le_of_ble_eq_true rfl) dL_number_40 rfl (fun r8 D8 P8 q8 => ?_)
    obtain ⟨e8, hR8⟩ := QE.ok q8 (kApp_0 (rg_cN (by omega) (by omega)) (by omega))
    obtain rfl : r8 = ((nI (n + 1) + 1).toInt64) := e8.trans (rfl)
    rw [ap1_n (ap1_len (hn9)) (by omega)] at hR8
    refine pv_lconst (q := 44) (v := 0) C dL_number_43 rfl (by decide) ?_
    refine pv_lcmp (q := 45) C dL_number_44 rfl ?_
    refine pv_if_le (q := 48) (tgt := 68) C dL_number_45 (by decide) rfl (fun c45_9 => False.elim (Int64.not_le.mpr (ap_pos (by omega)) ((lg_cmp_le _ _).mp c45_9))) (fun _ => ?_)
    refine pv_aload_n (q := 49) C dL_number_48 rfl rfl rfl ?_
    refine pv_bipush (q := 51) (v := 48) C dL_number_49 rfl (by decide) ?_
    refine pv_iload_n (q := 52) C dL_number_51 rfl rfl rfl ?_
    refine pv_bipush (q := 54) (v := 10) C dL_number_52 rfl (by decide) ?_
    refine pv_iremN (q := 55) (a := m) (b := 10) C rfl rfl (by omega) (by decide) (by decide) dL_number_54 rfl ?_
    refine pv_iaddN (q := 56) (a := 48) (b := (m % 10)) C rfl rfl dL_number_55 rfl ?_
    refine pv_callLl (q := 59) (rest := []) C Z hNC hKl (c_L_append l X D8 P8 hfl (ap1 (ap1 M 45) (nI (48 + (m / 10)))) (W + 130 + 130) hR8 (by omega) (n + 2) (by omega) (ap1_len (ap1_len (hn9))) (nI (48 + (m % 10)))) tw_768 mw_L_append ⟨rfl, rfl⟩ (by rw [hKR]; exact ⟨Nat.le_of_ble_eq_true rfl, Nat.le_of_ble_eq_true rfl⟩) (by rw [hKR]; constructor <;> (dsimp only; omega)) rfl rfl rfl (Nat.le_of_ble_eq_true rfl) dL_number_56 rfl (fun r10 D10 P10 q10 => ?_)
    obtain ⟨e10, hR10⟩ := QE.ok q10 (kApp_0 (rg_cN (by omega) (by omega)) (by omega))
    obtain rfl : r10 = ((nI (n + 2) + 1).toInt64) := e10.trans (rfl)
    rw [ap1_n (ap1_len (ap1_len (hn9))) (by omega)] at hR10
    refine pv_lconst (q := 60) (v := 0) C dL_number_59 rfl (by decide) ?_
    refine pv_lcmp (q := 61) C dL_number_60 rfl ?_
    refine pv_if_le (q := 64) (tgt := 68) C dL_number_61 (by decide) rfl (fun c61_11 => False.elim (Int64.not_le.mpr (ap_pos (by omega)) ((lg_cmp_le _ _).mp c61_11))) (fun _ => ?_)
    refine pv_iconst (q := 65) (v := 1) C dL_number_64 rfl (by decide) ?_
    refine pv_goto (tgt := 69) C dL_number_65 (by decide) ?_
    exact XK.of (pv_zret C (Or.inr rfl) ⟨rfl, by unfold numE; first | (rw [if_pos hm1]; exact RI_W hR10 (by omega)) | (rw [if_neg hm1]; exact RI_W hR10 (by omega))⟩ (by omega) (by omega) dL_number_69)
