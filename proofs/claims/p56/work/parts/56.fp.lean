/-! doubles: quotients of small whole numbers, and their bits -/
abbrev B64 : FP.Core.Fmt := FP.Core.b64
theorem b64_t : B64.tails = 2 ^ 52 := rfl
theorem b64_e : B64.exps = 2048 := rfl
theorem b64_q : B64.qmin = -1074 := by decide
theorem b64_m : B64.qmax = 971 := by decide
theorem b64_p : B64.p = 53 := rfl
/-- a normal number's parts -/
def nz (c : Nat) (q : Int) : Prop := 2 ^ 52 ≤ c ∧ c < 2 ^ 53 ∧ -1074 ≤ q ∧ q ≤ 970
def eb (c : Nat) (q : Int) : UInt64 := .ofNat (FP.Core.encode B64 (.fin false c q))
theorem enc_v {c : Nat} {q : Int} (h : nz c q) : FP.Core.encode B64 (.fin false c q) = ((q + 1074).toNat + 1) * 2 ^ 52 + (c - 2 ^ 52) := by
  obtain ⟨h1, h2, h3, h4⟩ := h
  show (if c < B64.tails then FP.Core.assemble B64 false 0 c else FP.Core.assemble B64 false ((q - B64.qmin).toNat + 1) (c - B64.tails)) = _
  rw [b64_t, if_neg (by omega)]
  unfold FP.Core.assemble
  rw [b64_t, b64_e, b64_q, Int.sub_neg]
  simp
theorem eb_v {c : Nat} {q : Int} (h : nz c q) : (eb c q).toNat = ((q + 1074).toNat + 1) * 2 ^ 52 + (c - 2 ^ 52) := by
  unfold eb
  rw [UInt64.toNat_ofNat', enc_v h]
  obtain ⟨h1, h2, h3, h4⟩ := h
  rw [Nat.mod_eq_of_lt]
  have : (q + 1074).toNat + 1 ≤ 2045 := by omega
  have : ((q + 1074).toNat + 1) * 2 ^ 52 ≤ 2045 * 2 ^ 52 := Nat.mul_le_mul_right _ this
  omega
theorem dec_eb {c : Nat} {q : Int} (h : nz c q) : FP.Core.decode B64 (eb c q).toNat = .fin false c q := by
  rw [eb_v h]
  obtain ⟨h1, h2, h3, h4⟩ := h
  have hT : FP.Core.fieldT B64 (((q + 1074).toNat + 1) * 2 ^ 52 + (c - 2 ^ 52)) = c - 2 ^ 52 := by
    unfold FP.Core.fieldT
    rw [b64_t]
    omega
  have hD : (((q + 1074).toNat + 1) * 2 ^ 52 + (c - 2 ^ 52)) / 2 ^ 52 = (q + 1074).toNat + 1 := by omega
  have hE : FP.Core.fieldE B64 (((q + 1074).toNat + 1) * 2 ^ 52 + (c - 2 ^ 52)) = (q + 1074).toNat + 1 := by
    unfold FP.Core.fieldE
    rw [b64_t, b64_e, hD]
    omega
  have hS : FP.Core.fieldS B64 (((q + 1074).toNat + 1) * 2 ^ 52 + (c - 2 ^ 52)) = false := by
    unfold FP.Core.fieldS
    rw [b64_t, b64_e, hD, Nat.div_eq_of_lt (by omega)]
    rfl
  unfold FP.Core.decode
  rw [hE, hT, hS, b64_e, b64_t, b64_q, if_neg (by omega), if_neg (by omega)]
  rw [show 2 ^ 52 + (c - 2 ^ 52) = c by omega, show (-1074 : Int) + ((((q + 1074).toNat + 1 : Nat) : Int) - 1) = q by omega]
theorem nearest_x {n den : Nat} (h : 0 < den) : FP.Core.nearest (n * den) den = n := by
  unfold FP.Core.nearest
  rw [Nat.mul_mod_left, if_pos (by omega), Nat.mul_div_cancel _ h]
/-- a whole number times a power of two, rounded: nothing is lost -/
theorem round_x {m t : Nat} {e : Int} (hm : 0 < m) (hm2 : m < 2 ^ 53) (he : -1022 ≤ (m.log2 : Int) + e) (he2 : (m.log2 : Int) + e ≤ 1000) : FP.Core.roundRatio B64 false (m * 2 ^ t) 1 (e - t) = .fin false (m * 2 ^ (52 - m.log2)) ((m.log2 : Int) + e - 52) := by
  have hl : m.log2 ≤ 52 := by
    have := (Nat.log2_lt (n := m) (k := 53) (by omega)).mpr hm2
    omega
  have hpos : 0 < m * 2 ^ t := Nat.mul_pos hm (Nat.two_pow_pos t)
  have hlM : (m * 2 ^ t).log2 = m.log2 + t := by
    rw [Nat.log2_eq_iff (by omega)]
    have a := Nat.log2_self_le (n := m) (by omega)
    have b := Nat.lt_log2_self (n := m)
    rw [Nat.pow_add, show m.log2 + t + 1 = (m.log2 + 1) + t by omega, Nat.pow_add]
    exact ⟨Nat.mul_le_mul_right _ a, Nat.mul_lt_mul_of_pos_right b (Nat.two_pow_pos t)⟩
  have hlead : FP.Core.leading (m * 2 ^ t) 1 = (m.log2 : Int) + t := by
    unfold FP.Core.leading
    have h1 : Nat.log2 1 = 0 := by decide
    rw [hlM, h1]
    have hle : 1 * 2 ^ (((m.log2 + t : Nat) : Int) - ((0 : Nat) : Int)).toNat ≤ m * 2 ^ t * 2 ^ (-(((m.log2 + t : Nat) : Int) - ((0 : Nat) : Int))).toNat := by
      rw [show (((m.log2 + t : Nat) : Int) - ((0 : Nat) : Int)).toNat = m.log2 + t by omega, show (-(((m.log2 + t : Nat) : Int) - ((0 : Nat) : Int))).toNat = 0 by omega, Nat.one_mul, Nat.pow_zero, Nat.mul_one, ← hlM]
      exact Nat.log2_self_le (by omega)
    show (if 1 * 2 ^ (((m.log2 + t : Nat) : Int) - ((0 : Nat) : Int)).toNat ≤ m * 2 ^ t * 2 ^ (-(((m.log2 + t : Nat) : Int) - ((0 : Nat) : Int))).toNat then (((m.log2 + t : Nat) : Int) - ((0 : Nat) : Int)) else _) = _
    rw [if_pos hle]
    omega
  unfold FP.Core.roundRatio
  rw [if_neg (by omega)]
  have hq : FP.Core.quantum B64 (m * 2 ^ t) 1 (e - t) = (m.log2 : Int) + e - 52 := by
    unfold FP.Core.quantum
    rw [hlead, b64_q, b64_p]
    omega
  rw [hq]
  unfold FP.Core.roundAt
  have hn : FP.Core.nearest (FP.Core.unitsNum (m * 2 ^ t) (e - t) ((m.log2 : Int) + e - 52)) (FP.Core.unitsDen 1 (e - t) ((m.log2 : Int) + e - 52)) = m * 2 ^ (52 - m.log2) := by
    unfold FP.Core.unitsNum FP.Core.unitsDen
    by_cases ht : t ≤ 52 - m.log2
    · rw [show (e - (t : Int) - ((m.log2 : Int) + e - 52)).toNat = 52 - m.log2 - t by omega, show ((m.log2 : Int) + e - 52 - (e - (t : Int))).toNat = 0 by omega, Nat.pow_zero, Nat.mul_one, Nat.mul_assoc, ← Nat.pow_add, show t + (52 - m.log2 - t) = 52 - m.log2 by omega]
      have := nearest_x (n := m * 2 ^ (52 - m.log2)) (den := 1) (by decide)
      rwa [Nat.mul_one] at this
    · rw [show (e - (t : Int) - ((m.log2 : Int) + e - 52)).toNat = 0 by omega, show ((m.log2 : Int) + e - 52 - (e - (t : Int))).toNat = t - (52 - m.log2) by omega, Nat.pow_zero, Nat.mul_one, Nat.one_mul]
      have := nearest_x (n := m * 2 ^ (52 - m.log2)) (den := 2 ^ (t - (52 - m.log2))) (Nat.two_pow_pos _)
      rwa [Nat.mul_assoc, ← Nat.pow_add, show 52 - m.log2 + (t - (52 - m.log2)) = t by omega] at this
  rw [hn]
  have hc : m * 2 ^ (52 - m.log2) < 2 ^ 53 := by
    have b := Nat.lt_log2_self (n := m)
    have := Nat.mul_lt_mul_of_pos_right b (Nat.two_pow_pos (52 - m.log2))
    rwa [← Nat.pow_add, show m.log2 + 1 + (52 - m.log2) = 53 by omega] at this
  unfold FP.Core.settle
  rw [b64_p, if_pos hc]
  unfold FP.Core.bound
  rw [b64_m, if_pos (by omega)]
theorem nz_m {m : Nat} {e : Int} (hm : 0 < m) (hm2 : m < 2 ^ 53) (he : -1022 ≤ (m.log2 : Int) + e) (he2 : (m.log2 : Int) + e ≤ 1000) : nz (m * 2 ^ (52 - m.log2)) ((m.log2 : Int) + e - 52) := by
  have hl : m.log2 ≤ 52 := by
    have := (Nat.log2_lt (n := m) (k := 53) (by omega)).mpr hm2
    omega
  refine ⟨?_, ?_, by omega, by omega⟩
  · have a := Nat.log2_self_le (n := m) (by omega)
    have := Nat.mul_le_mul_right (2 ^ (52 - m.log2)) a
    rwa [← Nat.pow_add, show m.log2 + (52 - m.log2) = 52 by omega] at this
  · have b := Nat.lt_log2_self (n := m)
    have := Nat.mul_lt_mul_of_pos_right b (Nat.two_pow_pos (52 - m.log2))
    rwa [← Nat.pow_add, show m.log2 + 1 + (52 - m.log2) = 53 by omega] at this
theorem lg31 {m : Nat} (hm : 0 < m) (h : m < 2 ^ 31) : m.log2 ≤ 30 := by
  have := (Nat.log2_lt (n := m) (k := 31) (by omega)).mpr h
  omega
theorem i2d_v {m : Nat} (hm : 0 < m) (h : m < 2 ^ 31) : FP.i2d (nI m) = eb (m * 2 ^ (52 - m.log2)) ((m.log2 : Int) - 52) := by
  have hl := lg31 hm h
  show UInt64.ofNat (FP.Core.fromInt B64 (nI m).toInt) = UInt64.ofNat _
  rw [nI_toInt h]
  unfold FP.Core.fromInt FP.Core.ofInt
  have hd : decide ((m : Int) < 0) = false := by simp
  rw [hd, Int.natAbs_natCast]
  show UInt64.ofNat (FP.Core.encode B64 (FP.Core.roundRatio B64 false m 1 0)) = _
  have := round_x (m := m) (t := 0) (e := 0) hm (by omega) (by omega) (by omega)
  rw [Nat.pow_zero, Nat.mul_one] at this
  rw [show (0 : Int) = 0 - ((0 : Nat) : Int) by rfl, this]
  congr 3
theorem i2d_0 : FP.i2d (nI 0) = 0 := by decide +kernel
theorem nz_i {m : Nat} (hm : 0 < m) (h : m < 2 ^ 31) : nz (m * 2 ^ (52 - m.log2)) ((m.log2 : Int) - 52) := by
  have hl := lg31 hm h
  have := nz_m (m := m) (e := 0) hm (by omega) (by omega) (by omega)
  rwa [Int.add_zero] at this
/-- an exact product -/
theorem dmul_x {a c m t : Nat} {r q e : Int} {x : UInt64} (hx : FP.Core.decode B64 x.toNat = .fin false a r) (h : nz c q) (hp : c * a = m * 2 ^ t) (he : q + r = e - t) (hm : 0 < m) (hm2 : m < 2 ^ 53) (he1 : -1022 ≤ (m.log2 : Int) + e) (he2 : (m.log2 : Int) + e ≤ 1000) : FP.dmul (eb c q) x = eb (m * 2 ^ (52 - m.log2)) ((m.log2 : Int) + e - 52) := by
  show UInt64.ofNat (FP.Core.mul B64 (eb c q).toNat x.toNat) = UInt64.ofNat _
  unfold FP.Core.mul
  rw [dec_eb h, hx]
  show UInt64.ofNat (FP.Core.encode B64 (FP.Core.roundRatio B64 (false != false) (c * a) 1 (q + r))) = _
  rw [hp, he]
  exact congrArg (fun d => UInt64.ofNat (FP.Core.encode B64 d)) (round_x hm hm2 he1 he2)
theorem mul3 {d : Nat} (hd : 0 < d) (h : d < 2 ^ 29) : FP.dmul 0x4008000000000000 (FP.i2d (nI d)) = FP.i2d (nI (3 * d)) := by
  have hl := lg31 hd (by omega)
  have h3 : FP.Core.decode B64 (0x4008000000000000 : UInt64).toNat = .fin false (3 * 2 ^ 51) (-51) := by decide +kernel
  have hl3 := lg31 (m := 3 * d) (by omega) (by omega)
  rw [i2d_v hd (by omega), i2d_v (m := 3 * d) (by omega) (by omega)]
  show UInt64.ofNat (FP.Core.mul B64 _ (eb _ _).toNat) = UInt64.ofNat _
  unfold FP.Core.mul
  rw [h3, dec_eb (nz_i hd (by omega))]
  show UInt64.ofNat (FP.Core.encode B64 (FP.Core.roundRatio B64 (false != false) (3 * 2 ^ 51 * (d * 2 ^ (52 - d.log2))) 1 (-51 + ((d.log2 : Int) - 52)))) = _
  have e1 : 3 * 2 ^ 51 * (d * 2 ^ (52 - d.log2)) = 3 * d * 2 ^ (103 - d.log2) := by
    rw [show 103 - d.log2 = 51 + (52 - d.log2) by omega, Nat.pow_add]
    generalize 2 ^ (52 - d.log2) = z
    generalize (2 ^ 51 : Nat) = y
    rw [Nat.mul_assoc 3 y, Nat.mul_assoc 3 d, ← Nat.mul_assoc y d z, Nat.mul_comm y d, Nat.mul_assoc d y z]
  rw [e1, show (-51 + ((d.log2 : Int) - 52)) = 0 - ((103 - d.log2 : Nat) : Int) by omega]
  have := round_x (m := 3 * d) (t := 103 - d.log2) (e := 0) (by omega) (by omega) (by omega) (by omega)
  refine (congrArg (fun z => UInt64.ofNat (FP.Core.encode B64 z)) this).trans ?_
  rw [Int.add_zero]
theorem vf_eb {c : Nat} {q : Int} (h : nz c q) : vf_n64 (eb c q) := by
  unfold vf_n64
  rw [UInt64.le_iff_toNat_le, UInt64.toNat_and, eb_v h]
  obtain ⟨h1, h2, h3, h4⟩ := h
  have e : (0x7fffffffffffffff : UInt64).toNat = 2 ^ 63 - 1 := by decide
  rw [e, Nat.and_two_pow_sub_one_eq_mod]
  have e2 : (0x7ff0000000000000 : UInt64).toNat = 2047 * 2 ^ 52 := by decide
  rw [e2]
  have : (q + 1074).toNat + 1 ≤ 2045 := by omega
  have : ((q + 1074).toNat + 1) * 2 ^ 52 ≤ 2045 * 2 ^ 52 := Nat.mul_le_mul_right _ this
  have h5 : c - 2 ^ 52 < 2 ^ 52 := by omega
  rw [Nat.mod_eq_of_lt (Nat.lt_of_le_of_lt (Nat.add_le_add this (Nat.le_of_lt h5)) (by decide))]
  exact Nat.le_trans (Nat.add_le_add this (Nat.le_of_lt h5)) (by decide)
theorem vf_0 : vf_n64 0 := by unfold vf_n64; decide
/-- what a share's quotient is: from 2^-85 on, 1 at most -/
def shz (c : Nat) (q : Int) : Prop := nz c q ∧ -90 ≤ q ∧ (q ≤ -53 ∨ (q = -52 ∧ c = 2 ^ 52))
theorem near_b {num den n : Nat} (hd : 0 < den) (h1 : n * den ≤ num) (h2 : num < 2 * n * den) (hn : 0 < n) : n ≤ FP.Core.nearest num den ∧ FP.Core.nearest num den ≤ 2 * n := by
  have a : n ≤ num / den := (Nat.le_div_iff_mul_le hd).mpr h1
  have b : num / den < 2 * n := (Nat.div_lt_iff_lt_mul hd).mpr h2
  unfold FP.Core.nearest
  split
  · omega
  · split
    · omega
    · omega
theorem settle_b {r : Nat} {q : Int} (h1 : 2 ^ 52 ≤ r) (h2 : r ≤ 2 * 2 ^ 52) (hq : q ≤ 0) : ∃ c q2, FP.Core.settle B64 false r q = .fin false c q2 ∧ 2 ^ 52 ≤ c ∧ c < 2 ^ 53 ∧ (q2 = q ∨ (q2 = q + 1 ∧ c = 2 ^ 52)) := by
  unfold FP.Core.settle FP.Core.bound
  rw [b64_p, b64_t, b64_m]
  by_cases e : r < 2 ^ 53
  · rw [if_pos e, if_pos (by omega)]
    exact ⟨r, q, rfl, h1, e, Or.inl rfl⟩
  · rw [if_neg e, if_pos (by omega)]
    exact ⟨2 ^ 52, q + 1, rfl, by omega, by omega, Or.inr ⟨rfl, rfl⟩⟩
theorem lg_mono {a b : Nat} (ha : 0 < a) (h : a ≤ b) : a.log2 ≤ b.log2 := (Nat.le_log2 (by omega)).mpr (Nat.le_trans (Nat.log2_self_le (by omega)) h)
theorem ddiv_v {a b : Nat} (ha : 0 < a) (hab : a ≤ b) (hb : b < 2 ^ 31) : ∃ c q, FP.ddiv (FP.i2d (nI a)) (FP.i2d (nI b)) = eb c q ∧ shz c q := by
  have hla := lg31 ha (by omega)
  have hlb := lg31 (m := b) (by omega) hb
  have hlab := lg_mono ha hab
  have na := nz_i ha (by omega)
  have nb := nz_i (m := b) (by omega) hb
  rw [i2d_v ha (by omega), i2d_v (m := b) (by omega) hb]
  have key : ∀ c1 c2 : Nat, nz c1 ((a.log2 : Int) - 52) → nz c2 ((b.log2 : Int) - 52) → (a.log2 = b.log2 → c1 ≤ c2) → ∃ c q, FP.ddiv (eb c1 ((a.log2 : Int) - 52)) (eb c2 ((b.log2 : Int) - 52)) = eb c q ∧ shz c q := by
    intro c1 c2 n1 n2 hcc
    obtain ⟨x1, x2, -, -⟩ := n1
    obtain ⟨y1, y2, -, -⟩ := n2
    have l1 : c1.log2 = 52 := (Nat.log2_eq_iff (by omega)).mpr ⟨x1, x2⟩
    have l2 : c2.log2 = 52 := (Nat.log2_eq_iff (by omega)).mpr ⟨y1, y2⟩
    have hE : ∀ d, FP.Core.quotient B64 (.fin false c1 ((a.log2 : Int) - 52)) (.fin false c2 ((b.log2 : Int) - 52)) = d → FP.ddiv (eb c1 ((a.log2 : Int) - 52)) (eb c2 ((b.log2 : Int) - 52)) = UInt64.ofNat (FP.Core.encode B64 d) := by
      intro d hd
      show UInt64.ofNat (FP.Core.div B64 (eb c1 _).toNat (eb c2 _).toNat) = _
      unfold FP.Core.div
      rw [dec_eb ⟨x1, x2, by omega, by omega⟩, dec_eb ⟨y1, y2, by omega, by omega⟩, hd]
    have hQ : FP.Core.quotient B64 (.fin false c1 ((a.log2 : Int) - 52)) (.fin false c2 ((b.log2 : Int) - 52)) = FP.Core.roundRatio B64 false c1 c2 (((a.log2 : Int) - 52) - ((b.log2 : Int) - 52)) := by
      show (if c2 = 0 then _ else FP.Core.roundRatio B64 (false != false) c1 c2 (((a.log2 : Int) - 52) - ((b.log2 : Int) - 52))) = _
      rw [if_neg (by omega)]
      rfl
    have hR : ∀ q : Int, FP.Core.quantum B64 c1 c2 (((a.log2 : Int) - 52) - ((b.log2 : Int) - 52)) = q → FP.Core.roundRatio B64 false c1 c2 (((a.log2 : Int) - 52) - ((b.log2 : Int) - 52)) = FP.Core.settle B64 false (FP.Core.nearest (c1 * 2 ^ ((((a.log2 : Int) - 52) - ((b.log2 : Int) - 52)) - q).toNat) (c2 * 2 ^ (q - (((a.log2 : Int) - 52) - ((b.log2 : Int) - 52))).toNat)) q := by
      intro q hq
      unfold FP.Core.roundRatio
      rw [if_neg (by omega), hq]
      rfl
    have hlead : FP.Core.leading c1 c2 = if c2 ≤ c1 then 0 else -1 := by
      unfold FP.Core.leading
      rw [l1, l2]
      show (if c2 * 2 ^ (((52 : Nat) : Int) - ((52 : Nat) : Int)).toNat ≤ c1 * 2 ^ (-(((52 : Nat) : Int) - ((52 : Nat) : Int))).toNat then (((52 : Nat) : Int) - ((52 : Nat) : Int)) else (((52 : Nat) : Int) - ((52 : Nat) : Int)) - 1) = _
      rw [show (((52 : Nat) : Int) - ((52 : Nat) : Int)) = 0 by omega, show ((0 : Int)).toNat = 0 by rfl, show (-(0 : Int)).toNat = 0 by rfl, Nat.pow_zero, Nat.mul_one, Nat.mul_one]
      rfl
    by_cases hk : c2 ≤ c1
    · rw [if_pos hk] at hlead
      have hq : FP.Core.quantum B64 c1 c2 (((a.log2 : Int) - 52) - ((b.log2 : Int) - 52)) = (a.log2 : Int) - b.log2 - 52 := by
        unfold FP.Core.quantum
        rw [hlead, b64_q, b64_p]
        omega
      have hr := hR _ hq
      rw [show ((((a.log2 : Int) - 52) - ((b.log2 : Int) - 52)) - ((a.log2 : Int) - b.log2 - 52)).toNat = 52 by omega, show (((a.log2 : Int) - b.log2 - 52) - (((a.log2 : Int) - 52) - ((b.log2 : Int) - 52))).toNat = 0 by omega, Nat.pow_zero, Nat.mul_one] at hr
      by_cases heq : a.log2 = b.log2
      · have hcc2 : c1 = c2 := by have := hcc heq; omega
        subst hcc2
        have hx := nearest_x (n := 2 ^ 52) (den := c1) (by omega)
        rw [Nat.mul_comm] at hx
        rw [hx] at hr
        refine ⟨2 ^ 52, -52, ?_, ⟨by omega, by omega, by omega, by omega⟩, by omega, Or.inr ⟨rfl, rfl⟩⟩
        refine (hE _ (hQ.trans hr)).trans ?_
        rw [show ((a.log2 : Int) - b.log2 - 52) = -52 by omega]
        rfl
      · obtain ⟨z1, z2⟩ := near_b (num := c1 * 2 ^ 52) (den := c2) (n := 2 ^ 52) (by omega) (by rw [Nat.mul_comm]; exact Nat.mul_le_mul_right _ hk) (by
          have : c1 < 2 * c2 := by omega
          have := Nat.mul_lt_mul_of_pos_right this (Nat.two_pow_pos 52)
          rw [show 2 * 2 ^ 52 * c2 = 2 * c2 * 2 ^ 52 by rw [Nat.mul_assoc, Nat.mul_comm (2 ^ 52) c2, ← Nat.mul_assoc]]
          exact this) (by decide)
        obtain ⟨c, q2, s1, s2, s3, s4⟩ := settle_b (q := (a.log2 : Int) - b.log2 - 52) z1 z2 (by omega)
        refine ⟨c, q2, hE _ (hQ.trans (hr.trans s1)), ⟨s2, s3, by omega, by omega⟩, by omega, ?_⟩
        rcases s4 with e | ⟨e, ec⟩
        · left; omega
        · by_cases e2 : q2 = -52
          · exact Or.inr ⟨e2, ec⟩
          · left; omega
    · rw [if_neg hk] at hlead
      have hq : FP.Core.quantum B64 c1 c2 (((a.log2 : Int) - 52) - ((b.log2 : Int) - 52)) = (a.log2 : Int) - b.log2 - 53 := by
        unfold FP.Core.quantum
        rw [hlead, b64_q, b64_p]
        omega
      have hr := hR _ hq
      rw [show ((((a.log2 : Int) - 52) - ((b.log2 : Int) - 52)) - ((a.log2 : Int) - b.log2 - 53)).toNat = 53 by omega, show (((a.log2 : Int) - b.log2 - 53) - (((a.log2 : Int) - 52) - ((b.log2 : Int) - 52))).toNat = 0 by omega, Nat.pow_zero, Nat.mul_one] at hr
      obtain ⟨z1, z2⟩ := near_b (num := c1 * 2 ^ 53) (den := c2) (n := 2 ^ 52) (by omega) (by
          have : c2 ≤ c1 * 2 := by omega
          have := Nat.mul_le_mul_right (2 ^ 52) this
          rw [Nat.mul_comm (2 ^ 52) c2, show (2 ^ 53 : Nat) = 2 * 2 ^ 52 by decide, ← Nat.mul_assoc]
          exact this) (by
          have : c1 < c2 := by omega
          have := Nat.mul_lt_mul_of_pos_right this (Nat.two_pow_pos 53)
          rw [show 2 * 2 ^ 52 * c2 = c2 * 2 ^ 53 by rw [Nat.mul_comm c2, show (2 ^ 53 : Nat) = 2 * 2 ^ 52 by decide]]
          exact this) (by decide)
      obtain ⟨c, q2, s1, s2, s3, s4⟩ := settle_b (q := (a.log2 : Int) - b.log2 - 53) z1 z2 (by omega)
      refine ⟨c, q2, hE _ (hQ.trans (hr.trans s1)), ⟨s2, s3, by omega, by omega⟩, by omega, ?_⟩
      rcases s4 with e | ⟨e, ec⟩
      · left; omega
      · by_cases e2 : q2 = -52
        · exact Or.inr ⟨e2, ec⟩
        · left; omega
  refine key _ _ na nb (fun e => ?_)
  rw [e]
  exact Nat.mul_le_mul_right _ hab
theorem ddiv_0 {b : Nat} (hb0 : 0 < b) (hb : b < 2 ^ 31) : FP.ddiv (FP.i2d (nI 0)) (FP.i2d (nI b)) = 0 := by
  have hlb := lg31 hb0 hb
  have nb := nz_i hb0 hb
  rw [i2d_0, i2d_v hb0 hb]
  show UInt64.ofNat (FP.Core.div B64 (0 : UInt64).toNat (eb _ _).toNat) = 0
  unfold FP.Core.div
  rw [dec_eb nb, show FP.Core.decode B64 (0 : UInt64).toNat = .fin false 0 (-1074) by decide +kernel]
  show UInt64.ofNat (FP.Core.encode B64 (if b * 2 ^ (52 - b.log2) = 0 then _ else FP.Core.roundRatio B64 (false != false) 0 _ _)) = 0
  rw [if_neg (by have := nb.1; omega)]
  unfold FP.Core.roundRatio
  rw [if_pos rfl, b64_q]
  decide +kernel
/-- twice -/
theorem dbl_v {c : Nat} {q : Int} (h : nz c q) (hq : -1000 ≤ q ∧ q ≤ 0) : FP.dmul (eb c q) 0x4000000000000000 = eb c (q + 1) := by
  have h2 : FP.Core.decode B64 (0x4000000000000000 : UInt64).toNat = .fin false (2 ^ 52) (-51) := by decide +kernel
  have lc : c.log2 = 52 := (Nat.log2_eq_iff (by have := h.1; omega)).mpr ⟨h.1, h.2.1⟩
  have := dmul_x (m := c) (t := 52) (e := q + 1) h2 h rfl (by omega) (by have := h.1; omega) h.2.1 (by omega) (by omega)
  rw [lc, show 52 - 52 = 0 by rfl, Nat.pow_zero, Nat.mul_one, show ((52 : Nat) : Int) + (q + 1) - 52 = q + 1 by omega] at this
  exact this
theorem dec_1 : FP.Core.decode B64 (0x3ff0000000000000 : UInt64).toNat = .fin false (2 ^ 52) (-52) := by decide +kernel
theorem cmp1_lt {c : Nat} {q : Int} (h : nz c q) (hq : q ≤ -53) : FP.dcmp (eb c q) 0x3ff0000000000000 = some .lt := by
  show FP.Core.order (FP.Core.decode B64 (eb c q).toNat) (FP.Core.decode B64 (0x3ff0000000000000 : UInt64).toNat) = _
  rw [dec_eb h, dec_1]
  show some (compare (FP.Core.signed false (FP.Core.inUnits c q (min q (-52)))) (FP.Core.signed false (FP.Core.inUnits (2 ^ 52) (-52) (min q (-52))))) = _
  rw [show min q (-52) = q by omega]
  unfold FP.Core.signed FP.Core.inUnits
  rw [if_neg (by decide), if_neg (by decide), show (q - q).toNat = 0 by omega, Nat.pow_zero, Nat.mul_one]
  have : c < 2 ^ 52 * 2 ^ (-52 - q).toNat := by
    have a := h.2.1
    have : 2 ^ 1 ≤ 2 ^ (-52 - q).toNat := Nat.pow_le_pow_right (by decide) (by omega)
    have := Nat.mul_le_mul_left (2 ^ 52) this
    omega
  congr 1
  rw [Int.compare_eq_lt]
  omega
theorem cmp1_ge {c : Nat} (h : nz c (-52)) : FP.dcmp (eb c (-52)) 0x3ff0000000000000 = some .eq ∨ FP.dcmp (eb c (-52)) 0x3ff0000000000000 = some .gt := by
  have : FP.dcmp (eb c (-52)) 0x3ff0000000000000 = some (compare (c : Int) (2 ^ 52)) := by
    show FP.Core.order (FP.Core.decode B64 (eb c (-52)).toNat) (FP.Core.decode B64 (0x3ff0000000000000 : UInt64).toNat) = _
    rw [dec_eb h, dec_1]
    show some (compare (FP.Core.signed false (FP.Core.inUnits c (-52) (min (-52) (-52)))) (FP.Core.signed false (FP.Core.inUnits (2 ^ 52) (-52) (min (-52) (-52))))) = _
    unfold FP.Core.signed FP.Core.inUnits
    rw [if_neg (by decide), if_neg (by decide), show ((-52 : Int) - min (-52) (-52)).toNat = 0 by decide, Nat.pow_zero, Nat.mul_one, Nat.mul_one]
    rfl
  rw [this]
  rcases Int.lt_or_le (2 ^ 52 : Int) (c : Int) with e | e
  · right; exact congrArg some (Int.compare_eq_gt.mpr e)
  · left
    have := h.1
    have e2 : (c : Int) = 2 ^ 52 := by omega
    rw [e2]
    exact congrArg some (by decide)
theorem cmp0_gt {c : Nat} {q : Int} (h : nz c q) : FP.dcmp (eb c q) 0 = some .gt := by
  show FP.Core.order (FP.Core.decode B64 (eb c q).toNat) (FP.Core.decode B64 (0 : UInt64).toNat) = _
  rw [dec_eb h, show FP.Core.decode B64 (0 : UInt64).toNat = .fin false 0 (-1074) by decide +kernel]
  show some (compare (FP.Core.signed false (FP.Core.inUnits c q (min q (-1074)))) (FP.Core.signed false (FP.Core.inUnits 0 (-1074) (min q (-1074))))) = _
  unfold FP.Core.signed FP.Core.inUnits
  rw [if_neg (by decide), if_neg (by decide), Nat.zero_mul]
  congr 1
  rw [Int.compare_eq_gt]
  have : 0 < c * 2 ^ (q - min q (-1074)).toNat := Nat.mul_pos (by have := h.1; omega) (Nat.two_pow_pos _)
  omega
/-- the fraction's bits -/
theorem frac_v {c : Nat} (h : nz c (-52)) : FP.d2l (FP.dmul (FP.dsub (eb c (-52)) 0x3ff0000000000000) 0x4330000000000000) = lN (c - 2 ^ 52) ∧ vf_n64 (FP.dsub (eb c (-52)) 0x3ff0000000000000) ∧ vf_n64 (FP.dmul (FP.dsub (eb c (-52)) 0x3ff0000000000000) 0x4330000000000000) := by
  have hs : FP.dsub (eb c (-52)) 0x3ff0000000000000 = UInt64.ofNat (FP.Core.encode B64 (FP.Core.round B64 (.fin (FP.Core.sumSign false true ((c : Int) - 2 ^ 52)) ((c : Int) - 2 ^ 52).natAbs (-52)))) := by
    show UInt64.ofNat (FP.Core.sub B64 (eb c (-52)).toNat (0x3ff0000000000000 : UInt64).toNat) = _
    unfold FP.Core.sub
    rw [dec_eb h, dec_1]
    show UInt64.ofNat (FP.Core.encode B64 (FP.Core.round B64 (.fin (FP.Core.sumSign false true (FP.Core.sumUnits false c (-52) true (2 ^ 52) (-52) (min (-52) (-52)))) (FP.Core.sumUnits false c (-52) true (2 ^ 52) (-52) (min (-52) (-52))).natAbs (min (-52) (-52))))) = _
    have : FP.Core.sumUnits false c (-52) true (2 ^ 52) (-52) (min (-52) (-52)) = (c : Int) - 2 ^ 52 := by
      unfold FP.Core.sumUnits FP.Core.signed FP.Core.inUnits
      rw [show ((-52 : Int) - min (-52) (-52)).toNat = 0 by decide, Nat.pow_zero, Nat.mul_one, Nat.mul_one, if_neg (by decide), if_pos rfl]
      omega
    rw [this]
    rfl
  have hc := h.1
  have hc2 := h.2.1
  by_cases e : c = 2 ^ 52
  · subst e
    have h0 : FP.dsub (eb (2 ^ 52) (-52)) 0x3ff0000000000000 = 0 := by rw [hs]; decide +kernel
    rw [h0]
    have h1 : FP.dmul 0 0x4330000000000000 = 0 := by decide +kernel
    rw [h1]
    exact ⟨by decide +kernel, vf_0, vf_0⟩
  · obtain ⟨f, hf0, hf1, hcf⟩ : ∃ f, 0 < f ∧ f < 2 ^ 52 ∧ c = 2 ^ 52 + f := ⟨c - 2 ^ 52, by omega, by omega, by omega⟩
    subst hcf
    have hl : f.log2 ≤ 51 := by
      have := (Nat.log2_lt (n := f) (k := 52) (by omega)).mpr hf1
      omega
    have hv : (((2 ^ 52 + f : Nat) : Int) - 2 ^ 52) = (f : Int) := by omega
    have hd : FP.dsub (eb (2 ^ 52 + f) (-52)) 0x3ff0000000000000 = eb (f * 2 ^ (52 - f.log2)) ((f.log2 : Int) + (-52) - 52) := by
      rw [hs, hv]
      have hsg : FP.Core.sumSign false true (f : Int) = false := by
        unfold FP.Core.sumSign
        rw [if_neg (by omega)]
        simp
      rw [hsg, Int.natAbs_natCast]
      have := round_x (m := f) (t := 0) (e := -52) hf0 (by omega) (by omega) (by omega)
      rw [Nat.pow_zero, Nat.mul_one] at this
      exact congrArg (fun z => UInt64.ofNat (FP.Core.encode B64 z)) this
    have hn := nz_m (m := f) (e := -52) hf0 (by omega) (by omega) (by omega)
    have h52 : FP.Core.decode B64 (0x4330000000000000 : UInt64).toNat = .fin false (2 ^ 52) 0 := by decide +kernel
    have hm : FP.dmul (FP.dsub (eb (2 ^ 52 + f) (-52)) 0x3ff0000000000000) 0x4330000000000000 = eb (f * 2 ^ (52 - f.log2)) ((f.log2 : Int) - 52) := by
      rw [hd]
      have := dmul_x (m := f) (t := 104 - f.log2) (e := 0) h52 hn (by rw [Nat.mul_assoc, ← Nat.pow_add, show 52 - f.log2 + 52 = 104 - f.log2 by omega]) (by omega) hf0 (by omega) (by omega) (by omega)
      rw [Int.add_zero] at this
      exact this
    have hn2 := nz_m (m := f) (e := 0) hf0 (by omega) (by omega) (by omega)
    rw [Int.add_zero] at hn2
    refine ⟨?_, by rw [hd]; exact vf_eb hn, by rw [hm]; exact vf_eb hn2⟩
    rw [hm]
    show FP.Core.toL (FP.Core.decode B64 (eb _ _).toNat) = _
    rw [dec_eb hn2]
    show Int64.ofInt (max (-2 ^ 63) (min (2 ^ 63 - 1) (FP.Core.truncate false (f * 2 ^ (52 - f.log2)) ((f.log2 : Int) - 52)))) = _
    have ht : FP.Core.truncate false (f * 2 ^ (52 - f.log2)) ((f.log2 : Int) - 52) = (f : Int) := by
      unfold FP.Core.truncate FP.Core.signed
      rw [if_neg (by decide), show ((f.log2 : Int) - 52).toNat = 0 by omega, show (-((f.log2 : Int) - 52)).toNat = 52 - f.log2 by omega, Nat.pow_zero, Nat.mul_one, Nat.mul_div_cancel _ (Nat.two_pow_pos _)]
    rw [ht, show max (-2 ^ 63) (min (2 ^ 63 - 1) (f : Int)) = (f : Int) by omega, Nat.add_sub_cancel_left]
    rfl
