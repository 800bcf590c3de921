set_option maxRecDepth 100000 in
set_option maxHeartbeats 4000000 in
theorem c_X3_letHappen105 (l : Launch) (X : XT) (D : DT) (P : PT) (B W : Nat) (hk : kd B = 3) (row : Nat → Int32) (h : SB D B row W) (hW : W + 4 < 2 ^ 29) (hk3 : D 2 3 = 105) (p : Nat) (hnum : D 2 4 = nI p) (hp : p < 16) (g x : Int32) (hgr : rg g 0 3) (hg5 : D 2 5 = g) (hx6 : D 2 6 = x) (hxr : rg x (-99) 99) : CG l X yX3_letHappen (.code yX3_letHappen cX3_letHappen 3 (some .boolean) :: AW) ({ frames := 5, cells := 0, slots := 0, locals := 180 } : Room) [.ref (X.2.2 B), .ref (X.2.2 2)] (qI X (fun r D' P' => ((canP row (105, p, g, x) = true ∧ r = 1 ∧ (∀ i, (i < B ∨ B + 39 ≤ i) → D' i = D i) ∧ SB D' B (goP row (105, p, g, x)) (W + 2)) ∨ (canP row (105, p, g, x) = false ∧ r = 0 ∧ D' = D)) ∧ P = P')) D P 0 0 := by
  refine cg_of (by decide +kernel) (Nat.le_of_ble_eq_true rfl) ?_
  intro K hKl hKR C
  refine PV_lv (lv' := [some (.ref (X.2.2 B)), some (.ref (X.2.2 2)), none]) rfl ?_
  have hfl := h.fl
  have hdl := h.dl (m := 2) (by omega)
  obtain ⟨G, A, wr, nx, hw, hR, hT, hI, hAM⟩ := id h
  have hnx := TI_nx hR hI
  have hrow : (∀ q, q < 16 → nI p = nI q → D (B + 1 + 1) q = -1) ↔ row p = 0 := by
    have e := (hT p hp).1
    constructor
    · intro z
      have z2 := z p hp rfl
      rw [e] at z2
      have : row p = row p - 1 + 1 := (Int32.sub_add_cancel _ _).symm
      rw [this, z2]; rfl
    · intro z q hq eq
      have := nI_inj (by omega) (by omega) eq
      subst this
      rw [e, z]; rfl
  obtain ⟨j, hj, ej⟩ := rg4 hgr
  refine pv_aload_n (q := 1) C dX3_letHappen_0 rfl rfl rfl ?_ 
  refine pg_2_3 (q := 4) C k2 tw_174 dX3_letHappen_1 rfl ?_ 
  rw [hk3]
  refine pv_bipush (q := 6) (v := 116) C dX3_letHappen_4 rfl (by decide) ?_ 
  refine pv_icmp_ne (q := 9) (tgt := 20) C dX3_letHappen_6 (by decide) rfl (fun _ => ?_) (fun h => absurd h (by decide)) 
  refine pv_aload_n (q := 21) C dX3_letHappen_20 rfl rfl rfl ?_ 
  refine pg_2_3 (q := 24) C k2 tw_174 dX3_letHappen_21 rfl ?_ 
  rw [hk3]
  refine pv_bipush (q := 26) (v := 122) C dX3_letHappen_24 rfl (by decide) ?_ 
  refine pv_icmp_eq (q := 29) (tgt := 47) C dX3_letHappen_26 (by decide) rfl (fun h => absurd h (by decide)) (fun _ => ?_) 
  refine pv_aload_n (q := 30) C dX3_letHappen_29 rfl rfl rfl ?_ 
  refine pg_2_3 (q := 33) C k2 tw_174 dX3_letHappen_30 rfl ?_ 
  rw [hk3]
  refine pv_bipush (q := 35) (v := 119) C dX3_letHappen_33 rfl (by decide) ?_ 
  refine pv_icmp_eq (q := 38) (tgt := 47) C dX3_letHappen_35 (by decide) rfl (fun h => absurd h (by decide)) (fun _ => ?_) 
  refine pv_aload_n (q := 39) C dX3_letHappen_38 rfl rfl rfl ?_ 
  refine pg_2_3 (q := 42) C k2 tw_174 dX3_letHappen_39 rfl ?_ 
  rw [hk3]
  refine pv_bipush (q := 44) (v := 114) C dX3_letHappen_42 rfl (by decide) ?_ 
  refine pv_icmp_ne (q := 47) (tgt := 53) C dX3_letHappen_44 (by decide) rfl (fun _ => ?_) (fun h => absurd h (by decide)) 
  refine pv_aload_n (q := 54) C dX3_letHappen_53 rfl rfl rfl ?_ 
  refine pg_2_4 (q := 57) C k2 tw_176 dX3_letHappen_54 rfl ?_ 
  rw [hnum]
  refine pv_istore_n (q := 58) C dX3_letHappen_57 rfl rfl (Nat.le_of_ble_eq_true rfl) rfl ?_ 
  refine pv_iload_n (q := 59) C dX3_letHappen_58 rfl rfl rfl ?_ 
  refine pv_if_ltN (q := 62) (tgt := 93) (a := p) (b := 0) C rfl rfl (by omega) (by omega) dX3_letHappen_59 (by decide) rfl (fun c_59 => absurd c_59 (by omega)) (fun c_59 => ?_) 
  refine pv_iload_n (q := 63) C dX3_letHappen_62 rfl rfl rfl ?_ 
  refine pv_bipush (q := 65) (v := 16) C dX3_letHappen_63 rfl (by decide) ?_ 
  refine pv_icmp_geN (q := 68) (tgt := 93) (a := p) (b := 16) C rfl rfl (by omega) (by omega) dX3_letHappen_65 (by decide) rfl (fun c_65 => absurd c_65 (by omega)) (fun c_65 => ?_) 
  refine pv_aload_n (q := 69) C dX3_letHappen_68 rfl rfl rfl ?_ 
  refine pg_3_0 (q := 72) C hk tw_128 dX3_letHappen_69 rfl (fun k69 => ?_) 
  refine pv_iload_n (q := 73) C dX3_letHappen_72 rfl rfl rfl ?_ 
  refine pv_callVi (q := 76) C hKl (c_X4_freeAt l X D P (B + 1) k69 _) tw_1019 k69 (by decide) rfl mm_X4_freeAt ⟨rfl, rfl⟩ (by rw [hKR]; exact ⟨Nat.le_of_ble_eq_true rfl, Nat.le_of_ble_eq_true rfl⟩) (by rw [hKR]; exact ⟨Nat.le_of_ble_eq_true rfl, Nat.le_of_ble_eq_true rfl⟩) rfl rfl rfl (Nat.le_of_ble_eq_true rfl) dX3_letHappen_73 rfl (fun r73 D73 P73 hp73 => ?_) 
  rcases hp73 with ⟨⟨⟨q0, hq0, eq0, hne⟩, rfl⟩ | ⟨hfr, rfl⟩, rfl, rfl⟩
  · have hocc : ¬ row p = 0 := fun z => by
      have := nI_inj (by omega) (by omega) eq0
      subst this
      exact hne (hrow.mpr z p hp rfl)
    refine pv_aload_n (q := 77) C dX3_letHappen_76 rfl rfl rfl ?_ 
    refine pg_2_3 (q := 80) C k2 tw_174 dX3_letHappen_77 rfl ?_ 
    rw [hk3]
    refine pv_bipush (q := 82) (v := 105) C dX3_letHappen_80 rfl (by decide) ?_ 
    refine pv_icmp_ne (q := 85) (tgt := 89) C dX3_letHappen_82 (by decide) rfl (fun h => absurd h (by decide)) (fun _ => ?_) 
    refine pv_iconst (q := 86) (v := 1) C dX3_letHappen_85 rfl (by decide) ?_ 
    refine pv_goto (tgt := 90) C dX3_letHappen_86 (by decide) ?_ 
    refine pv_icmp_eq (q := 93) (tgt := 95) C dX3_letHappen_90 (by decide) rfl (fun h => absurd h (by decide)) (fun _ => ?_) 
    refine pv_iconst (q := 94) (v := 0) C dX3_letHappen_93 rfl (by decide) ?_ 
    exact pv_zret C (Or.inl rfl) (⟨Or.inr ⟨(by unfold canP; rw [if_pos rfl]; exact decide_eq_false hocc), rfl, rfl⟩, rfl⟩) (by decide) (by decide) dX3_letHappen_94
  · have hfree : row p = 0 := hrow.mp hfr
    refine pv_aload_n (q := 77) C dX3_letHappen_76 rfl rfl rfl ?_ 
    refine pg_2_3 (q := 80) C k2 tw_174 dX3_letHappen_77 rfl ?_ 
    rw [hk3]
    refine pv_bipush (q := 82) (v := 105) C dX3_letHappen_80 rfl (by decide) ?_ 
    refine pv_icmp_ne (q := 85) (tgt := 89) C dX3_letHappen_82 (by decide) rfl (fun h => absurd h (by decide)) (fun _ => ?_) 
    refine pv_iconst (q := 86) (v := 1) C dX3_letHappen_85 rfl (by decide) ?_ 
    refine pv_goto (tgt := 90) C dX3_letHappen_86 (by decide) ?_ 
    refine pv_icmp_eq (q := 93) (tgt := 95) C dX3_letHappen_90 (by decide) rfl (fun _ => ?_) (fun h => absurd h (by decide)) 
    refine pv_aload_n (q := 96) C dX3_letHappen_95 rfl rfl rfl ?_ 
    refine pg_2_3 (q := 99) C k2 tw_174 dX3_letHappen_96 rfl ?_ 
    rw [hk3]
    refine pv_lookup (tgt := 132) (off := 33) C dX3_letHappen_99 (by decide) (by decide) (by decide) ?_ 
    refine pv_aload_n (q := 133) C dX3_letHappen_132 rfl rfl rfl ?_ 
    refine pv_iload_n (q := 134) C dX3_letHappen_133 rfl rfl rfl ?_ 
    refine pv_aload_n (q := 135) C dX3_letHappen_134 rfl rfl rfl ?_ 
    refine pg_2_5 (q := 138) C k2 tw_178 dX3_letHappen_135 rfl ?_ 
    rw [show D 2 5 = nI j from hg5.trans ej]
    refine pv_aload_n (q := 139) C dX3_letHappen_138 rfl rfl rfl ?_ 
    refine pg_2_6 (q := 142) C k2 tw_180 dX3_letHappen_139 rfl ?_ 
    rw [hx6]
    refine pv_callVv (q := 145) C hKl (c_X3_addRow l X D P B hk row G A wr nx hR hT hnx (by omega) p hp j hj x hfree) tw_1020 hk (by decide) rfl mm_X3_addRow ⟨rfl, rfl⟩ (by rw [hKR]; exact ⟨Nat.le_of_ble_eq_true rfl, Nat.le_of_ble_eq_true rfl⟩) (by rw [hKR]; exact ⟨Nat.le_of_ble_eq_true rfl, Nat.le_of_ble_eq_true rfl⟩) rfl rfl rfl (Nat.le_of_ble_eq_true rfl) dX3_letHappen_142 rfl (fun D142 P142 hp142 => ?_) 
    obtain ⟨s1, s2, s3, rfl⟩ := hp142
    rw [← ej] at s2 s3
    refine pv_goto (tgt := 195) C dX3_letHappen_145 (by decide) ?_ 
    refine pv_iconst (q := 196) (v := 1) C dX3_letHappen_195 rfl (by decide) ?_ 
    exact pv_zret C (Or.inr rfl) (⟨Or.inl ⟨(by unfold canP; rw [if_pos rfl]; exact decide_eq_true hfree), rfl, s1, by
          have hgo : TI (goP row (105, p, g, x)) ∧ AM (goP row (105, p, g, x)) := ⟨TI_go hI ⟨hfl, hdl⟩ (Or.inl ⟨Or.inl rfl, hp, fun _ => hgr, fun _ => hxr⟩), AM_go hAM ⟨hfl, hdl⟩ (Or.inl ⟨Or.inl rfl, hp, fun _ => hgr, fun _ => hxr⟩)⟩
          have eg : goP row (105, p, g, x) = m_ins row p g x := by unfold goP; rw [if_pos rfl]
          rw [eg] at hgo ⊢
          obtain ⟨G', A', nx', hR'⟩ := s2
          exact ⟨G', A', wr + 1, nx', by omega, hR', s3, hgo⟩⟩, rfl⟩) (by decide) (by decide) dX3_letHappen_196
set_option maxRecDepth 100000 in
set_option maxHeartbeats 4000000 in
theorem c_X3_letHappen103 (l : Launch) (X : XT) (D : DT) (P : PT) (B W : Nat) (hk : kd B = 3) (row : Nat → Int32) (h : SB D B row W) (hW : W + 4 < 2 ^ 29) (hk3 : D 2 3 = 103) (p : Nat) (hnum : D 2 4 = nI p) (hp : p < 16) (g : Int32) (hgr : rg g 0 3) (hg5 : D 2 5 = g) : CG l X yX3_letHappen (.code yX3_letHappen cX3_letHappen 3 (some .boolean) :: AW) ({ frames := 5, cells := 0, slots := 0, locals := 180 } : Room) [.ref (X.2.2 B), .ref (X.2.2 2)] (qI X (fun r D' P' => ((canP row (103, p, g, 0) = true ∧ r = 1 ∧ (∀ i, (i < B ∨ B + 39 ≤ i) → D' i = D i) ∧ SB D' B (goP row (103, p, g, 0)) (W + 2)) ∨ (canP row (103, p, g, 0) = false ∧ r = 0 ∧ D' = D)) ∧ P = P')) D P 0 0 := by
  refine cg_of (by decide +kernel) (Nat.le_of_ble_eq_true rfl) ?_
  intro K hKl hKR C
  refine PV_lv (lv' := [some (.ref (X.2.2 B)), some (.ref (X.2.2 2)), none]) rfl ?_
  have hfl := h.fl
  have hdl := h.dl (m := 2) (by omega)
  obtain ⟨G, A, wr, nx, hw, hR, hT, hI, hAM⟩ := id h
  have hnx := TI_nx hR hI
  have hrow : (∀ q, q < 16 → nI p = nI q → D (B + 1 + 1) q = -1) ↔ row p = 0 := by
    have e := (hT p hp).1
    constructor
    · intro z
      have z2 := z p hp rfl
      rw [e] at z2
      have : row p = row p - 1 + 1 := (Int32.sub_add_cancel _ _).symm
      rw [this, z2]; rfl
    · intro z q hq eq
      have := nI_inj (by omega) (by omega) eq
      subst this
      rw [e, z]; rfl
  obtain ⟨j, hj, ej⟩ := rg4 hgr
  refine pv_aload_n (q := 1) C dX3_letHappen_0 rfl rfl rfl ?_ 
  refine pg_2_3 (q := 4) C k2 tw_174 dX3_letHappen_1 rfl ?_ 
  rw [hk3]
  refine pv_bipush (q := 6) (v := 116) C dX3_letHappen_4 rfl (by decide) ?_ 
  refine pv_icmp_ne (q := 9) (tgt := 20) C dX3_letHappen_6 (by decide) rfl (fun _ => ?_) (fun h => absurd h (by decide)) 
  refine pv_aload_n (q := 21) C dX3_letHappen_20 rfl rfl rfl ?_ 
  refine pg_2_3 (q := 24) C k2 tw_174 dX3_letHappen_21 rfl ?_ 
  rw [hk3]
  refine pv_bipush (q := 26) (v := 122) C dX3_letHappen_24 rfl (by decide) ?_ 
  refine pv_icmp_eq (q := 29) (tgt := 47) C dX3_letHappen_26 (by decide) rfl (fun h => absurd h (by decide)) (fun _ => ?_) 
  refine pv_aload_n (q := 30) C dX3_letHappen_29 rfl rfl rfl ?_ 
  refine pg_2_3 (q := 33) C k2 tw_174 dX3_letHappen_30 rfl ?_ 
  rw [hk3]
  refine pv_bipush (q := 35) (v := 119) C dX3_letHappen_33 rfl (by decide) ?_ 
  refine pv_icmp_eq (q := 38) (tgt := 47) C dX3_letHappen_35 (by decide) rfl (fun h => absurd h (by decide)) (fun _ => ?_) 
  refine pv_aload_n (q := 39) C dX3_letHappen_38 rfl rfl rfl ?_ 
  refine pg_2_3 (q := 42) C k2 tw_174 dX3_letHappen_39 rfl ?_ 
  rw [hk3]
  refine pv_bipush (q := 44) (v := 114) C dX3_letHappen_42 rfl (by decide) ?_ 
  refine pv_icmp_ne (q := 47) (tgt := 53) C dX3_letHappen_44 (by decide) rfl (fun _ => ?_) (fun h => absurd h (by decide)) 
  refine pv_aload_n (q := 54) C dX3_letHappen_53 rfl rfl rfl ?_ 
  refine pg_2_4 (q := 57) C k2 tw_176 dX3_letHappen_54 rfl ?_ 
  rw [hnum]
  refine pv_istore_n (q := 58) C dX3_letHappen_57 rfl rfl (Nat.le_of_ble_eq_true rfl) rfl ?_ 
  refine pv_iload_n (q := 59) C dX3_letHappen_58 rfl rfl rfl ?_ 
  refine pv_if_ltN (q := 62) (tgt := 93) (a := p) (b := 0) C rfl rfl (by omega) (by omega) dX3_letHappen_59 (by decide) rfl (fun c_59 => absurd c_59 (by omega)) (fun c_59 => ?_) 
  refine pv_iload_n (q := 63) C dX3_letHappen_62 rfl rfl rfl ?_ 
  refine pv_bipush (q := 65) (v := 16) C dX3_letHappen_63 rfl (by decide) ?_ 
  refine pv_icmp_geN (q := 68) (tgt := 93) (a := p) (b := 16) C rfl rfl (by omega) (by omega) dX3_letHappen_65 (by decide) rfl (fun c_65 => absurd c_65 (by omega)) (fun c_65 => ?_) 
  refine pv_aload_n (q := 69) C dX3_letHappen_68 rfl rfl rfl ?_ 
  refine pg_3_0 (q := 72) C hk tw_128 dX3_letHappen_69 rfl (fun k69 => ?_) 
  refine pv_iload_n (q := 73) C dX3_letHappen_72 rfl rfl rfl ?_ 
  refine pv_callVi (q := 76) C hKl (c_X4_freeAt l X D P (B + 1) k69 _) tw_1019 k69 (by decide) rfl mm_X4_freeAt ⟨rfl, rfl⟩ (by rw [hKR]; exact ⟨Nat.le_of_ble_eq_true rfl, Nat.le_of_ble_eq_true rfl⟩) (by rw [hKR]; exact ⟨Nat.le_of_ble_eq_true rfl, Nat.le_of_ble_eq_true rfl⟩) rfl rfl rfl (Nat.le_of_ble_eq_true rfl) dX3_letHappen_73 rfl (fun r73 D73 P73 hp73 => ?_) 
  rcases hp73 with ⟨⟨⟨q0, hq0, eq0, hne⟩, rfl⟩ | ⟨hfr, rfl⟩, rfl, rfl⟩
  · have hocc : ¬ row p = 0 := fun z => by
      have := nI_inj (by omega) (by omega) eq0
      subst this
      exact hne (hrow.mpr z p hp rfl)
    refine pv_aload_n (q := 77) C dX3_letHappen_76 rfl rfl rfl ?_ 
    refine pg_2_3 (q := 80) C k2 tw_174 dX3_letHappen_77 rfl ?_ 
    rw [hk3]
    refine pv_bipush (q := 82) (v := 105) C dX3_letHappen_80 rfl (by decide) ?_ 
    refine pv_icmp_ne (q := 85) (tgt := 89) C dX3_letHappen_82 (by decide) rfl (fun _ => ?_) (fun h => absurd h (by decide)) 
    refine pv_iconst (q := 90) (v := 0) C dX3_letHappen_89 rfl (by decide) ?_ 
    refine pv_icmp_eq (q := 93) (tgt := 95) C dX3_letHappen_90 (by decide) rfl (fun _ => ?_) (fun h => absurd h (by decide)) 
    refine pv_aload_n (q := 96) C dX3_letHappen_95 rfl rfl rfl ?_ 
    refine pg_2_3 (q := 99) C k2 tw_174 dX3_letHappen_96 rfl ?_ 
    rw [hk3]
    refine pv_lookup (tgt := 169) (off := 70) C dX3_letHappen_99 (by decide) (by decide) (by decide) ?_ 
    refine pv_aload_n (q := 170) C dX3_letHappen_169 rfl rfl rfl ?_ 
    refine pv_iload_n (q := 171) C dX3_letHappen_170 rfl rfl rfl ?_ 
    refine pv_aload_n (q := 172) C dX3_letHappen_171 rfl rfl rfl ?_ 
    refine pg_2_5 (q := 175) C k2 tw_178 dX3_letHappen_172 rfl ?_ 
    rw [show D 2 5 = nI j from hg5.trans ej]
    refine pv_aload_n (q := 176) C dX3_letHappen_175 rfl rfl rfl ?_ 
    refine pg_3_0 (q := 179) C hk tw_128 dX3_letHappen_176 rfl (fun k176 => ?_) 
    refine pg_4_1 (q := 182) C k176 tw_41 dX3_letHappen_179 rfl (fun k179 => ?_) 
    refine pv_iload_n (q := 183) C dX3_letHappen_182 rfl rfl rfl ?_ 
    refine pv_iald (q := 184) (j := p) C (iln_9 k179) rfl (by omega) dX3_letHappen_183 rfl ?_ 
    rw [(hT p hp).2 hocc]
    refine pv_callVv (q := 187) C hKl (c_X3_replaceRow l X D P B hk row G A wr nx hR hT hnx (by omega) p hp j hj _ hocc) tw_1021 hk (by decide) rfl mm_X3_replaceRow ⟨rfl, rfl⟩ (by rw [hKR]; exact ⟨Nat.le_of_ble_eq_true rfl, Nat.le_of_ble_eq_true rfl⟩) (by rw [hKR]; exact ⟨Nat.le_of_ble_eq_true rfl, Nat.le_of_ble_eq_true rfl⟩) rfl rfl rfl (Nat.le_of_ble_eq_true rfl) dX3_letHappen_184 rfl (fun D184 P184 hp184 => ?_) 
    obtain ⟨s1, s2, s3, rfl⟩ := hp184
    rw [← ej] at s2 s3
    refine pv_goto (tgt := 195) C dX3_letHappen_187 (by decide) ?_ 
    refine pv_iconst (q := 196) (v := 1) C dX3_letHappen_195 rfl (by decide) ?_ 
    exact pv_zret C (Or.inr rfl) (⟨Or.inl ⟨(by unfold canP; dsimp only; rw [if_neg (by decide), if_pos (by decide)]; exact decide_eq_true hocc), rfl, s1, by
          have hgo : TI (goP row (103, p, g, 0)) ∧ AM (goP row (103, p, g, 0)) := ⟨TI_go hI ⟨hfl, hdl⟩ (Or.inl ⟨Or.inr (Or.inl rfl), hp, fun _ => hgr, fun z => by dsimp only at z; rcases z with z | z <;> exact absurd z (by decide)⟩), AM_go hAM ⟨hfl, hdl⟩ (Or.inl ⟨Or.inr (Or.inl rfl), hp, fun _ => hgr, fun z => by dsimp only at z; rcases z with z | z <;> exact absurd z (by decide)⟩)⟩
          have eg : goP row (103, p, g, 0) = m_rep row p (g + 1) (row (16 + p)) := by unfold goP; dsimp only; rw [if_neg (by decide), if_pos rfl]
          rw [eg] at hgo ⊢
          obtain ⟨G', A', nx', hR'⟩ := s2
          exact ⟨G', A', wr + 2, nx', by omega, hR', s3, hgo⟩⟩, rfl⟩) (by decide) (by decide) dX3_letHappen_196
  · have hfree : row p = 0 := hrow.mp hfr
    refine pv_aload_n (q := 77) C dX3_letHappen_76 rfl rfl rfl ?_ 
    refine pg_2_3 (q := 80) C k2 tw_174 dX3_letHappen_77 rfl ?_ 
    rw [hk3]
    refine pv_bipush (q := 82) (v := 105) C dX3_letHappen_80 rfl (by decide) ?_ 
    refine pv_icmp_ne (q := 85) (tgt := 89) C dX3_letHappen_82 (by decide) rfl (fun _ => ?_) (fun h => absurd h (by decide)) 
    refine pv_iconst (q := 90) (v := 0) C dX3_letHappen_89 rfl (by decide) ?_ 
    refine pv_icmp_eq (q := 93) (tgt := 95) C dX3_letHappen_90 (by decide) rfl (fun h => absurd h (by decide)) (fun _ => ?_) 
    refine pv_iconst (q := 94) (v := 0) C dX3_letHappen_93 rfl (by decide) ?_ 
    exact pv_zret C (Or.inl rfl) (⟨Or.inr ⟨(by unfold canP; dsimp only; rw [if_neg (by decide), if_pos (by decide)]; exact decide_eq_false (fun z => z hfree)), rfl, rfl⟩, rfl⟩) (by decide) (by decide) dX3_letHappen_94
set_option maxRecDepth 100000 in
set_option maxHeartbeats 4000000 in
theorem c_X3_letHappen117 (l : Launch) (X : XT) (D : DT) (P : PT) (B W : Nat) (hk : kd B = 3) (row : Nat → Int32) (h : SB D B row W) (hW : W + 4 < 2 ^ 29) (hk3 : D 2 3 = 117) (p : Nat) (hnum : D 2 4 = nI p) (hp : p < 16) (x : Int32) (hx6 : D 2 6 = x) (hxr : rg x (-99) 99) : CG l X yX3_letHappen (.code yX3_letHappen cX3_letHappen 3 (some .boolean) :: AW) ({ frames := 5, cells := 0, slots := 0, locals := 180 } : Room) [.ref (X.2.2 B), .ref (X.2.2 2)] (qI X (fun r D' P' => ((canP row (117, p, 0, x) = true ∧ r = 1 ∧ (∀ i, (i < B ∨ B + 39 ≤ i) → D' i = D i) ∧ SB D' B (goP row (117, p, 0, x)) (W + 2)) ∨ (canP row (117, p, 0, x) = false ∧ r = 0 ∧ D' = D)) ∧ P = P')) D P 0 0 := by
  refine cg_of (by decide +kernel) (Nat.le_of_ble_eq_true rfl) ?_
  intro K hKl hKR C
  refine PV_lv (lv' := [some (.ref (X.2.2 B)), some (.ref (X.2.2 2)), none]) rfl ?_
  have hfl := h.fl
  have hdl := h.dl (m := 2) (by omega)
  obtain ⟨G, A, wr, nx, hw, hR, hT, hI, hAM⟩ := id h
  have hnx := TI_nx hR hI
  have hrow : (∀ q, q < 16 → nI p = nI q → D (B + 1 + 1) q = -1) ↔ row p = 0 := by
    have e := (hT p hp).1
    constructor
    · intro z
      have z2 := z p hp rfl
      rw [e] at z2
      have : row p = row p - 1 + 1 := (Int32.sub_add_cancel _ _).symm
      rw [this, z2]; rfl
    · intro z q hq eq
      have := nI_inj (by omega) (by omega) eq
      subst this
      rw [e, z]; rfl
  refine pv_aload_n (q := 1) C dX3_letHappen_0 rfl rfl rfl ?_ 
  refine pg_2_3 (q := 4) C k2 tw_174 dX3_letHappen_1 rfl ?_ 
  rw [hk3]
  refine pv_bipush (q := 6) (v := 116) C dX3_letHappen_4 rfl (by decide) ?_ 
  refine pv_icmp_ne (q := 9) (tgt := 20) C dX3_letHappen_6 (by decide) rfl (fun _ => ?_) (fun h => absurd h (by decide)) 
  refine pv_aload_n (q := 21) C dX3_letHappen_20 rfl rfl rfl ?_ 
  refine pg_2_3 (q := 24) C k2 tw_174 dX3_letHappen_21 rfl ?_ 
  rw [hk3]
  refine pv_bipush (q := 26) (v := 122) C dX3_letHappen_24 rfl (by decide) ?_ 
  refine pv_icmp_eq (q := 29) (tgt := 47) C dX3_letHappen_26 (by decide) rfl (fun h => absurd h (by decide)) (fun _ => ?_) 
  refine pv_aload_n (q := 30) C dX3_letHappen_29 rfl rfl rfl ?_ 
  refine pg_2_3 (q := 33) C k2 tw_174 dX3_letHappen_30 rfl ?_ 
  rw [hk3]
  refine pv_bipush (q := 35) (v := 119) C dX3_letHappen_33 rfl (by decide) ?_ 
  refine pv_icmp_eq (q := 38) (tgt := 47) C dX3_letHappen_35 (by decide) rfl (fun h => absurd h (by decide)) (fun _ => ?_) 
  refine pv_aload_n (q := 39) C dX3_letHappen_38 rfl rfl rfl ?_ 
  refine pg_2_3 (q := 42) C k2 tw_174 dX3_letHappen_39 rfl ?_ 
  rw [hk3]
  refine pv_bipush (q := 44) (v := 114) C dX3_letHappen_42 rfl (by decide) ?_ 
  refine pv_icmp_ne (q := 47) (tgt := 53) C dX3_letHappen_44 (by decide) rfl (fun _ => ?_) (fun h => absurd h (by decide)) 
  refine pv_aload_n (q := 54) C dX3_letHappen_53 rfl rfl rfl ?_ 
  refine pg_2_4 (q := 57) C k2 tw_176 dX3_letHappen_54 rfl ?_ 
  rw [hnum]
  refine pv_istore_n (q := 58) C dX3_letHappen_57 rfl rfl (Nat.le_of_ble_eq_true rfl) rfl ?_ 
  refine pv_iload_n (q := 59) C dX3_letHappen_58 rfl rfl rfl ?_ 
  refine pv_if_ltN (q := 62) (tgt := 93) (a := p) (b := 0) C rfl rfl (by omega) (by omega) dX3_letHappen_59 (by decide) rfl (fun c_59 => absurd c_59 (by omega)) (fun c_59 => ?_) 
  refine pv_iload_n (q := 63) C dX3_letHappen_62 rfl rfl rfl ?_ 
  refine pv_bipush (q := 65) (v := 16) C dX3_letHappen_63 rfl (by decide) ?_ 
  refine pv_icmp_geN (q := 68) (tgt := 93) (a := p) (b := 16) C rfl rfl (by omega) (by omega) dX3_letHappen_65 (by decide) rfl (fun c_65 => absurd c_65 (by omega)) (fun c_65 => ?_) 
  refine pv_aload_n (q := 69) C dX3_letHappen_68 rfl rfl rfl ?_ 
  refine pg_3_0 (q := 72) C hk tw_128 dX3_letHappen_69 rfl (fun k69 => ?_) 
  refine pv_iload_n (q := 73) C dX3_letHappen_72 rfl rfl rfl ?_ 
  refine pv_callVi (q := 76) C hKl (c_X4_freeAt l X D P (B + 1) k69 _) tw_1019 k69 (by decide) rfl mm_X4_freeAt ⟨rfl, rfl⟩ (by rw [hKR]; exact ⟨Nat.le_of_ble_eq_true rfl, Nat.le_of_ble_eq_true rfl⟩) (by rw [hKR]; exact ⟨Nat.le_of_ble_eq_true rfl, Nat.le_of_ble_eq_true rfl⟩) rfl rfl rfl (Nat.le_of_ble_eq_true rfl) dX3_letHappen_73 rfl (fun r73 D73 P73 hp73 => ?_) 
  rcases hp73 with ⟨⟨⟨q0, hq0, eq0, hne⟩, rfl⟩ | ⟨hfr, rfl⟩, rfl, rfl⟩
  · have hocc : ¬ row p = 0 := fun z => by
      have := nI_inj (by omega) (by omega) eq0
      subst this
      exact hne (hrow.mpr z p hp rfl)
    refine pv_aload_n (q := 77) C dX3_letHappen_76 rfl rfl rfl ?_ 
    refine pg_2_3 (q := 80) C k2 tw_174 dX3_letHappen_77 rfl ?_ 
    rw [hk3]
    refine pv_bipush (q := 82) (v := 105) C dX3_letHappen_80 rfl (by decide) ?_ 
    refine pv_icmp_ne (q := 85) (tgt := 89) C dX3_letHappen_82 (by decide) rfl (fun _ => ?_) (fun h => absurd h (by decide)) 
    refine pv_iconst (q := 90) (v := 0) C dX3_letHappen_89 rfl (by decide) ?_ 
    refine pv_icmp_eq (q := 93) (tgt := 95) C dX3_letHappen_90 (by decide) rfl (fun _ => ?_) (fun h => absurd h (by decide)) 
    refine pv_aload_n (q := 96) C dX3_letHappen_95 rfl rfl rfl ?_ 
    refine pg_2_3 (q := 99) C k2 tw_174 dX3_letHappen_96 rfl ?_ 
    rw [hk3]
    refine pv_lookup (tgt := 148) (off := 49) C dX3_letHappen_99 (by decide) (by decide) (by decide) ?_ 
    refine pv_aload_n (q := 149) C dX3_letHappen_148 rfl rfl rfl ?_ 
    refine pv_iload_n (q := 150) C dX3_letHappen_149 rfl rfl rfl ?_ 
    refine pv_aload_n (q := 151) C dX3_letHappen_150 rfl rfl rfl ?_ 
    refine pg_3_0 (q := 154) C hk tw_128 dX3_letHappen_151 rfl (fun k151 => ?_) 
    refine pg_4_0 (q := 157) C k151 tw_37 dX3_letHappen_154 rfl (fun k154 => ?_) 
    refine pv_iload_n (q := 158) C dX3_letHappen_157 rfl rfl rfl ?_ 
    refine pv_iald (q := 159) (j := p) C (iln_9 k154) rfl (by omega) dX3_letHappen_158 rfl ?_ 
    obtain ⟨kg, hkg, ekg⟩ := (hR.2.2.2.1 p hp).2.2
    have hk1 : 1 ≤ kg := i32_z hkg (by rw [← ekg]; exact hocc)
    have eg0 : row p - 1 = nI (kg - 1) := by rw [ekg, show (1 : Int32) = nI 1 from rfl, pk_sub hk1]
    rw [(hT p hp).1, eg0]
    refine pv_aload_n (q := 160) C dX3_letHappen_159 rfl rfl rfl ?_ 
    refine pg_2_6 (q := 163) C k2 tw_180 dX3_letHappen_160 rfl ?_ 
    rw [hx6]
    refine pv_callVv (q := 166) C hKl (c_X3_replaceRow l X D P B hk row G A wr nx hR hT hnx (by omega) p hp (kg - 1) (by omega) x hocc) tw_1021 hk (by decide) rfl mm_X3_replaceRow ⟨rfl, rfl⟩ (by rw [hKR]; exact ⟨Nat.le_of_ble_eq_true rfl, Nat.le_of_ble_eq_true rfl⟩) (by rw [hKR]; exact ⟨Nat.le_of_ble_eq_true rfl, Nat.le_of_ble_eq_true rfl⟩) rfl rfl rfl (Nat.le_of_ble_eq_true rfl) dX3_letHappen_163 rfl (fun D163 P163 hp163 => ?_) 
    obtain ⟨s1, s2, s3, rfl⟩ := hp163
    rw [show nI (kg - 1) + 1 = row p by rw [← eg0, Int32.sub_add_cancel]] at s2 s3
    refine pv_goto (tgt := 195) C dX3_letHappen_166 (by decide) ?_ 
    refine pv_iconst (q := 196) (v := 1) C dX3_letHappen_195 rfl (by decide) ?_ 
    exact pv_zret C (Or.inr rfl) (⟨Or.inl ⟨(by unfold canP; dsimp only; rw [if_neg (by decide), if_pos (by decide)]; exact decide_eq_true hocc), rfl, s1, by
          have hgo : TI (goP row (117, p, 0, x)) ∧ AM (goP row (117, p, 0, x)) := ⟨TI_go hI ⟨hfl, hdl⟩ (Or.inl ⟨Or.inr (Or.inr (Or.inl rfl)), hp, fun z => by dsimp only at z; rcases z with z | z <;> exact absurd z (by decide), fun _ => hxr⟩), AM_go hAM ⟨hfl, hdl⟩ (Or.inl ⟨Or.inr (Or.inr (Or.inl rfl)), hp, fun z => by dsimp only at z; rcases z with z | z <;> exact absurd z (by decide), fun _ => hxr⟩)⟩
          have eg : goP row (117, p, 0, x) = m_rep row p (row p) x := by unfold goP; dsimp only; rw [if_neg (by decide), if_neg (by decide), if_pos rfl]
          rw [eg] at hgo ⊢
          obtain ⟨G', A', nx', hR'⟩ := s2
          exact ⟨G', A', wr + 2, nx', by omega, hR', s3, hgo⟩⟩, rfl⟩) (by decide) (by decide) dX3_letHappen_196
  · have hfree : row p = 0 := hrow.mp hfr
    refine pv_aload_n (q := 77) C dX3_letHappen_76 rfl rfl rfl ?_ 
    refine pg_2_3 (q := 80) C k2 tw_174 dX3_letHappen_77 rfl ?_ 
    rw [hk3]
    refine pv_bipush (q := 82) (v := 105) C dX3_letHappen_80 rfl (by decide) ?_ 
    refine pv_icmp_ne (q := 85) (tgt := 89) C dX3_letHappen_82 (by decide) rfl (fun _ => ?_) (fun h => absurd h (by decide)) 
    refine pv_iconst (q := 90) (v := 0) C dX3_letHappen_89 rfl (by decide) ?_ 
    refine pv_icmp_eq (q := 93) (tgt := 95) C dX3_letHappen_90 (by decide) rfl (fun h => absurd h (by decide)) (fun _ => ?_) 
    refine pv_iconst (q := 94) (v := 0) C dX3_letHappen_93 rfl (by decide) ?_ 
    exact pv_zret C (Or.inl rfl) (⟨Or.inr ⟨(by unfold canP; dsimp only; rw [if_neg (by decide), if_pos (by decide)]; exact decide_eq_false (fun z => z hfree)), rfl, rfl⟩, rfl⟩) (by decide) (by decide) dX3_letHappen_94
set_option maxRecDepth 100000 in
set_option maxHeartbeats 4000000 in
theorem c_X3_letHappen120 (l : Launch) (X : XT) (D : DT) (P : PT) (B W : Nat) (hk : kd B = 3) (row : Nat → Int32) (h : SB D B row W) (hW : W + 4 < 2 ^ 29) (hk3 : D 2 3 = 120) (p : Nat) (hnum : D 2 4 = nI p) (hp : p < 16)  : CG l X yX3_letHappen (.code yX3_letHappen cX3_letHappen 3 (some .boolean) :: AW) ({ frames := 5, cells := 0, slots := 0, locals := 180 } : Room) [.ref (X.2.2 B), .ref (X.2.2 2)] (qI X (fun r D' P' => ((canP row (120, p, 0, 0) = true ∧ r = 1 ∧ (∀ i, (i < B ∨ B + 39 ≤ i) → D' i = D i) ∧ SB D' B (goP row (120, p, 0, 0)) (W + 2)) ∨ (canP row (120, p, 0, 0) = false ∧ r = 0 ∧ D' = D)) ∧ P = P')) D P 0 0 := by
  refine cg_of (by decide +kernel) (Nat.le_of_ble_eq_true rfl) ?_
  intro K hKl hKR C
  refine PV_lv (lv' := [some (.ref (X.2.2 B)), some (.ref (X.2.2 2)), none]) rfl ?_
  have hfl := h.fl
  have hdl := h.dl (m := 2) (by omega)
  obtain ⟨G, A, wr, nx, hw, hR, hT, hI, hAM⟩ := id h
  have hnx := TI_nx hR hI
  have hrow : (∀ q, q < 16 → nI p = nI q → D (B + 1 + 1) q = -1) ↔ row p = 0 := by
    have e := (hT p hp).1
    constructor
    · intro z
      have z2 := z p hp rfl
      rw [e] at z2
      have : row p = row p - 1 + 1 := (Int32.sub_add_cancel _ _).symm
      rw [this, z2]; rfl
    · intro z q hq eq
      have := nI_inj (by omega) (by omega) eq
      subst this
      rw [e, z]; rfl
  refine pv_aload_n (q := 1) C dX3_letHappen_0 rfl rfl rfl ?_ 
  refine pg_2_3 (q := 4) C k2 tw_174 dX3_letHappen_1 rfl ?_ 
  rw [hk3]
  refine pv_bipush (q := 6) (v := 116) C dX3_letHappen_4 rfl (by decide) ?_ 
  refine pv_icmp_ne (q := 9) (tgt := 20) C dX3_letHappen_6 (by decide) rfl (fun _ => ?_) (fun h => absurd h (by decide)) 
  refine pv_aload_n (q := 21) C dX3_letHappen_20 rfl rfl rfl ?_ 
  refine pg_2_3 (q := 24) C k2 tw_174 dX3_letHappen_21 rfl ?_ 
  rw [hk3]
  refine pv_bipush (q := 26) (v := 122) C dX3_letHappen_24 rfl (by decide) ?_ 
  refine pv_icmp_eq (q := 29) (tgt := 47) C dX3_letHappen_26 (by decide) rfl (fun h => absurd h (by decide)) (fun _ => ?_) 
  refine pv_aload_n (q := 30) C dX3_letHappen_29 rfl rfl rfl ?_ 
  refine pg_2_3 (q := 33) C k2 tw_174 dX3_letHappen_30 rfl ?_ 
  rw [hk3]
  refine pv_bipush (q := 35) (v := 119) C dX3_letHappen_33 rfl (by decide) ?_ 
  refine pv_icmp_eq (q := 38) (tgt := 47) C dX3_letHappen_35 (by decide) rfl (fun h => absurd h (by decide)) (fun _ => ?_) 
  refine pv_aload_n (q := 39) C dX3_letHappen_38 rfl rfl rfl ?_ 
  refine pg_2_3 (q := 42) C k2 tw_174 dX3_letHappen_39 rfl ?_ 
  rw [hk3]
  refine pv_bipush (q := 44) (v := 114) C dX3_letHappen_42 rfl (by decide) ?_ 
  refine pv_icmp_ne (q := 47) (tgt := 53) C dX3_letHappen_44 (by decide) rfl (fun _ => ?_) (fun h => absurd h (by decide)) 
  refine pv_aload_n (q := 54) C dX3_letHappen_53 rfl rfl rfl ?_ 
  refine pg_2_4 (q := 57) C k2 tw_176 dX3_letHappen_54 rfl ?_ 
  rw [hnum]
  refine pv_istore_n (q := 58) C dX3_letHappen_57 rfl rfl (Nat.le_of_ble_eq_true rfl) rfl ?_ 
  refine pv_iload_n (q := 59) C dX3_letHappen_58 rfl rfl rfl ?_ 
  refine pv_if_ltN (q := 62) (tgt := 93) (a := p) (b := 0) C rfl rfl (by omega) (by omega) dX3_letHappen_59 (by decide) rfl (fun c_59 => absurd c_59 (by omega)) (fun c_59 => ?_) 
  refine pv_iload_n (q := 63) C dX3_letHappen_62 rfl rfl rfl ?_ 
  refine pv_bipush (q := 65) (v := 16) C dX3_letHappen_63 rfl (by decide) ?_ 
  refine pv_icmp_geN (q := 68) (tgt := 93) (a := p) (b := 16) C rfl rfl (by omega) (by omega) dX3_letHappen_65 (by decide) rfl (fun c_65 => absurd c_65 (by omega)) (fun c_65 => ?_) 
  refine pv_aload_n (q := 69) C dX3_letHappen_68 rfl rfl rfl ?_ 
  refine pg_3_0 (q := 72) C hk tw_128 dX3_letHappen_69 rfl (fun k69 => ?_) 
  refine pv_iload_n (q := 73) C dX3_letHappen_72 rfl rfl rfl ?_ 
  refine pv_callVi (q := 76) C hKl (c_X4_freeAt l X D P (B + 1) k69 _) tw_1019 k69 (by decide) rfl mm_X4_freeAt ⟨rfl, rfl⟩ (by rw [hKR]; exact ⟨Nat.le_of_ble_eq_true rfl, Nat.le_of_ble_eq_true rfl⟩) (by rw [hKR]; exact ⟨Nat.le_of_ble_eq_true rfl, Nat.le_of_ble_eq_true rfl⟩) rfl rfl rfl (Nat.le_of_ble_eq_true rfl) dX3_letHappen_73 rfl (fun r73 D73 P73 hp73 => ?_) 
  rcases hp73 with ⟨⟨⟨q0, hq0, eq0, hne⟩, rfl⟩ | ⟨hfr, rfl⟩, rfl, rfl⟩
  · have hocc : ¬ row p = 0 := fun z => by
      have := nI_inj (by omega) (by omega) eq0
      subst this
      exact hne (hrow.mpr z p hp rfl)
    refine pv_aload_n (q := 77) C dX3_letHappen_76 rfl rfl rfl ?_ 
    refine pg_2_3 (q := 80) C k2 tw_174 dX3_letHappen_77 rfl ?_ 
    rw [hk3]
    refine pv_bipush (q := 82) (v := 105) C dX3_letHappen_80 rfl (by decide) ?_ 
    refine pv_icmp_ne (q := 85) (tgt := 89) C dX3_letHappen_82 (by decide) rfl (fun _ => ?_) (fun h => absurd h (by decide)) 
    refine pv_iconst (q := 90) (v := 0) C dX3_letHappen_89 rfl (by decide) ?_ 
    refine pv_icmp_eq (q := 93) (tgt := 95) C dX3_letHappen_90 (by decide) rfl (fun _ => ?_) (fun h => absurd h (by decide)) 
    refine pv_aload_n (q := 96) C dX3_letHappen_95 rfl rfl rfl ?_ 
    refine pg_2_3 (q := 99) C k2 tw_174 dX3_letHappen_96 rfl ?_ 
    rw [hk3]
    refine pv_lookup (tgt := 190) (off := 91) C dX3_letHappen_99 (by decide) (by decide) (by decide) ?_ 
    refine pv_aload_n (q := 191) C dX3_letHappen_190 rfl rfl rfl ?_ 
    refine pv_iload_n (q := 192) C dX3_letHappen_191 rfl rfl rfl ?_ 
    refine pv_callVv (q := 195) C hKl (c_X3_removeRow l X D P B hk row G A wr nx hR hT hnx (by omega) p hp hocc) tw_1022 hk (by decide) rfl mm_X3_removeRow ⟨rfl, rfl⟩ (by rw [hKR]; exact ⟨Nat.le_of_ble_eq_true rfl, Nat.le_of_ble_eq_true rfl⟩) (by rw [hKR]; exact ⟨Nat.le_of_ble_eq_true rfl, Nat.le_of_ble_eq_true rfl⟩) rfl rfl rfl (Nat.le_of_ble_eq_true rfl) dX3_letHappen_192 rfl (fun D192 P192 hp192 => ?_) 
    obtain ⟨s1, s2, s3, rfl⟩ := hp192
    refine pv_iconst (q := 196) (v := 1) C dX3_letHappen_195 rfl (by decide) ?_ 
    exact pv_zret C (Or.inr rfl) (⟨Or.inl ⟨(by unfold canP; dsimp only; rw [if_neg (by decide), if_pos (by decide)]; exact decide_eq_true hocc), rfl, s1, by
          have hgo : TI (goP row (120, p, 0, 0)) ∧ AM (goP row (120, p, 0, 0)) := ⟨TI_go hI ⟨hfl, hdl⟩ (Or.inl ⟨Or.inr (Or.inr (Or.inr rfl)), hp, fun z => by dsimp only at z; rcases z with z | z <;> exact absurd z (by decide), fun z => by dsimp only at z; rcases z with z | z <;> exact absurd z (by decide)⟩), AM_go hAM ⟨hfl, hdl⟩ (Or.inl ⟨Or.inr (Or.inr (Or.inr rfl)), hp, fun z => by dsimp only at z; rcases z with z | z <;> exact absurd z (by decide), fun z => by dsimp only at z; rcases z with z | z <;> exact absurd z (by decide)⟩)⟩
          have eg : goP row (120, p, 0, 0) = m_del row p := by unfold goP; dsimp only; rw [if_neg (by decide), if_neg (by decide), if_neg (by decide), if_pos rfl]
          rw [eg] at hgo ⊢
          obtain ⟨G', A', nx', hR'⟩ := s2
          exact ⟨G', A', wr + 1, nx', by omega, hR', s3, hgo⟩⟩, rfl⟩) (by decide) (by decide) dX3_letHappen_196
  · have hfree : row p = 0 := hrow.mp hfr
    refine pv_aload_n (q := 77) C dX3_letHappen_76 rfl rfl rfl ?_ 
    refine pg_2_3 (q := 80) C k2 tw_174 dX3_letHappen_77 rfl ?_ 
    rw [hk3]
    refine pv_bipush (q := 82) (v := 105) C dX3_letHappen_80 rfl (by decide) ?_ 
    refine pv_icmp_ne (q := 85) (tgt := 89) C dX3_letHappen_82 (by decide) rfl (fun _ => ?_) (fun h => absurd h (by decide)) 
    refine pv_iconst (q := 90) (v := 0) C dX3_letHappen_89 rfl (by decide) ?_ 
    refine pv_icmp_eq (q := 93) (tgt := 95) C dX3_letHappen_90 (by decide) rfl (fun h => absurd h (by decide)) (fun _ => ?_) 
    refine pv_iconst (q := 94) (v := 0) C dX3_letHappen_93 rfl (by decide) ?_ 
    exact pv_zret C (Or.inl rfl) (⟨Or.inr ⟨(by unfold canP; dsimp only; rw [if_neg (by decide), if_pos (by decide)]; exact decide_eq_false (fun z => z hfree)), rfl, rfl⟩, rfl⟩) (by decide) (by decide) dX3_letHappen_94
theorem c_X3_letHappen (l : Launch) (X : XT) (D : DT) (P : PT) (B W : Nat) (hk : kd B = 3) (row : Nat → Int32) (h : SB D B row W) (hW : W + 4 < 2 ^ 29) (p : PartT) (hp : pOK p) (hk3 : D 2 3 = p.1) (hnum : D 2 4 = nI p.2.1) (hg5 : p.1 = 105 ∨ p.1 = 103 → D 2 5 = p.2.2.1) (hx6 : p.1 = 105 ∨ p.1 = 117 → D 2 6 = p.2.2.2) (hz : (p.1 = 117 ∨ p.1 = 120 ∨ p.1 = 116 ∨ p.1 = 122 ∨ p.1 = 119 ∨ p.1 = 114 → p.2.2.1 = 0) ∧ (p.1 = 103 ∨ p.1 = 120 ∨ p.1 = 116 ∨ p.1 = 122 ∨ p.1 = 119 ∨ p.1 = 114 → p.2.2.2 = 0)) : CG l X yX3_letHappen (.code yX3_letHappen cX3_letHappen 3 (some .boolean) :: AW) ({ frames := 5, cells := 0, slots := 0, locals := 180 } : Room) [.ref (X.2.2 B), .ref (X.2.2 2)] (qI X (fun r D' P' => ((canP row p = true ∧ r = 1 ∧ (∀ i, (i < B ∨ B + 39 ≤ i) → D' i = D i) ∧ SB D' B (goP row p) (W + 2)) ∨ (canP row p = false ∧ r = 0 ∧ D' = D)) ∧ P = P')) D P 0 0 := by
  obtain ⟨k, q, g, x⟩ := p
  dsimp only at hk3 hnum hg5 hx6 hz
  obtain ⟨z1, z2⟩ := hz
  rcases hp with ⟨hkk, hq, hgr, hxr⟩ | ⟨hkk, hq⟩ | ⟨hkk, hq⟩
  · dsimp only at hkk hq hgr hxr
    rcases hkk with rfl | rfl | rfl | rfl
    · exact c_X3_letHappen105 l X D P B W hk row h hW hk3 q hnum hq g x (hgr (Or.inl rfl)) (hg5 (Or.inl rfl)) (hx6 (Or.inl rfl)) (hxr (Or.inl rfl))
    · obtain rfl : x = 0 := z2 (Or.inl rfl)
      exact c_X3_letHappen103 l X D P B W hk row h hW hk3 q hnum hq g (hgr (Or.inr rfl)) (hg5 (Or.inr rfl))
    · obtain rfl : g = 0 := z1 (Or.inl rfl)
      exact c_X3_letHappen117 l X D P B W hk row h hW hk3 q hnum hq x (hx6 (Or.inr rfl)) (hxr (Or.inr rfl))
    · obtain rfl : g = 0 := z1 (by simp)
      obtain rfl : x = 0 := z2 (by simp)
      exact c_X3_letHappen120 l X D P B W hk row h hW hk3 q hnum hq
  · dsimp only at hkk hq
    subst hkk
    obtain rfl : g = 0 := z1 (by simp)
    obtain rfl : x = 0 := z2 (by simp)
    exact c_X3_letHappen116 l X D P B W hk row h hW hk3 q hnum hq
  · dsimp only at hkk hq
    rcases hkk with rfl | rfl | rfl
    · obtain rfl : g = 0 := z1 (by simp)
      obtain rfl : x = 0 := z2 (by simp)
      exact c_X3_letHappen122 l X D P B W hk row h hW hk3 q hnum hq
    · obtain rfl : g = 0 := z1 (by simp)
      obtain rfl : x = 0 := z2 (by simp)
      exact c_X3_letHappen119 l X D P B W hk row h hW hk3 q hnum hq
    · obtain rfl : g = 0 := z1 (by simp)
      obtain rfl : x = 0 := z2 (by simp)
      exact c_X3_letHappen114 l X D P B W hk row h hW hk3 q hnum hq
