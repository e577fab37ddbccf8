/-! ===== to make way: the model ===== -/
theorem fold_app (x : PQ) (D : DL) (d : Nat × Nat × Nat) : (D ++ [d]).foldl pst x = pst (D.foldl pst x) d := by
  rw [List.foldl_append]
  rfl
theorem snkI_sT {σ : Nat → Nat} {b i : Nat} (q : (σ 3).testBit i = true) : snkI σ b (i + 1) = updN (snkI σ b i) (32 + i) (σ (32 + i) - b) := if_pos q
theorem snkI_sF {σ : Nat → Nat} {b i : Nat} (q : ¬ (σ 3).testBit i = true) : snkI σ b (i + 1) = snkI σ b i := if_neg q
theorem m_way {M : Ob} {σ : Nat → Nat} {x : PQ} {need m : Nat} (h : MS M σ x) (hv : Wv σ) (hn : need ≤ σ 0) (hm : m ≤ 16) (hs : stp σ need m) (hl : ∀ i, i < m → ¬ stp σ need i) : Ok (f_X12_way M (nI need)) (fun M' => MS M' (wy σ m).1 ((wy σ m).2.foldl pst x) ∧ FrM M M') := by
  unfold f_X12_way
  rw [ok_zb1]
  refine ok_mono (ok_zl1 (Q := fun M' => MS M' (wy σ m).1 ((wy σ m).2.foldl pst x) ∧ FrM M M') (fun i M' => MS M' (wy σ i).1 ((wy σ i).2.foldl pst x) ∧ FrM M M') m (fun i M' hi hI => ?_) (fu_lt (by omega)) ⟨h, FrM_refl M⟩) (fun y hy => ok_some.mpr hy)
  obtain ⟨hS, hF⟩ := hI
  have hvi := Wv_wy hv i
  have h3i := Wv_3 hvi
  have h8i := hvi.1
  have hri := hvi.2.2.1
  have hli := hvi.2.2.2.1
  have e0 : (wy σ i).1 0 = σ 0 := wy_fr hv (by decide) (by omega) i
  have hlies := m_lies hS.1 h8i (by omega)
  have hst : stp σ need i ↔ need ≤ (wy σ i).1 0 - liesN (wy σ i).1 := by
    unfold stp
    omega
  have hM := hS.1
  by_cases q : i = m
  · subst q
    have := hst.mp hs
    simp (disch := omega) only [↓nx_q, zb0_s, zb1_s, zb2_s, zb3_s, zb4_s, zb5_s, zb6_s, zb7_s, zb8_s, zb9_s, zb10_s, zb11_s, zb12_s, zb13_s, zb14_s, q_lit, nI_add, pk_mul, e_cl, gi_in, gz_n0, gz_n1, e_gz, si_eq, si_ne, sa_eq, sa_ne, if_true, if_false, ↓reduceIte, k_ltT, k_ltF, k_leT, k_leF, k_eqT, k_eqF, k_m1lt, k_nm1, not_true_eq_false, not_false_eq_true, hM, rw_ap, upd_rw, sa_sa, jn_l, jn_r, jn_4, jn_5, jn_6, jn_ul, jn_ur, jn_u4, jn_u5, jn_u6, hlies, e_sub]
    exact ⟨_, rfl, hS, hF⟩
  · have hns := hl i (by omega)
    have : ¬ need ≤ (wy σ i).1 0 - liesN (wy σ i).1 := fun z => hns (hst.mpr z)
    obtain ⟨p, hp⟩ := way_some hv hn hns
    have hle := m_least hS.1 h8i (by omega) (fun k hk => (hvi.2.2.2.2.2 k hk).1)
    rw [hp] at hle
    obtain ⟨p1, p2, p3⟩ := poor_some hp
    have hd := (hvi.2.2.2.2.2 p (by omega)).1
    have hw : wy σ (i + 1) = if (wy σ i).1 (32 + p) = 0 then (dnS (wy σ i).1 p, (wy σ i).2 ++ [(2, p, (wy σ i).1 (8 + p))]) else (snkI (wy σ i).1 ((wy σ i).1 (32 + p)) ((wy σ i).1 2), (wy σ i).2) := by
      show wst (wy σ i) = _
      unfold wst
      rw [hp]
    by_cases z : (wy σ i).1 (32 + p) = 0
    · rw [if_pos z] at hw
      simp (disch := omega) only [↓nx_q, zb0_s, zb1_s, zb2_s, zb3_s, zb4_s, zb5_s, zb6_s, zb7_s, zb8_s, zb9_s, zb10_s, zb11_s, zb12_s, zb13_s, zb14_s, q_lit, nI_add, pk_mul, e_cl, gi_in, gz_n0, gz_n1, e_gz, si_eq, si_ne, sa_eq, sa_ne, if_true, if_false, ↓reduceIte, k_ltT, k_ltF, k_leT, k_leF, k_eqT, k_eqF, k_m1lt, k_nm1, not_true_eq_false, not_false_eq_true, hM, rw_ap, upd_rw, sa_sa, jn_l, jn_r, jn_4, jn_5, jn_6, jn_ul, jn_ur, jn_u4, jn_u5, jn_u6, hlies, e_sub, hle, oI, z]
      rw [ok_zb1]
      refine ok_mono (m_down hS (k := p) (by omega)) (fun M2 h2 => ?_)
      obtain ⟨hS2, hF2⟩ := h2
      rw [ok_zb1]
      refine ⟨M2, zl2_fo (fun _ => M2) (fun _ => nI 0) 0 M2 (fu_lt (by decide)) rfl rfl (fun i hi => by omega) ?_, ?_⟩
      · have hM2 := hS2.1
        have e2 : dnS (wy σ i).1 p 2 = (wy σ i).1 2 := dn_2 _ _
        simp (disch := omega) only [↓nx_q, zb0_s, zb1_s, zb2_s, zb3_s, zb4_s, zb5_s, zb6_s, zb7_s, zb8_s, zb9_s, zb10_s, zb11_s, zb12_s, zb13_s, zb14_s, q_lit, nI_add, pk_mul, e_cl, gi_in, gz_n0, gz_n1, e_gz, si_eq, si_ne, sa_eq, sa_ne, if_true, if_false, ↓reduceIte, k_ltT, k_ltF, k_leT, k_leF, k_eqT, k_eqF, k_m1lt, k_nm1, not_true_eq_false, not_false_eq_true, hM2, rw_ap, upd_rw, sa_sa, jn_l, jn_r, jn_4, jn_5, jn_6, jn_ul, jn_ur, jn_u4, jn_u5, jn_u6, e2]
      · refine ⟨_, rfl, by omega, ?_⟩
        rw [hw, fold_app]
        exact ⟨hS2, FrM_trans hF hF2⟩
    · rw [if_neg z] at hw
      simp (disch := omega) only [↓nx_q, zb0_s, zb1_s, zb2_s, zb3_s, zb4_s, zb5_s, zb6_s, zb7_s, zb8_s, zb9_s, zb10_s, zb11_s, zb12_s, zb13_s, zb14_s, q_lit, nI_add, pk_mul, e_cl, gi_in, gz_n0, gz_n1, e_gz, si_eq, si_ne, sa_eq, sa_ne, if_true, if_false, ↓reduceIte, k_ltT, k_ltF, k_leT, k_leF, k_eqT, k_eqF, k_m1lt, k_nm1, not_true_eq_false, not_false_eq_true, hM, rw_ap, upd_rw, sa_sa, jn_l, jn_r, jn_4, jn_5, jn_6, jn_ul, jn_ur, jn_u4, jn_u5, jn_u6, hlies, e_sub, hle, oI]
      generalize hτ : (wy σ i).1 = τ at *
      rw [ok_zb1]
      refine ⟨sa M' 0 (rw (jn (snkI τ (τ (32 + p)) (τ 2)) ((wy σ i).2.foldl pst x).1)), zl2_fo (fun j => sa M' 0 (rw (jn (snkI τ (τ (32 + p)) j) ((wy σ i).2.foldl pst x).1))) (fun j => nI j) (τ 2) _ (fu_lt (by omega)) ?_ rfl (fun j hj => ?_) ?_, ?_⟩
      · show M' = sa M' 0 (rw (jn τ _))
        rw [← hM, sa_self]
      · by_cases q : (τ 3).testBit j = true
        · have hbi := p3 j hj q
          have hdi := (hvi.2.2.2.2.2 j (by omega)).1
          simp (disch := omega) only [↓nx_q, zb0_s, zb1_s, zb2_s, zb3_s, zb4_s, zb5_s, zb6_s, zb7_s, zb8_s, zb9_s, zb10_s, zb11_s, zb12_s, zb13_s, zb14_s, q_lit, nI_add, pk_mul, e_cl, gi_in, gz_n0, gz_n1, e_gz, si_eq, si_ne, sa_eq, sa_ne, if_true, if_false, ↓reduceIte, k_ltT, k_ltF, k_leT, k_leF, k_eqT, k_eqF, k_m1lt, k_nm1, not_true_eq_false, not_false_eq_true, rw_ap, upd_rw, sa_sa, jn_l, jn_r, jn_4, jn_5, jn_6, jn_ul, jn_ur, jn_u4, jn_u5, jn_u6, snkI_fr, m_bitOf, if_pos q, e_sub, snkI_sT q]
        · simp (disch := omega) only [↓nx_q, zb0_s, zb1_s, zb2_s, zb3_s, zb4_s, zb5_s, zb6_s, zb7_s, zb8_s, zb9_s, zb10_s, zb11_s, zb12_s, zb13_s, zb14_s, q_lit, nI_add, pk_mul, e_cl, gi_in, gz_n0, gz_n1, e_gz, si_eq, si_ne, sa_eq, sa_ne, if_true, if_false, ↓reduceIte, k_ltT, k_ltF, k_leT, k_leF, k_eqT, k_eqF, k_m1lt, k_nm1, not_true_eq_false, not_false_eq_true, rw_ap, upd_rw, sa_sa, jn_l, jn_r, jn_4, jn_5, jn_6, jn_ul, jn_ur, jn_u4, jn_u5, jn_u6, snkI_fr, m_bitOf, if_neg q, snkI_sF q]
      · simp (disch := omega) only [↓nx_q, zb0_s, zb1_s, zb2_s, zb3_s, zb4_s, zb5_s, zb6_s, zb7_s, zb8_s, zb9_s, zb10_s, zb11_s, zb12_s, zb13_s, zb14_s, q_lit, nI_add, pk_mul, e_cl, gi_in, gz_n0, gz_n1, e_gz, si_eq, si_ne, sa_eq, sa_ne, if_true, if_false, ↓reduceIte, k_ltT, k_ltF, k_leT, k_leF, k_eqT, k_eqF, k_m1lt, k_nm1, not_true_eq_false, not_false_eq_true, rw_ap, upd_rw, sa_sa, jn_l, jn_r, jn_4, jn_5, jn_6, jn_ul, jn_ur, jn_u4, jn_u5, jn_u6, snkI_fr]
      · refine ⟨_, rfl, by omega, ?_⟩
        rw [hw]
        exact ⟨MS_set hS, FrM_trans hF (Fr_set _ _)⟩
