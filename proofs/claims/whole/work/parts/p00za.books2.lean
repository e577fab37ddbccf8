/-! ===== BOOKS: questions, opening ===== -/
theorem RC_book {V : Nat → Ob} {σ : Nat → Nat} (h : RC (fun i => V (3 + i)) σ) {k : Nat} (hk : k < 3) : RCb (V (7 + k)) σ k := by
  rcases (by omega : k = 0 ∨ k = 1 ∨ k = 2) with rfl | rfl | rfl
  · exact h.2.2.2.2.1
  · exact h.2.2.2.2.2.1
  · exact h.2.2.2.2.2.2
theorem m_isOpened {M : Ob} {σ : Nat → Nat} {k : Nat} (hM : M 0 = rw σ) (hk : k < 3) : (σ (544 + 7 * k) = 0 → f_X12_isOpened M (nI k) = some (nI 0)) ∧ (σ (544 + 7 * k) = 1 → f_X12_isOpened M (nI k) = some (nI 1)) := by
  have e := m_isInN (a := 0) (b := 2) (k := k) (by omega) (by decide) (by decide)
  rw [if_pos (by omega)] at e
  unfold f_X12_isOpened
  refine ⟨fun h => ?_, fun h => ?_⟩
  · simp (maxSteps := 3000000) (disch := omega) only [↓nx_q, zb0_s, zb1_s, zb2_s, zb3_s, zb4_s, zb5_s, zb6_s, zb7_s, zb8_s, zb9_s, zb10_s, zb11_s, zb12_s, zb13_s, zb14_s, q_lit, nI_add, pk_mul, e_cl, gi_in, gz_n0, gz_n1, e_gz, si_eq, si_ne, sa_eq, sa_ne, if_true, if_false, ↓reduceIte, k_ltT, k_ltF, k_leT, k_leF, k_eqT, k_eqF, k_m1lt, k_nm1, not_true_eq_false, not_false_eq_true, e, hM, rw_ap, upd_rw, sa_sa, jn_l, jn_r, jn_4, jn_5, jn_6, jn_ul, jn_ur, jn_u4, jn_u5, jn_u6]
  · simp (maxSteps := 3000000) (disch := omega) only [↓nx_q, zb0_s, zb1_s, zb2_s, zb3_s, zb4_s, zb5_s, zb6_s, zb7_s, zb8_s, zb9_s, zb10_s, zb11_s, zb12_s, zb13_s, zb14_s, q_lit, nI_add, pk_mul, e_cl, gi_in, gz_n0, gz_n1, e_gz, si_eq, si_ne, sa_eq, sa_ne, if_true, if_false, ↓reduceIte, k_ltT, k_ltF, k_leT, k_leF, k_eqT, k_eqF, k_m1lt, k_nm1, not_true_eq_false, not_false_eq_true, e, hM, rw_ap, upd_rw, sa_sa, jn_l, jn_r, jn_4, jn_5, jn_6, jn_ul, jn_ur, jn_u4, jn_u5, jn_u6]
theorem m_isOpenedO {M : Ob} {v : Int32} (h : v < 0 ∨ nI 3 ≤ v) : f_X12_isOpened M v = some (nI 0) := by
  have e := m_isInO (a := 0) (b := 2) (by decide) h (by decide)
  unfold f_X12_isOpened
  simp (maxSteps := 3000000) (disch := omega) only [↓nx_q, zb0_s, zb1_s, zb2_s, zb3_s, zb4_s, zb5_s, zb6_s, zb7_s, zb8_s, zb9_s, zb10_s, zb11_s, zb12_s, zb13_s, zb14_s, q_lit, nI_add, pk_mul, e_cl, gi_in, gz_n0, gz_n1, e_gz, si_eq, si_ne, sa_eq, sa_ne, if_true, if_false, ↓reduceIte, k_ltT, k_ltF, k_leT, k_leF, k_eqT, k_eqF, k_m1lt, k_nm1, not_true_eq_false, not_false_eq_true, e]
theorem R_booked : St_booked Rel := by
  intro V PK PI M v1 v2 hR
  obtain ⟨σ, g, fc, fm, hR⟩ := hR
  have hR0 := hR
  obtain ⟨⟨hM0, hW, hRC⟩, hGC, hGM, hHi, hPl, hO⟩ := hR0
  obtain ⟨r, e1, e2⟩ : ∃ r, f_X11_booked (V 7) (V 8) (V 9) v1 v2 = some r ∧ f_X12_booked M v1 v2 = some r := by
    rcases q_rng v1 (n := 3) (by decide) with ⟨k, hk, rfl⟩ | ho
    · have hb := RC_book hRC hk
      have ho := m_isOpened hM0 hk
      rcases (by omega : k = 0 ∨ k = 1 ∨ k = 2) with rfl | rfl | rfl
      all_goals
        rcases hb with ⟨h0, h1, h2⟩ | ⟨h0, h1, h2, h3, h4, h5, h6, h7, h8, h9, h10, h11⟩
        · have ho := ho.1 h0
          refine both_some ?_ ?_
          · unfold f_X11_booked f_X12_booked
            simp (maxSteps := 3000000) (disch := omega) only [↓nx_q, zb0_s, zb1_s, zb2_s, zb3_s, zb4_s, zb5_s, zb6_s, zb7_s, zb8_s, zb9_s, zb10_s, zb11_s, zb12_s, zb13_s, zb14_s, q_lit, nI_add, pk_mul, e_cl, gi_in, gz_n0, gz_n1, e_gz, si_eq, si_ne, sa_eq, sa_ne, if_true, if_false, ↓reduceIte, k_ltT, k_ltF, k_leT, k_leF, k_eqT, k_eqF, k_m1lt, k_nm1, not_true_eq_false, not_false_eq_true, Nat.add_zero, Nat.reduceAdd] at h1 ⊢
            simp (maxSteps := 3000000) (disch := omega) only [↓nx_q, zb0_s, zb1_s, zb2_s, zb3_s, zb4_s, zb5_s, zb6_s, zb7_s, zb8_s, zb9_s, zb10_s, zb11_s, zb12_s, zb13_s, zb14_s, q_lit, nI_add, pk_mul, e_cl, gi_in, gz_n0, gz_n1, e_gz, si_eq, si_ne, sa_eq, sa_ne, if_true, if_false, ↓reduceIte, k_ltT, k_ltF, k_leT, k_leF, k_eqT, k_eqF, k_m1lt, k_nm1, not_true_eq_false, not_false_eq_true, h1, ho]
          · unfold f_X11_booked
            simp (maxSteps := 3000000) (disch := omega) only [↓nx_q, zb0_s, zb1_s, zb2_s, zb3_s, zb4_s, zb5_s, zb6_s, zb7_s, zb8_s, zb9_s, zb10_s, zb11_s, zb12_s, zb13_s, zb14_s, q_lit, nI_add, pk_mul, e_cl, gi_in, gz_n0, gz_n1, e_gz, si_eq, si_ne, sa_eq, sa_ne, if_true, if_false, ↓reduceIte, k_ltT, k_ltF, k_leT, k_leF, k_eqT, k_eqF, k_m1lt, k_nm1, not_true_eq_false, not_false_eq_true, Nat.add_zero, Nat.reduceAdd] at h1 ⊢
            simp (maxSteps := 3000000) (disch := omega) only [↓nx_q, zb0_s, zb1_s, zb2_s, zb3_s, zb4_s, zb5_s, zb6_s, zb7_s, zb8_s, zb9_s, zb10_s, zb11_s, zb12_s, zb13_s, zb14_s, q_lit, nI_add, pk_mul, e_cl, gi_in, gz_n0, gz_n1, e_gz, si_eq, si_ne, sa_eq, sa_ne, if_true, if_false, ↓reduceIte, k_ltT, k_ltF, k_leT, k_leF, k_eqT, k_eqF, k_m1lt, k_nm1, not_true_eq_false, not_false_eq_true, h1, Option.isSome_some]
        · have ho := ho.2 h0
          simp only [Nat.add_zero, Nat.reduceAdd, Nat.mul_zero, Nat.reduceMul] at h1 h5 h6 h7 h8 h9 h10
          refine both_some ?_ ?_
          · unfold f_X11_booked f_X12_booked
            simp (maxSteps := 3000000) (disch := omega) only [↓nx_q, zb0_s, zb1_s, zb2_s, zb3_s, zb4_s, zb5_s, zb6_s, zb7_s, zb8_s, zb9_s, zb10_s, zb11_s, zb12_s, zb13_s, zb14_s, q_lit, nI_add, pk_mul, e_cl, gi_in, gz_n0, gz_n1, e_gz, si_eq, si_ne, sa_eq, sa_ne, if_true, if_false, ↓reduceIte, k_ltT, k_ltF, k_leT, k_leF, k_eqT, k_eqF, k_m1lt, k_nm1, not_true_eq_false, not_false_eq_true, h1, h5, h6, h7, h8, h9, h10, ho, hM0, rw_ap, upd_rw, sa_sa, jn_l, jn_r, jn_4, jn_5, jn_6, jn_ul, jn_ur, jn_u4, jn_u5, jn_u6, Nat.reduceAdd, Nat.reduceMul]
          · unfold f_X11_booked
            simp (maxSteps := 3000000) (disch := omega) only [↓nx_q, zb0_s, zb1_s, zb2_s, zb3_s, zb4_s, zb5_s, zb6_s, zb7_s, zb8_s, zb9_s, zb10_s, zb11_s, zb12_s, zb13_s, zb14_s, q_lit, nI_add, pk_mul, e_cl, gi_in, gz_n0, gz_n1, e_gz, si_eq, si_ne, sa_eq, sa_ne, if_true, if_false, ↓reduceIte, k_ltT, k_ltF, k_leT, k_leF, k_eqT, k_eqF, k_m1lt, k_nm1, not_true_eq_false, not_false_eq_true, h1]
            exact is_ite rfl (is_ite rfl (is_ite rfl (is_ite rfl (is_ite rfl (is_ite rfl rfl)))))
    · have hm := m_isOpenedO (M := M) ho
      refine both_some ?_ ?_
      · unfold f_X11_booked f_X12_booked
        rcases ho with h | h
        · simp (maxSteps := 3000000) (disch := omega) only [↓nx_q, zb0_s, zb1_s, zb2_s, zb3_s, zb4_s, zb5_s, zb6_s, zb7_s, zb8_s, zb9_s, zb10_s, zb11_s, zb12_s, zb13_s, zb14_s, q_lit, nI_add, pk_mul, e_cl, gi_in, gz_n0, gz_n1, e_gz, si_eq, si_ne, sa_eq, sa_ne, if_true, if_false, ↓reduceIte, k_ltT, k_ltF, k_leT, k_leF, k_eqT, k_eqF, k_m1lt, k_nm1, not_true_eq_false, not_false_eq_true, o_neg h, hm]
        · have := o_big (by decide) h
          simp (maxSteps := 3000000) (disch := omega) only [↓nx_q, zb0_s, zb1_s, zb2_s, zb3_s, zb4_s, zb5_s, zb6_s, zb7_s, zb8_s, zb9_s, zb10_s, zb11_s, zb12_s, zb13_s, zb14_s, q_lit, nI_add, pk_mul, e_cl, gi_in, gz_n0, gz_n1, e_gz, si_eq, si_ne, sa_eq, sa_ne, if_true, if_false, ↓reduceIte, k_ltT, k_ltF, k_leT, k_leF, k_eqT, k_eqF, k_m1lt, k_nm1, not_true_eq_false, not_false_eq_true, this.1, this.2.1, hm]
      · unfold f_X11_booked
        rcases ho with h | h
        · simp (maxSteps := 3000000) (disch := omega) only [↓nx_q, zb0_s, zb1_s, zb2_s, zb3_s, zb4_s, zb5_s, zb6_s, zb7_s, zb8_s, zb9_s, zb10_s, zb11_s, zb12_s, zb13_s, zb14_s, q_lit, nI_add, pk_mul, e_cl, gi_in, gz_n0, gz_n1, e_gz, si_eq, si_ne, sa_eq, sa_ne, if_true, if_false, ↓reduceIte, k_ltT, k_ltF, k_leT, k_leF, k_eqT, k_eqF, k_m1lt, k_nm1, not_true_eq_false, not_false_eq_true, o_neg h, Option.isSome_some]
        · have := o_big (by decide) h
          simp (maxSteps := 3000000) (disch := omega) only [↓nx_q, zb0_s, zb1_s, zb2_s, zb3_s, zb4_s, zb5_s, zb6_s, zb7_s, zb8_s, zb9_s, zb10_s, zb11_s, zb12_s, zb13_s, zb14_s, q_lit, nI_add, pk_mul, e_cl, gi_in, gz_n0, gz_n1, e_gz, si_eq, si_ne, sa_eq, sa_ne, if_true, if_false, ↓reduceIte, k_ltT, k_ltF, k_leT, k_leF, k_eqT, k_eqF, k_m1lt, k_nm1, not_true_eq_false, not_false_eq_true, this.1, this.2.1, Option.isSome_some]
  exact ⟨V, PK, PI, M, r, by unfold g_booked; rw [zb1_of e1], by unfold h_booked; rw [zb1_of e2], σ, g, fc, fm, hR⟩
