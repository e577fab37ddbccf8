/-- reading begins, both -/
theorem start_both {o M : Ob} (h : RTape o M) : (∃ t n o' M' a x k, f_X6_start o = some (o', nI 1) ∧ f_X12_takes M = some (M', nI 1) ∧ TS o' M' t n a x k ∧ FrC (si o 2 (nI 0)) o' ∧ (∀ j, j ≠ 7 → j ≠ 8 → j ≠ 9 → j ≠ 10 → j ≠ 11 → j ≠ 12 → j ≠ 13 → j ≠ 15 → j ≠ 16 → M' j = M j) ∧ M' 7 0 = nI 0 ∧ M' 13 0 = nI 0) ∨ (∃ o' M', f_X6_start o = some (o', nI 0) ∧ f_X12_takes M = some (M', nI 0) ∧ o' 2 0 = nI 1 ∧ o' 3 0 = nI 400 ∧ M' 13 0 = nI 1 ∧ M' 14 0 = nI 400 ∧ M' 7 0 = nI 0 ∧ ∀ j, j ≠ 7 → j ≠ 8 → j ≠ 13 → j ≠ 14 → M' j = M j) := by
  obtain ⟨n, t, hn, o1, m7, ht⟩ := h
  by_cases q : n ≤ 400
  · have hC : TpC (si (si o 2 (nI 0)) 15 (nI 0)) t n := by
      refine ⟨?_, q, fun i hi => ?_⟩
      · simp (disch := omega) only [si_eq, si_ne, sa_eq, sa_ne, upd_eq, upd_ne, updN_eq, updN_ne]; exact o1
      · simp (disch := omega) only [si_eq, si_ne, sa_eq, sa_ne, upd_eq, upd_ne, updN_eq, updN_ne]; exact ⟨(ht i hi).1, (ht i hi).2.1⟩
    have hM : TpM (si (si (si (si M 8 (nI n)) 7 (nI 0)) 13 (nI 0)) 9 (nI 0)) t n := by
      refine ⟨?_, q, fun i hi => ?_⟩
      · simp (disch := omega) only [si_eq, si_ne, sa_eq, sa_ne, upd_eq, upd_ne, updN_eq, updN_ne]
      · simp (disch := omega) only [si_eq, si_ne, sa_eq, sa_ne, upd_eq, upd_ne, updN_eq, updN_ne]; exact ⟨(ht i hi).1, (ht i hi).2.2⟩
    obtain ⟨o', M', a, x, k, e1, e2, f1, f2, -, hT⟩ := adv_at (p := 0) hC hM (by simp (disch := omega) only [si_eq, si_ne, sa_eq, sa_ne, upd_eq, upd_ne, updN_eq, updN_ne]) (by simp (disch := omega) only [si_eq, si_ne, sa_eq, sa_ne, upd_eq, upd_ne, updN_eq, updN_ne]) (Nat.zero_le _)
    refine Or.inl ⟨t, n, o', M', a, x, k, ?_, ?_, hT, fun j hj => ?_, fun j a b c d e f g h i => ?_, ?_, ?_⟩
    · unfold f_X6_start
      simp (maxSteps := 3000000) (disch := omega) only [↓nx_q, zb0_s, zb1_s, zb2_s, zb3_s, zb4_s, zb5_s, zb6_s, zb7_s, zb8_s, zb9_s, zb10_s, zb11_s, zb12_s, zb13_s, zb14_s, q_lit, nI_add, pk_mul, e_cl, gi_in, gz_n0, gz_n1, e_gz, si_eq, si_ne, sa_eq, sa_ne, if_true, if_false, ↓reduceIte, k_ltT, k_ltF, k_leT, k_leF, k_eqT, k_eqF, k_m1lt, k_nm1, not_true_eq_false, not_false_eq_true, o1, e1]
    · unfold f_X12_takes
      simp (maxSteps := 3000000) (disch := omega) only [↓nx_q, zb0_s, zb1_s, zb2_s, zb3_s, zb4_s, zb5_s, zb6_s, zb7_s, zb8_s, zb9_s, zb10_s, zb11_s, zb12_s, zb13_s, zb14_s, q_lit, nI_add, pk_mul, e_cl, gi_in, gz_n0, gz_n1, e_gz, si_eq, si_ne, sa_eq, sa_ne, if_true, if_false, ↓reduceIte, k_ltT, k_ltF, k_leT, k_leF, k_eqT, k_eqF, k_m1lt, k_nm1, not_true_eq_false, not_false_eq_true, m7, e2]
    · rw [f1 j hj]
      simp (disch := omega) only [si_eq, si_ne, sa_eq, sa_ne, upd_eq, upd_ne, updN_eq, updN_ne]
    · rw [f2 j c d e f h i]
      simp (disch := omega) only [si_eq, si_ne, sa_eq, sa_ne, upd_eq, upd_ne, updN_eq, updN_ne]
    · rw [f2 7 (by decide) (by decide) (by decide) (by decide) (by decide) (by decide)]
      simp (disch := omega) only [si_eq, si_ne, sa_eq, sa_ne, upd_eq, upd_ne, updN_eq, updN_ne]
    · rw [f2 13 (by decide) (by decide) (by decide) (by decide) (by decide) (by decide)]
      simp (disch := omega) only [si_eq, si_ne, sa_eq, sa_ne, upd_eq, upd_ne, updN_eq, updN_ne]
  · refine Or.inr ⟨FtC (si (si (si o 2 (nI 0)) 15 (nI 0)) 14 (nI 400)) 1, si (si (si (si (si M 8 (nI n)) 7 (nI 0)) 13 (nI 0)) 13 (nI 1)) 14 (nI 400), ?_, ?_, ?_, ?_, ?_, ?_, ?_, fun j a b c d => ?_⟩
    · unfold f_X6_start
      simp (maxSteps := 3000000) (disch := omega) only [↓nx_q, zb0_s, zb1_s, zb2_s, zb3_s, zb4_s, zb5_s, zb6_s, zb7_s, zb8_s, zb9_s, zb10_s, zb11_s, zb12_s, zb13_s, zb14_s, q_lit, nI_add, pk_mul, e_cl, gi_in, gz_n0, gz_n1, e_gz, si_eq, si_ne, sa_eq, sa_ne, if_true, if_false, ↓reduceIte, k_ltT, k_ltF, k_leT, k_leF, k_eqT, k_eqF, k_m1lt, k_nm1, not_true_eq_false, not_false_eq_true, o1, c_fail]
    · unfold f_X12_takes f_X12_bad
      simp (maxSteps := 3000000) (disch := omega) only [↓nx_q, zb0_s, zb1_s, zb2_s, zb3_s, zb4_s, zb5_s, zb6_s, zb7_s, zb8_s, zb9_s, zb10_s, zb11_s, zb12_s, zb13_s, zb14_s, q_lit, nI_add, pk_mul, e_cl, gi_in, gz_n0, gz_n1, e_gz, si_eq, si_ne, sa_eq, sa_ne, if_true, if_false, ↓reduceIte, k_ltT, k_ltF, k_leT, k_leF, k_eqT, k_eqF, k_m1lt, k_nm1, not_true_eq_false, not_false_eq_true, m7]
    · unfold FtC
      simp (disch := omega) only [si_eq, si_ne, sa_eq, sa_ne, upd_eq, upd_ne, updN_eq, updN_ne]
    · unfold FtC
      simp (disch := omega) only [si_eq, si_ne, sa_eq, sa_ne, upd_eq, upd_ne, updN_eq, updN_ne]
    · simp (disch := omega) only [si_eq, si_ne, sa_eq, sa_ne, upd_eq, upd_ne, updN_eq, updN_ne]
    · simp (disch := omega) only [si_eq, si_ne, sa_eq, sa_ne, upd_eq, upd_ne, updN_eq, updN_ne]
    · simp (disch := omega) only [si_eq, si_ne, sa_eq, sa_ne, upd_eq, upd_ne, updN_eq, updN_ne]
    · simp (disch := omega) only [si_eq, si_ne, sa_eq, sa_ne, upd_eq, upd_ne, updN_eq, updN_ne]
