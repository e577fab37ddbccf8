/-- the store's text, both -/
def FrT (M M' : Ob) : Prop := ∀ j, j ≠ 3 → (j < 7 ∨ 18 < j) → M' j = M j
theorem store_read {o d M : Ob} (h : RTape o M) : (∃ o' d' M' τ', f_X6_readStore o d = some (o', d', nI 1) ∧ f_X12_readsStore M = some (M', nI 1) ∧ DR o' d' M' τ' ∧ FrT M M' ∧ M' 7 0 = nI 0) ∨ (∃ o' d' M' f a, f_X6_readStore o d = some (o', d', nI 0) ∧ f_X12_readsStore M = some (M', nI 0) ∧ a ≤ 400 ∧ o' 2 0 = nI f ∧ o' 3 0 = nI a ∧ M' 13 0 = nI f ∧ M' 14 0 = nI a ∧ FrT M M' ∧ M' 7 0 = nI 0) := by
  have h' : RTape (si (si (si (si o 4 (nI 6)) 5 (nI 1)) 6 (nI 0)) 7 (nI 0)) M := by
    obtain ⟨n, t, a, b, c, e⟩ := h
    refine ⟨n, t, a, ?_, c, fun i hi => ?_⟩
    · simp (disch := omega) only [si_eq, si_ne, sa_eq, sa_ne, upd_eq, upd_ne, updN_eq, updN_ne]; exact b
    · simp (disch := omega) only [si_eq, si_ne, sa_eq, sa_ne, upd_eq, upd_ne, updN_eq, updN_ne]; exact e i hi
  rcases start_both h' with ⟨t, n, o1, M1, a, x, k, e1, e2, hT, fo, fm, m7, m13⟩ | ⟨o1, M1, e1, e2, p1, p2, p3, p4, p5, p6⟩
  · sorry
  · refine Or.inr ⟨o1, si d 0 (nI 0), M1, 1, 400, ?_, ?_, by decide, p1, p2, p3, p4, fun j a b => p6 j (by omega) (by omega) (by omega) (by omega), p5⟩
    · unfold f_X6_readStore
      simp (maxSteps := 3000000) (disch := omega) only [↓nx_q, zb0_s, zb1_s, zb2_s, zb3_s, zb4_s, zb5_s, zb6_s, zb7_s, zb8_s, zb9_s, zb10_s, zb11_s, zb12_s, zb13_s, zb14_s, q_lit, nI_add, pk_mul, e_cl, gi_in, gz_n0, gz_n1, e_gz, si_eq, si_ne, sa_eq, sa_ne, if_true, if_false, ↓reduceIte, k_ltT, k_ltF, k_leT, k_leF, k_eqT, k_eqF, k_m1lt, k_nm1, not_true_eq_false, not_false_eq_true, e1]
    · unfold f_X12_readsStore
      simp (maxSteps := 3000000) (disch := omega) only [↓nx_q, zb0_s, zb1_s, zb2_s, zb3_s, zb4_s, zb5_s, zb6_s, zb7_s, zb8_s, zb9_s, zb10_s, zb11_s, zb12_s, zb13_s, zb14_s, q_lit, nI_add, pk_mul, e_cl, gi_in, gz_n0, gz_n1, e_gz, si_eq, si_ne, sa_eq, sa_ne, if_true, if_false, ↓reduceIte, k_ltT, k_ltF, k_leT, k_leF, k_eqT, k_eqF, k_m1lt, k_nm1, not_true_eq_false, not_false_eq_true, e2]
