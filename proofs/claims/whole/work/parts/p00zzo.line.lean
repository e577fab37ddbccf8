/-- a line and its sign, both -/
theorem line_both {o d M : Ob} {τ t : Nat → Nat} {n a x k : Nat} (h : TS o M t n a x k) (hD : DR o d M τ) : (∃ o1 d1 o' M' τ' a' x' k', f_X6_readLine o d = some (o1, d1, nI 1) ∧ f_X6_take o1 (nI 59) = some (o', nI 1) ∧ f_X12_readsLine M = some (M', nI 1) ∧ TS o' M' t n a' x' k' ∧ DR o' d1 M' τ' ∧ a < a' ∧ FrL M M') ∨ (∃ o1 d1 M', f_X6_readLine o d = some (o1, d1, nI 0) ∧ f_X12_readsLine M = some (M', nI 0) ∧ LFt M o1 M') ∨ (∃ o1 d1 o' M', f_X6_readLine o d = some (o1, d1, nI 1) ∧ f_X6_take o1 (nI 59) = some (o', nI 0) ∧ f_X12_readsLine M = some (M', nI 0) ∧ LFt M o' M') := by
  have w0 := word0 h 0 0 4 (by decide)
  have w1 := word0 h 1 1 4 (by decide)
  have w2 := word0 h 2 2 4 (by decide)
  have hax := h.2.2.1.1
  have s0 := c_says0 h.1 h.2.2.1.2.1 h.2.2.1.2.2 h.2.2.2.1 h.2.2.1.1
  have s1 := c_says1 h.1 h.2.2.1.2.1 h.2.2.1.2.2 h.2.2.2.1 h.2.2.1.1
  have s2 := c_says2 h.1 h.2.2.1.2.1 h.2.2.1.2.2 h.2.2.2.1 h.2.2.1.1
  have go : ∀ (o1 d1 M1 : Ob) (τ1 : Nat → Nat) (a1 x1 k1 : Nat), f_X6_readLine o d = some (o1, d1, nI 1) → (∀ M2 r, f_X12_isSign M1 (nI 59) = some r → (r = nI 0 → M2 = FtM M1 1 → f_X12_readsLine M = some (M2, nI 0)) ∧ (r = nI 1 → f_X12_next M1 = some M2 → f_X12_readsLine M = some (M2, nI 1))) → TS o1 M1 t n a1 x1 k1 → DR o1 d1 M1 τ1 → x ≤ a1 → FrL M M1 → (∃ o1 d1 o' M' τ' a' x' k', f_X6_readLine o d = some (o1, d1, nI 1) ∧ f_X6_take o1 (nI 59) = some (o', nI 1) ∧ f_X12_readsLine M = some (M', nI 1) ∧ TS o' M' t n a' x' k' ∧ DR o' d1 M' τ' ∧ a < a' ∧ FrL M M') ∨ (∃ o1 d1 M', f_X6_readLine o d = some (o1, d1, nI 0) ∧ f_X12_readsLine M = some (M', nI 0) ∧ LFt M o1 M') ∨ (∃ o1 d1 o' M', f_X6_readLine o d = some (o1, d1, nI 1) ∧ f_X6_take o1 (nI 59) = some (o', nI 0) ∧ f_X12_readsLine M = some (M', nI 0) ∧ LFt M o' M') := by
    intro o1 d1 M1 τ1 a1 x1 k1 e1 e2 hT hDR hx hfr
    rcases sign_both hT (c := 59) (by decide) (by decide) with ⟨q, es, o', M', a', x', k', y1, y2, y3, y4, y5, y6⟩ | ⟨q, es, y1⟩
    · have hk1 := hT.2.2.2.2.2.1.2.2 (by omega)
      refine Or.inl ⟨o1, d1, o', M', τ1, a', x', k', e1, y1, (e2 M' _ es).2 rfl y2, y6, ?_, by omega, FrL_tr hfr (FrN_L y4)⟩
      obtain ⟨b1, b2, b3, b4, b5, b6, b7, b8, b9, c1, c2, c3⟩ := hDR
      have fn : ∀ j, j = 3 ∨ j = 13 ∨ j = 17 ∨ j = 18 → M' j = M1 j := fun j hj => y4 j (by omega) (by omega) (by omega) (by omega) (by omega) (by omega)
      refine ⟨by rw [fn 3 (by omega)]; exact b1, b2, b3, b4, b5, b6, b7, ?_, ?_, ?_, ?_, c3⟩
      · rw [y3 4 (by omega), y3 5 (by omega)]; exact b8
      · rw [y3 6 (by omega), fn 17 (by omega)]; exact b9
      · rw [y3 7 (by omega), fn 18 (by omega)]; exact c1
      · rw [y3 2 (by omega), fn 13 (by omega)]; exact c2
    · exact Or.inr (Or.inr ⟨o1, d1, FtC o1 1, FtM M1 1, e1, y1, (e2 _ _ es).1 rfl rfl, lft hT ⟨by decide, by decide⟩ hfr⟩)
  by_cases q0 : WdP t a x k 0 4
  · have s0 := s0.1 q0
    have w0 := w0.1 q0
    rcases room_both h hD with ⟨o', M', τ', a', x', k', e1, e2, y1, y2, y3, y4⟩ | ⟨o', M', e1, e2, y⟩
    · refine go o' d M' τ' a' x' k' ?_ (fun M2 r er => ⟨fun hr hM => ?_, fun hr hM => ?_⟩) y1 y2 y3 y4
      · unfold f_X6_readLine
        simp (maxSteps := 3000000) (disch := omega) only [↓nx_q, zb0_s, zb1_s, zb2_s, zb3_s, zb4_s, zb5_s, zb6_s, zb7_s, zb8_s, zb9_s, zb10_s, zb11_s, zb12_s, zb13_s, zb14_s, q_lit, nI_add, pk_mul, e_cl, gi_in, gz_n0, gz_n1, e_gz, si_eq, si_ne, sa_eq, sa_ne, if_true, if_false, ↓reduceIte, k_ltT, k_ltF, k_leT, k_leF, k_eqT, k_eqF, k_m1lt, k_nm1, not_true_eq_false, not_false_eq_true, s0, e1]
      · subst hr hM
        unfold f_X12_readsLine
        simp (maxSteps := 3000000) (disch := omega) only [↓nx_q, zb0_s, zb1_s, zb2_s, zb3_s, zb4_s, zb5_s, zb6_s, zb7_s, zb8_s, zb9_s, zb10_s, zb11_s, zb12_s, zb13_s, zb14_s, q_lit, nI_add, pk_mul, e_cl, gi_in, gz_n0, gz_n1, e_gz, si_eq, si_ne, sa_eq, sa_ne, if_true, if_false, ↓reduceIte, k_ltT, k_ltF, k_leT, k_leF, k_eqT, k_eqF, k_m1lt, k_nm1, not_true_eq_false, not_false_eq_true, w0, e2, er, m_badHere]
      · subst hr
        unfold f_X12_readsLine
        simp (maxSteps := 3000000) (disch := omega) only [↓nx_q, zb0_s, zb1_s, zb2_s, zb3_s, zb4_s, zb5_s, zb6_s, zb7_s, zb8_s, zb9_s, zb10_s, zb11_s, zb12_s, zb13_s, zb14_s, q_lit, nI_add, pk_mul, e_cl, gi_in, gz_n0, gz_n1, e_gz, si_eq, si_ne, sa_eq, sa_ne, if_true, if_false, ↓reduceIte, k_ltT, k_ltF, k_leT, k_leF, k_eqT, k_eqF, k_m1lt, k_nm1, not_true_eq_false, not_false_eq_true, w0, e2, er, hM]
    · refine Or.inr (Or.inl ⟨o', d, M', ?_, ?_, y⟩)
      · unfold f_X6_readLine
        simp (maxSteps := 3000000) (disch := omega) only [↓nx_q, zb0_s, zb1_s, zb2_s, zb3_s, zb4_s, zb5_s, zb6_s, zb7_s, zb8_s, zb9_s, zb10_s, zb11_s, zb12_s, zb13_s, zb14_s, q_lit, nI_add, pk_mul, e_cl, gi_in, gz_n0, gz_n1, e_gz, si_eq, si_ne, sa_eq, sa_ne, if_true, if_false, ↓reduceIte, k_ltT, k_ltF, k_leT, k_leF, k_eqT, k_eqF, k_m1lt, k_nm1, not_true_eq_false, not_false_eq_true, s0, e1]
      · unfold f_X12_readsLine
        simp (maxSteps := 3000000) (disch := omega) only [↓nx_q, zb0_s, zb1_s, zb2_s, zb3_s, zb4_s, zb5_s, zb6_s, zb7_s, zb8_s, zb9_s, zb10_s, zb11_s, zb12_s, zb13_s, zb14_s, q_lit, nI_add, pk_mul, e_cl, gi_in, gz_n0, gz_n1, e_gz, si_eq, si_ne, sa_eq, sa_ne, if_true, if_false, ↓reduceIte, k_ltT, k_ltF, k_leT, k_leF, k_eqT, k_eqF, k_m1lt, k_nm1, not_true_eq_false, not_false_eq_true, w0, e2]
  · have s0 := s0.2 q0
    have w0 := w0.2 q0
    by_cases q1 : WdP t a x k 1 4
    · have s1 := s1.1 q1
      have w1 := w1.1 q1
      rcases rule_both h hD with ⟨o', M', τ', a', x', k', e1, e2, y1, y2, y3, y4⟩ | ⟨o', M', e1, e2, y⟩
      · refine go o' d M' τ' a' x' k' ?_ (fun M2 r er => ⟨fun hr hM => ?_, fun hr hM => ?_⟩) y1 y2 y3 y4
        · unfold f_X6_readLine
          simp (maxSteps := 3000000) (disch := omega) only [↓nx_q, zb0_s, zb1_s, zb2_s, zb3_s, zb4_s, zb5_s, zb6_s, zb7_s, zb8_s, zb9_s, zb10_s, zb11_s, zb12_s, zb13_s, zb14_s, q_lit, nI_add, pk_mul, e_cl, gi_in, gz_n0, gz_n1, e_gz, si_eq, si_ne, sa_eq, sa_ne, if_true, if_false, ↓reduceIte, k_ltT, k_ltF, k_leT, k_leF, k_eqT, k_eqF, k_m1lt, k_nm1, not_true_eq_false, not_false_eq_true, s0, s1, e1]
        · subst hr hM
          unfold f_X12_readsLine
          simp (maxSteps := 3000000) (disch := omega) only [↓nx_q, zb0_s, zb1_s, zb2_s, zb3_s, zb4_s, zb5_s, zb6_s, zb7_s, zb8_s, zb9_s, zb10_s, zb11_s, zb12_s, zb13_s, zb14_s, q_lit, nI_add, pk_mul, e_cl, gi_in, gz_n0, gz_n1, e_gz, si_eq, si_ne, sa_eq, sa_ne, if_true, if_false, ↓reduceIte, k_ltT, k_ltF, k_leT, k_leF, k_eqT, k_eqF, k_m1lt, k_nm1, not_true_eq_false, not_false_eq_true, w0, w1, e2, er, m_badHere]
        · subst hr
          unfold f_X12_readsLine
          simp (maxSteps := 3000000) (disch := omega) only [↓nx_q, zb0_s, zb1_s, zb2_s, zb3_s, zb4_s, zb5_s, zb6_s, zb7_s, zb8_s, zb9_s, zb10_s, zb11_s, zb12_s, zb13_s, zb14_s, q_lit, nI_add, pk_mul, e_cl, gi_in, gz_n0, gz_n1, e_gz, si_eq, si_ne, sa_eq, sa_ne, if_true, if_false, ↓reduceIte, k_ltT, k_ltF, k_leT, k_leF, k_eqT, k_eqF, k_m1lt, k_nm1, not_true_eq_false, not_false_eq_true, w0, w1, e2, er, hM]
      · refine Or.inr (Or.inl ⟨o', d, M', ?_, ?_, y⟩)
        · unfold f_X6_readLine
          simp (maxSteps := 3000000) (disch := omega) only [↓nx_q, zb0_s, zb1_s, zb2_s, zb3_s, zb4_s, zb5_s, zb6_s, zb7_s, zb8_s, zb9_s, zb10_s, zb11_s, zb12_s, zb13_s, zb14_s, q_lit, nI_add, pk_mul, e_cl, gi_in, gz_n0, gz_n1, e_gz, si_eq, si_ne, sa_eq, sa_ne, if_true, if_false, ↓reduceIte, k_ltT, k_ltF, k_leT, k_leF, k_eqT, k_eqF, k_m1lt, k_nm1, not_true_eq_false, not_false_eq_true, s0, s1, e1]
        · unfold f_X12_readsLine
          simp (maxSteps := 3000000) (disch := omega) only [↓nx_q, zb0_s, zb1_s, zb2_s, zb3_s, zb4_s, zb5_s, zb6_s, zb7_s, zb8_s, zb9_s, zb10_s, zb11_s, zb12_s, zb13_s, zb14_s, q_lit, nI_add, pk_mul, e_cl, gi_in, gz_n0, gz_n1, e_gz, si_eq, si_ne, sa_eq, sa_ne, if_true, if_false, ↓reduceIte, k_ltT, k_ltF, k_leT, k_leF, k_eqT, k_eqF, k_m1lt, k_nm1, not_true_eq_false, not_false_eq_true, w0, w1, e2]
    · have s1 := s1.2 q1
      have w1 := w1.2 q1
      by_cases q2 : WdP t a x k 2 4
      · have s2 := s2.1 q2
        have w2 := w2.1 q2
        rcases item_both h hD with ⟨o', d', M', τ', a', x', k', e1, e2, y1, y2, y3, y4⟩ | ⟨o', d', M', e1, e2, y⟩
        · refine go o' d' M' τ' a' x' k' ?_ (fun M2 r er => ⟨fun hr hM => ?_, fun hr hM => ?_⟩) y1 y2 y3 y4
          · unfold f_X6_readLine
            simp (maxSteps := 3000000) (disch := omega) only [↓nx_q, zb0_s, zb1_s, zb2_s, zb3_s, zb4_s, zb5_s, zb6_s, zb7_s, zb8_s, zb9_s, zb10_s, zb11_s, zb12_s, zb13_s, zb14_s, q_lit, nI_add, pk_mul, e_cl, gi_in, gz_n0, gz_n1, e_gz, si_eq, si_ne, sa_eq, sa_ne, if_true, if_false, ↓reduceIte, k_ltT, k_ltF, k_leT, k_leF, k_eqT, k_eqF, k_m1lt, k_nm1, not_true_eq_false, not_false_eq_true, s0, s1, s2, e1]
          · subst hr hM
            unfold f_X12_readsLine
            simp (maxSteps := 3000000) (disch := omega) only [↓nx_q, zb0_s, zb1_s, zb2_s, zb3_s, zb4_s, zb5_s, zb6_s, zb7_s, zb8_s, zb9_s, zb10_s, zb11_s, zb12_s, zb13_s, zb14_s, q_lit, nI_add, pk_mul, e_cl, gi_in, gz_n0, gz_n1, e_gz, si_eq, si_ne, sa_eq, sa_ne, if_true, if_false, ↓reduceIte, k_ltT, k_ltF, k_leT, k_leF, k_eqT, k_eqF, k_m1lt, k_nm1, not_true_eq_false, not_false_eq_true, w0, w1, w2, e2, er, m_badHere]
          · subst hr
            unfold f_X12_readsLine
            simp (maxSteps := 3000000) (disch := omega) only [↓nx_q, zb0_s, zb1_s, zb2_s, zb3_s, zb4_s, zb5_s, zb6_s, zb7_s, zb8_s, zb9_s, zb10_s, zb11_s, zb12_s, zb13_s, zb14_s, q_lit, nI_add, pk_mul, e_cl, gi_in, gz_n0, gz_n1, e_gz, si_eq, si_ne, sa_eq, sa_ne, if_true, if_false, ↓reduceIte, k_ltT, k_ltF, k_leT, k_leF, k_eqT, k_eqF, k_m1lt, k_nm1, not_true_eq_false, not_false_eq_true, w0, w1, w2, e2, er, hM]
        · refine Or.inr (Or.inl ⟨o', d', M', ?_, ?_, y⟩)
          · unfold f_X6_readLine
            simp (maxSteps := 3000000) (disch := omega) only [↓nx_q, zb0_s, zb1_s, zb2_s, zb3_s, zb4_s, zb5_s, zb6_s, zb7_s, zb8_s, zb9_s, zb10_s, zb11_s, zb12_s, zb13_s, zb14_s, q_lit, nI_add, pk_mul, e_cl, gi_in, gz_n0, gz_n1, e_gz, si_eq, si_ne, sa_eq, sa_ne, if_true, if_false, ↓reduceIte, k_ltT, k_ltF, k_leT, k_leF, k_eqT, k_eqF, k_m1lt, k_nm1, not_true_eq_false, not_false_eq_true, s0, s1, s2, e1]
          · unfold f_X12_readsLine
            simp (maxSteps := 3000000) (disch := omega) only [↓nx_q, zb0_s, zb1_s, zb2_s, zb3_s, zb4_s, zb5_s, zb6_s, zb7_s, zb8_s, zb9_s, zb10_s, zb11_s, zb12_s, zb13_s, zb14_s, q_lit, nI_add, pk_mul, e_cl, gi_in, gz_n0, gz_n1, e_gz, si_eq, si_ne, sa_eq, sa_ne, if_true, if_false, ↓reduceIte, k_ltT, k_ltF, k_leT, k_leF, k_eqT, k_eqF, k_m1lt, k_nm1, not_true_eq_false, not_false_eq_true, w0, w1, w2, e2]
      · have s2 := s2.2 q2
        have w2 := w2.2 q2
        refine Or.inr (Or.inl ⟨FtC o 1, d, FtM M 1, ?_, ?_, lft h ⟨by decide, by decide⟩ (fun _ _ _ _ _ _ _ _ _ _ _ _ => rfl)⟩)
        · unfold f_X6_readLine
          simp (maxSteps := 3000000) (disch := omega) only [↓nx_q, zb0_s, zb1_s, zb2_s, zb3_s, zb4_s, zb5_s, zb6_s, zb7_s, zb8_s, zb9_s, zb10_s, zb11_s, zb12_s, zb13_s, zb14_s, q_lit, nI_add, pk_mul, e_cl, gi_in, gz_n0, gz_n1, e_gz, si_eq, si_ne, sa_eq, sa_ne, if_true, if_false, ↓reduceIte, k_ltT, k_ltF, k_leT, k_leF, k_eqT, k_eqF, k_m1lt, k_nm1, not_true_eq_false, not_false_eq_true, s0, s1, s2, c_fail]
        · unfold f_X12_readsLine
          simp (maxSteps := 3000000) (disch := omega) only [↓nx_q, zb0_s, zb1_s, zb2_s, zb3_s, zb4_s, zb5_s, zb6_s, zb7_s, zb8_s, zb9_s, zb10_s, zb11_s, zb12_s, zb13_s, zb14_s, q_lit, nI_add, pk_mul, e_cl, gi_in, gz_n0, gz_n1, e_gz, si_eq, si_ne, sa_eq, sa_ne, if_true, if_false, ↓reduceIte, k_ltT, k_ltF, k_leT, k_leF, k_eqT, k_eqF, k_m1lt, k_nm1, not_true_eq_false, not_false_eq_true, w0, w1, w2, m_badHere]
