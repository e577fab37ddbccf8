def FrL (M M' : Ob) : Prop := ∀ j, j ≠ 3 → j ≠ 9 → j ≠ 10 → j ≠ 11 → j ≠ 12 → j ≠ 13 → j ≠ 14 → j ≠ 15 → j ≠ 16 → j ≠ 17 → j ≠ 18 → M' j = M j
theorem FrN_L {M M' : Ob} (h : FrN M M') : FrL M M' := fun j _ a b c d _ _ e f _ _ => h j a b c d e f
theorem FrL_tr {M M' M2 : Ob} (h : FrL M M') (g : FrL M' M2) : FrL M M2 := fun j a b c d e f k l m n p => (g j a b c d e f k l m n p).trans (h j a b c d e f k l m n p)
theorem packN_cg {τ τ' : Nat → Nat} {j : Nat} (h : ∀ i, i < 6 → τ' (56 + 6 * j + i) = τ (56 + 6 * j + i)) : packN τ' j = packN τ j := by
  have h0 := h 0 (by decide)
  rw [Nat.add_zero] at h0
  unfold packN
  rw [h0, h 1 (by decide), h 2 (by decide), h 3 (by decide), h 4 (by decide), h 5 (by decide)]
/-- room or rule told -/
theorem DR_01 {o o' d M M' : Ob} {τ τ' : Nat → Nat} (h : DR o d M τ) (e : ∀ j, j ≠ 0 → j ≠ 1 → τ' j = τ j) (h3 : M' 3 = rw τ') (h0 : 1 ≤ τ' 0 ∧ τ' 0 ≤ 20) (h1 : τ' 1 ≤ 2) (ho : o' 4 0 = nI (τ' 0) ∧ o' 5 0 = nI (τ' 1)) (h6 : ∃ b, b ≤ 1 ∧ o' 6 0 = nI b ∧ M' 17 0 = nI b) (h7 : ∃ b, b ≤ 1 ∧ o' 7 0 = nI b ∧ M' 18 0 = nI b) (h2 : o' 2 0 = nI 0 ∧ M' 13 0 = nI 0) : DR o' d M' τ' := by
  obtain ⟨a1, a2, a3, a4, a5, a6, a7, a8, a9, b1, b2, b3⟩ := h
  have e2 := e 2 (by decide) (by decide)
  refine ⟨h3, by rw [e2]; exact a2, ⟨by rw [e2]; exact a3.1, fun k hk => ?_⟩, fun k hk => ?_, fun k hk => ?_, h0, h1, ho, h6, h7, h2, fun k hk => ?_⟩
  · rw [e2] at hk
    rw [e (8 + k) (by omega) (by omega), e (16 + k) (by omega) (by omega), e (24 + k) (by omega) (by omega), packN_cg (fun i hi => e _ (by omega) (by omega))]
    exact a3.2 k hk
  · rw [e2] at hk
    rw [e (8 + k) (by omega) (by omega), e (16 + k) (by omega) (by omega), e (24 + k) (by omega) (by omega)]
    exact a4 k hk
  · rw [e2] at hk
    rw [e (56 + 6 * k) (by omega) (by omega)]
    refine ⟨(a5 k hk).1, fun i hi => ?_⟩
    rw [e (56 + 6 * k + i) (by omega) (by omega)]
    exact (a5 k hk).2 i hi
  · rw [e2]
    by_cases q : k < 3
    · exact Or.inl (Or.inl q)
    · rw [e k (by omega) (by omega)]
      exact b3 k hk
theorem room_both {o d M : Ob} {τ t : Nat → Nat} {n a x k : Nat} (h : TS o M t n a x k) (hD : DR o d M τ) : (∃ o' M' τ' a' x' k', f_X6_readRoom o = some (o', nI 1) ∧ f_X12_roomLine M = some (M', nI 1) ∧ TS o' M' t n a' x' k' ∧ DR o' d M' τ' ∧ x ≤ a' ∧ FrL M M') ∨ (∃ o' M', f_X6_readRoom o = some (o', nI 0) ∧ f_X12_roomLine M = some (M', nI 0) ∧ LFt M o' M') := by
  have hD0 := hD
  obtain ⟨a1, a2, a3, a4, a5, a6, a7, a8, ⟨b, hb, b6, b17⟩, b7, b2, b3⟩ := hD
  by_cases q : b = 0
  · subst q
    have h1 : TS (si o 6 (nI 1)) (si M 17 (nI 1)) t n a x k := by
      refine TS_fr h ?_ ?_ ?_ ?_ ?_ ?_ ?_ ?_ ?_ ?_ ?_ ?_ ?_ ?_ <;> simp (disch := omega) only [si_eq, si_ne, sa_eq, sa_ne, upd_eq, upd_ne, updN_eq, updN_ne]
    obtain ⟨o2, M2, a', x', k', e1, e2, f1, f2, hx, h2⟩ := adv_both h1
    have fr2 : FrL M M2 := FrL_tr (M' := si M 17 (nI 1)) (fun j a b c d e f k l m n p => by simp (disch := omega) only [si_eq, si_ne, sa_eq, sa_ne, upd_eq, upd_ne, updN_eq, updN_ne]) (FrN_L f2)
    rcases num_both h2 (lo := 1) (hi := 20) (by decide) (by decide) with ⟨v, o3, M3, a3', x3, k3, v1, v2, et, en, ev, ea, -, g1, -, hx3, -⟩ | ⟨f, g1, g2, et, en⟩
    · have h2' : TS o2 (sa M2 3 (upd (M2 3) 0 (nI v))) t n a' x' k' := by
        refine TS_fr h2 rfl rfl rfl rfl rfl rfl ?_ ?_ ?_ ?_ ?_ ?_ ?_ ?_ <;> simp (disch := omega) only [si_eq, si_ne, sa_eq, sa_ne, upd_eq, upd_ne, updN_eq, updN_ne]
      obtain ⟨o4, M4, a4', x4, k4, e3, e4, f3, f4, hx4, h4⟩ := adv_both h2'
      have eo : o4 = o3 := Option.some.inj (e3.symm.trans ea)
      subst eo
      have hm3 : M2 3 = rw τ := by rw [f2 3 (by decide) (by decide) (by decide) (by decide) (by decide) (by decide)]; simp (disch := omega) only [si_eq, si_ne, sa_eq, sa_ne, upd_eq, upd_ne, updN_eq, updN_ne]; exact a1
      have hne : (nI v = -nI 1) = False := k_nm1 (by omega)
      refine Or.inl ⟨si o4 4 (nI v), M4, updN τ 0 v, a4', x4, k4, ?_, ?_, ?_, ?_, by have := h2.2.2.1.1; omega, ?_⟩
      · unfold f_X6_readRoom
        simp (maxSteps := 3000000) (disch := omega) only [↓nx_q, zb0_s, zb1_s, zb2_s, zb3_s, zb4_s, zb5_s, zb6_s, zb7_s, zb8_s, zb9_s, zb10_s, zb11_s, zb12_s, zb13_s, zb14_s, q_lit, nI_add, pk_mul, e_cl, gi_in, gz_n0, gz_n1, e_gz, si_eq, si_ne, sa_eq, sa_ne, if_true, if_false, ↓reduceIte, k_ltT, k_ltF, k_leT, k_leF, k_eqT, k_eqF, k_m1lt, k_nm1, not_true_eq_false, not_false_eq_true, b6, e1, et, hne]
      · unfold f_X12_roomLine
        simp (maxSteps := 3000000) (disch := omega) only [↓nx_q, zb0_s, zb1_s, zb2_s, zb3_s, zb4_s, zb5_s, zb6_s, zb7_s, zb8_s, zb9_s, zb10_s, zb11_s, zb12_s, zb13_s, zb14_s, q_lit, nI_add, pk_mul, e_cl, gi_in, gz_n0, gz_n1, e_gz, si_eq, si_ne, sa_eq, sa_ne, if_true, if_false, ↓reduceIte, k_ltT, k_ltF, k_leT, k_leF, k_eqT, k_eqF, k_m1lt, k_nm1, not_true_eq_false, not_false_eq_true, b17, e2, en, ev, e4]
      · refine TS_fr h4 ?_ ?_ ?_ ?_ ?_ ?_ rfl rfl rfl rfl rfl rfl rfl rfl <;> simp (disch := omega) only [si_eq, si_ne, sa_eq, sa_ne, upd_eq, upd_ne, updN_eq, updN_ne]
      · refine DR_01 hD0 (fun j x y => updN_ne x) ?_ ?_ ?_ ⟨?_, ?_⟩ ⟨1, by decide, ?_, ?_⟩ ?_ ⟨?_, ?_⟩
        · rw [f4 3 (by decide) (by decide) (by decide) (by decide) (by decide) (by decide), sa_eq, hm3, upd_rw]
        · rw [updN_eq]; exact ⟨v1, v2⟩
        · rw [updN_ne (by decide)]; exact a7
        · rw [si_eq, updN_eq]
        · rw [si_ne (by decide), f3 5 (by omega), f1 5 (by omega), si_ne (by decide), updN_ne (by decide)]; exact a8.2
        · rw [si_ne (by decide), f3 6 (by omega), f1 6 (by omega), si_eq]
        · rw [f4 17 (by decide) (by decide) (by decide) (by decide) (by decide) (by decide), sa_ne (by decide), f2 17 (by decide) (by decide) (by decide) (by decide) (by decide) (by decide), si_eq]
        · obtain ⟨b', c1, c2, c3⟩ := b7
          refine ⟨b', c1, ?_, ?_⟩
          · rw [si_ne (by decide), f3 7 (by omega), f1 7 (by omega), si_ne (by decide)]; exact c2
          · rw [f4 18 (by decide) (by decide) (by decide) (by decide) (by decide) (by decide), sa_ne (by decide), f2 18 (by decide) (by decide) (by decide) (by decide) (by decide) (by decide), si_ne (by decide)]; exact c3
        · rw [si_ne (by decide), f3 2 (by omega), f1 2 (by omega), si_ne (by decide)]; exact b2.1
        · rw [f4 13 (by decide) (by decide) (by decide) (by decide) (by decide) (by decide), sa_ne (by decide), f2 13 (by decide) (by decide) (by decide) (by decide) (by decide) (by decide), si_ne (by decide)]; exact b2.2
      · refine FrL_tr fr2 (FrL_tr (M' := sa M2 3 (upd (M2 3) 0 (nI v))) (fun j a b c d e f k l m n p => ?_) (FrN_L f4))
        simp (disch := omega) only [si_eq, si_ne, sa_eq, sa_ne, upd_eq, upd_ne, updN_eq, updN_ne]
    · refine Or.inr ⟨si (FtC o2 f) 4 (-nI 1), FtM M2 f, ?_, ?_, ?_⟩
      · unfold f_X6_readRoom
        simp (maxSteps := 3000000) (disch := omega) only [↓nx_q, zb0_s, zb1_s, zb2_s, zb3_s, zb4_s, zb5_s, zb6_s, zb7_s, zb8_s, zb9_s, zb10_s, zb11_s, zb12_s, zb13_s, zb14_s, q_lit, nI_add, pk_mul, e_cl, gi_in, gz_n0, gz_n1, e_gz, si_eq, si_ne, sa_eq, sa_ne, if_true, if_false, ↓reduceIte, k_ltT, k_ltF, k_leT, k_leF, k_eqT, k_eqF, k_m1lt, k_nm1, not_true_eq_false, not_false_eq_true, b6, e1, et]
      · unfold f_X12_roomLine
        simp (maxSteps := 3000000) (disch := omega) only [↓nx_q, zb0_s, zb1_s, zb2_s, zb3_s, zb4_s, zb5_s, zb6_s, zb7_s, zb8_s, zb9_s, zb10_s, zb11_s, zb12_s, zb13_s, zb14_s, q_lit, nI_add, pk_mul, e_cl, gi_in, gz_n0, gz_n1, e_gz, si_eq, si_ne, sa_eq, sa_ne, if_true, if_false, ↓reduceIte, k_ltT, k_ltF, k_leT, k_leF, k_eqT, k_eqF, k_m1lt, k_nm1, not_true_eq_false, not_false_eq_true, b17, e2, en]
      · obtain ⟨f', y, c1, c2, c3, c4, c5, c6, c7, c8⟩ := lft h2 ⟨g1, by omega⟩ fr2
        refine ⟨f', y, c1, c2, c3, ?_, ?_, c6, c7, c8⟩
        · rw [si_ne (by decide)]; exact c4
        · rw [si_ne (by decide)]; exact c5
  · have q1 : b = 1 := by omega
    subst q1
    refine Or.inr ⟨FtC o 3, FtM M 3, ?_, ?_, lft h ⟨by decide, by decide⟩ (fun _ _ _ _ _ _ _ _ _ _ _ _ => rfl)⟩
    · unfold f_X6_readRoom
      simp (maxSteps := 3000000) (disch := omega) only [↓nx_q, zb0_s, zb1_s, zb2_s, zb3_s, zb4_s, zb5_s, zb6_s, zb7_s, zb8_s, zb9_s, zb10_s, zb11_s, zb12_s, zb13_s, zb14_s, q_lit, nI_add, pk_mul, e_cl, gi_in, gz_n0, gz_n1, e_gz, si_eq, si_ne, sa_eq, sa_ne, if_true, if_false, ↓reduceIte, k_ltT, k_ltF, k_leT, k_leF, k_eqT, k_eqF, k_m1lt, k_nm1, not_true_eq_false, not_false_eq_true, b6, c_fail]
    · unfold f_X12_roomLine
      simp (maxSteps := 3000000) (disch := omega) only [↓nx_q, zb0_s, zb1_s, zb2_s, zb3_s, zb4_s, zb5_s, zb6_s, zb7_s, zb8_s, zb9_s, zb10_s, zb11_s, zb12_s, zb13_s, zb14_s, q_lit, nI_add, pk_mul, e_cl, gi_in, gz_n0, gz_n1, e_gz, si_eq, si_ne, sa_eq, sa_ne, if_true, if_false, ↓reduceIte, k_ltT, k_ltF, k_leT, k_leF, k_eqT, k_eqF, k_m1lt, k_nm1, not_true_eq_false, not_false_eq_true, b17, m_badHere]
