theorem kM_0 {k : Nat} : kM k = 0 ↔ k = 1 := by
  unfold kM
  split
  · omega
  · split
    · omega
    · split
      · omega
      · split <;> omega
/-- all lines, both -/
theorem lines_both {t : Nat → Nat} {n : Nat} {BC : Ob → Ob → Int32 → Option ((Ob × Ob × Int32) ⊕ ((Ob × Ob) ⊕ (Ob × Ob × Int32)))} {BM : Ob → Option (Ob ⊕ (Ob ⊕ (Ob × Int32)))} (hBC : ∀ (o24 o25 : Ob) (k26 : Int32), BC o24 o25 k26 = (
  if (400 : Int32) ≤ k26 then (
  some (.inr (.inl (o24, o25)))
  ) else (
  if o24 13 0 = (1 : Int32) then (
  some (.inr (.inl (o24, o25)))
  ) else (
  zb3 (f_X6_readLine o24 o25) fun (o31 : Ob) (o32 : Ob) (r33 : Int32) =>
  if r33 = 0 then (
  some (.inr (.inr (o31, o32, (0 : Int32))))
  ) else (
  zb2 (f_X6_take o31 (59 : Int32)) fun (o35 : Ob) (r36 : Int32) =>
  if r36 = 0 then (
  some (.inr (.inr (o35, o32, (0 : Int32))))
  ) else (
  nx (k26 + (1 : Int32)) fun x38 =>
  some (.inl (o35, o32, x38))
  )
  )
  )
  ))) (hBM : ∀ o25 : Ob, BM o25 = (
  if o25 11 0 = 0 then (
  some (.inr (.inr (o25, (1 : Int32))))
  ) else (
  zb2 (f_X12_readsLine o25) fun (o29 : Ob) (r30 : Int32) =>
  if r30 = 0 then (
  some (.inr (.inl o29))
  ) else (
  some (.inl o29)
  )
  ))) : ∀ (N : Nat) (o d M : Ob) (τ : Nat → Nat) (a x k i : Nat), TS o M t n a x k → DR o d M τ → i ≤ a → n - a ≤ N → (∃ o' d' M' τ', (∀ F, N < F → zl3 BC F o d (nI i) = some (.inl (o', d'))) ∧ (∀ F, N < F → zl1 BM F M = some (.inr (M', nI 1))) ∧ DR o' d' M' τ' ∧ FrL M M' ∧ (∃ a x k, TS o' M' t n a x k)) ∨ (∃ o' d' M', (∀ F, N < F → zl3 BC F o d (nI i) = some (.inr (o', d', nI 0))) ∧ (∀ F, N < F → zl1 BM F M = some (.inl M')) ∧ LFt M o' M') := by
  intro N
  induction N with
  | zero =>
    intro o d M τ a x k i h hD hi hN
    have hn := h.1.2.1
    have e13 := h.2.2.2.1.2.2.1
    have e11 := h.2.2.2.2.1.2.2.1
    have hk : k = 1 := by
      refine Classical.byContradiction fun y => ?_
      have := h.2.2.2.2.2.1.2.2 y
      have := h.2.2.1.2.1
      omega
    subst hk
    have ec : BC o d (nI i) = some (.inr (.inl (o, d))) := by
      rw [hBC]
      by_cases q : 400 ≤ i
      · have := h.2.2.1
        simp (maxSteps := 3000000) (disch := omega) only [↓nx_q, zb0_s, zb1_s, zb2_s, zb3_s, zb4_s, zb5_s, zb6_s, zb7_s, zb8_s, zb9_s, zb10_s, zb11_s, zb12_s, zb13_s, zb14_s, q_lit, nI_add, pk_mul, e_cl, gi_in, gz_n0, gz_n1, e_gz, si_eq, si_ne, sa_eq, sa_ne, if_true, if_false, ↓reduceIte, k_ltT, k_ltF, k_leT, k_leF, k_eqT, k_eqF, k_m1lt, k_nm1, not_true_eq_false, not_false_eq_true]
      · simp (maxSteps := 3000000) (disch := omega) only [↓nx_q, zb0_s, zb1_s, zb2_s, zb3_s, zb4_s, zb5_s, zb6_s, zb7_s, zb8_s, zb9_s, zb10_s, zb11_s, zb12_s, zb13_s, zb14_s, q_lit, nI_add, pk_mul, e_cl, gi_in, gz_n0, gz_n1, e_gz, si_eq, si_ne, sa_eq, sa_ne, if_true, if_false, ↓reduceIte, k_ltT, k_ltF, k_leT, k_leF, k_eqT, k_eqF, k_m1lt, k_nm1, not_true_eq_false, not_false_eq_true, e13]
    have em : BM M = some (.inr (.inr (M, nI 1))) := by
      rw [hBM]
      have e11' : M 11 0 = nI 0 := e11
      simp (maxSteps := 3000000) (disch := omega) only [↓nx_q, zb0_s, zb1_s, zb2_s, zb3_s, zb4_s, zb5_s, zb6_s, zb7_s, zb8_s, zb9_s, zb10_s, zb11_s, zb12_s, zb13_s, zb14_s, q_lit, nI_add, pk_mul, e_cl, gi_in, gz_n0, gz_n1, e_gz, si_eq, si_ne, sa_eq, sa_ne, if_true, if_false, ↓reduceIte, k_ltT, k_ltF, k_leT, k_leF, k_eqT, k_eqF, k_m1lt, k_nm1, not_true_eq_false, not_false_eq_true, e11']
    refine Or.inl ⟨o, d, M, τ, fun F hF => ?_, fun F hF => ?_, hD, fun _ _ _ _ _ _ _ _ _ _ _ _ => rfl, a, x, _, h⟩
    · obtain ⟨F', rfl⟩ : ∃ F', F = F' + 1 := ⟨F - 1, by omega⟩
      exact zl3_o ec
    · obtain ⟨F', rfl⟩ : ∃ F', F = F' + 1 := ⟨F - 1, by omega⟩
      exact zl1_o em
  | succ N ih =>
    intro o d M τ a x k i h hD hi hN
    have hn := h.1.2.1
    have e13 := h.2.2.2.1.2.2.1
    have e11 := h.2.2.2.2.1.2.2.1
    have hk256 := h.2.2.1.2.2
    by_cases hk : k = 1
    · subst hk
      have ec : BC o d (nI i) = some (.inr (.inl (o, d))) := by
        rw [hBC]
        by_cases q : 400 ≤ i
        · have := h.2.2.1
          simp (maxSteps := 3000000) (disch := omega) only [↓nx_q, zb0_s, zb1_s, zb2_s, zb3_s, zb4_s, zb5_s, zb6_s, zb7_s, zb8_s, zb9_s, zb10_s, zb11_s, zb12_s, zb13_s, zb14_s, q_lit, nI_add, pk_mul, e_cl, gi_in, gz_n0, gz_n1, e_gz, si_eq, si_ne, sa_eq, sa_ne, if_true, if_false, ↓reduceIte, k_ltT, k_ltF, k_leT, k_leF, k_eqT, k_eqF, k_m1lt, k_nm1, not_true_eq_false, not_false_eq_true]
        · simp (maxSteps := 3000000) (disch := omega) only [↓nx_q, zb0_s, zb1_s, zb2_s, zb3_s, zb4_s, zb5_s, zb6_s, zb7_s, zb8_s, zb9_s, zb10_s, zb11_s, zb12_s, zb13_s, zb14_s, q_lit, nI_add, pk_mul, e_cl, gi_in, gz_n0, gz_n1, e_gz, si_eq, si_ne, sa_eq, sa_ne, if_true, if_false, ↓reduceIte, k_ltT, k_ltF, k_leT, k_leF, k_eqT, k_eqF, k_m1lt, k_nm1, not_true_eq_false, not_false_eq_true, e13]
      have em : BM M = some (.inr (.inr (M, nI 1))) := by
        rw [hBM]
        have e11' : M 11 0 = nI 0 := e11
        simp (maxSteps := 3000000) (disch := omega) only [↓nx_q, zb0_s, zb1_s, zb2_s, zb3_s, zb4_s, zb5_s, zb6_s, zb7_s, zb8_s, zb9_s, zb10_s, zb11_s, zb12_s, zb13_s, zb14_s, q_lit, nI_add, pk_mul, e_cl, gi_in, gz_n0, gz_n1, e_gz, si_eq, si_ne, sa_eq, sa_ne, if_true, if_false, ↓reduceIte, k_ltT, k_ltF, k_leT, k_leF, k_eqT, k_eqF, k_m1lt, k_nm1, not_true_eq_false, not_false_eq_true, e11']
      refine Or.inl ⟨o, d, M, τ, fun F hF => ?_, fun F hF => ?_, hD, fun _ _ _ _ _ _ _ _ _ _ _ _ => rfl, a, x, _, h⟩
      · obtain ⟨F', rfl⟩ : ∃ F', F = F' + 1 := ⟨F - 1, by omega⟩
        exact zl3_o ec
      · obtain ⟨F', rfl⟩ : ∃ F', F = F' + 1 := ⟨F - 1, by omega⟩
        exact zl1_o em
    · have hax := h.2.2.2.2.2.1.2.2 hk
      have hxn := h.2.2.1.2.1
      have k4 := kM_le k
      have hkM : kM k ≠ 0 := fun e => hk (kM_0.mp e)
      rcases line_both h hD with ⟨o1, d1, o', M', τ', a', x', k', y1, y2, y3, y4, y5, y6, y7⟩ | ⟨o1, d1, M', y1, y3, y⟩ | ⟨o1, d1, o', M', y1, y2, y3, y⟩
      · have ec : BC o d (nI i) = some (.inl (o', d1, nI (i + 1))) := by
          rw [hBC]
          simp (maxSteps := 3000000) (disch := omega) only [↓nx_q, zb0_s, zb1_s, zb2_s, zb3_s, zb4_s, zb5_s, zb6_s, zb7_s, zb8_s, zb9_s, zb10_s, zb11_s, zb12_s, zb13_s, zb14_s, q_lit, nI_add, pk_mul, e_cl, gi_in, gz_n0, gz_n1, e_gz, si_eq, si_ne, sa_eq, sa_ne, if_true, if_false, ↓reduceIte, k_ltT, k_ltF, k_leT, k_leF, k_eqT, k_eqF, k_m1lt, k_nm1, not_true_eq_false, not_false_eq_true, e13, y1, y2]
        have em : BM M = some (.inl M') := by
          rw [hBM]
          simp (maxSteps := 3000000) (disch := omega) only [↓nx_q, zb0_s, zb1_s, zb2_s, zb3_s, zb4_s, zb5_s, zb6_s, zb7_s, zb8_s, zb9_s, zb10_s, zb11_s, zb12_s, zb13_s, zb14_s, q_lit, nI_add, pk_mul, e_cl, gi_in, gz_n0, gz_n1, e_gz, si_eq, si_ne, sa_eq, sa_ne, if_true, if_false, ↓reduceIte, k_ltT, k_ltF, k_leT, k_leF, k_eqT, k_eqF, k_m1lt, k_nm1, not_true_eq_false, not_false_eq_true, e11, y3]
        rcases ih o' d1 M' τ' a' x' k' (i + 1) y4 y5 (by omega) (by omega) with ⟨o2, d2, M2, τ2, z1, z2, z3, z4, z5⟩ | ⟨o2, d2, M2, z1, z2, f, b, c1, c2, c3, c4, c5, c6, c7, c8⟩
        · refine Or.inl ⟨o2, d2, M2, τ2, fun F hF => ?_, fun F hF => ?_, z3, FrL_tr y7 z4, z5⟩
          · obtain ⟨F', rfl⟩ : ∃ F', F = F' + 1 := ⟨F - 1, by omega⟩
            rw [zl3_i ec]
            exact z1 F' (by omega)
          · obtain ⟨F', rfl⟩ : ∃ F', F = F' + 1 := ⟨F - 1, by omega⟩
            rw [zl1_i em]
            exact z2 F' (by omega)
        · refine Or.inr ⟨o2, d2, M2, fun F hF => ?_, fun F hF => ?_, f, b, c1, c2, c3, c4, c5, c6, c7, fun j p1 p2 p3 p4 p5 p6 p7 p8 p9 q1 q2 => (c8 j p1 p2 p3 p4 p5 p6 p7 p8 p9 q1 q2).trans (y7 j p1 p2 p3 p4 p5 p6 p7 p8 p9 q1 q2)⟩
          · obtain ⟨F', rfl⟩ : ∃ F', F = F' + 1 := ⟨F - 1, by omega⟩
            rw [zl3_i ec]
            exact z1 F' (by omega)
          · obtain ⟨F', rfl⟩ : ∃ F', F = F' + 1 := ⟨F - 1, by omega⟩
            rw [zl1_i em]
            exact z2 F' (by omega)
      · refine Or.inr ⟨o1, d1, M', fun F hF => ?_, fun F hF => ?_, y⟩
        · obtain ⟨F', rfl⟩ : ∃ F', F = F' + 1 := ⟨F - 1, by omega⟩
          refine zl3_o ?_
          rw [hBC]
          simp (maxSteps := 3000000) (disch := omega) only [↓nx_q, zb0_s, zb1_s, zb2_s, zb3_s, zb4_s, zb5_s, zb6_s, zb7_s, zb8_s, zb9_s, zb10_s, zb11_s, zb12_s, zb13_s, zb14_s, q_lit, nI_add, pk_mul, e_cl, gi_in, gz_n0, gz_n1, e_gz, si_eq, si_ne, sa_eq, sa_ne, if_true, if_false, ↓reduceIte, k_ltT, k_ltF, k_leT, k_leF, k_eqT, k_eqF, k_m1lt, k_nm1, not_true_eq_false, not_false_eq_true, e13, y1]
        · obtain ⟨F', rfl⟩ : ∃ F', F = F' + 1 := ⟨F - 1, by omega⟩
          refine zl1_o ?_
          rw [hBM]
          simp (maxSteps := 3000000) (disch := omega) only [↓nx_q, zb0_s, zb1_s, zb2_s, zb3_s, zb4_s, zb5_s, zb6_s, zb7_s, zb8_s, zb9_s, zb10_s, zb11_s, zb12_s, zb13_s, zb14_s, q_lit, nI_add, pk_mul, e_cl, gi_in, gz_n0, gz_n1, e_gz, si_eq, si_ne, sa_eq, sa_ne, if_true, if_false, ↓reduceIte, k_ltT, k_ltF, k_leT, k_leF, k_eqT, k_eqF, k_m1lt, k_nm1, not_true_eq_false, not_false_eq_true, e11, y3]
      · refine Or.inr ⟨o', d1, M', fun F hF => ?_, fun F hF => ?_, y⟩
        · obtain ⟨F', rfl⟩ : ∃ F', F = F' + 1 := ⟨F - 1, by omega⟩
          refine zl3_o ?_
          rw [hBC]
          simp (maxSteps := 3000000) (disch := omega) only [↓nx_q, zb0_s, zb1_s, zb2_s, zb3_s, zb4_s, zb5_s, zb6_s, zb7_s, zb8_s, zb9_s, zb10_s, zb11_s, zb12_s, zb13_s, zb14_s, q_lit, nI_add, pk_mul, e_cl, gi_in, gz_n0, gz_n1, e_gz, si_eq, si_ne, sa_eq, sa_ne, if_true, if_false, ↓reduceIte, k_ltT, k_ltF, k_leT, k_leF, k_eqT, k_eqF, k_m1lt, k_nm1, not_true_eq_false, not_false_eq_true, e13, y1, y2]
        · obtain ⟨F', rfl⟩ : ∃ F', F = F' + 1 := ⟨F - 1, by omega⟩
          refine zl1_o ?_
          rw [hBM]
          simp (maxSteps := 3000000) (disch := omega) only [↓nx_q, zb0_s, zb1_s, zb2_s, zb3_s, zb4_s, zb5_s, zb6_s, zb7_s, zb8_s, zb9_s, zb10_s, zb11_s, zb12_s, zb13_s, zb14_s, q_lit, nI_add, pk_mul, e_cl, gi_in, gz_n0, gz_n1, e_gz, si_eq, si_ne, sa_eq, sa_ne, if_true, if_false, ↓reduceIte, k_ltT, k_ltF, k_leT, k_leF, k_eqT, k_eqF, k_m1lt, k_nm1, not_true_eq_false, not_false_eq_true, e11, y3]
