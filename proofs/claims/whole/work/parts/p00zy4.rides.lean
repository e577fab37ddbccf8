theorem can_c {w s : Ob} {σ : Nat → Nat} {T L : Nat} (hW : WF σ) (hw : RCw w σ) (hs0 : s 0 0 = nI (σ 0)) (hs2 : s 2 0 = nI (σ 3)) (hT : T < 2 ^ σ 2) (hL : 1 ≤ L ∧ L ≤ 40) : ((szS σ T ≤ σ 0 ∧ ∀ k, k < σ 2 → (σ 3 ^^^ T).testBit k = true → szN σ k ≤ L) → f_X11_canShift w s (nI T) (nI L) = some (nI 1)) ∧ (¬ (szS σ T ≤ σ 0 ∧ ∀ k, k < σ 2 → (σ 3 ^^^ T).testBit k = true → szN σ k ≤ L) → f_X11_canShift w s (nI T) (nI L) = some (nI 0)) := by
  have h8 := hW.1.1
  have p8 := pw8 h8
  have h3 := hW.1.2.1
  have hr := hW.1.2.2.1
  have hx := x_lt (a := σ 3) (b := T) (by omega) (by omega)
  have w0 := hw.1
  have bs := sz_le hW T
  have key : Ok (f_X11_canShift w s (nI T) (nI L)) (fun r => ((szS σ T ≤ σ 0 ∧ ∀ k, k < σ 2 → (σ 3 ^^^ T).testBit k = true → szN σ k ≤ L) ∧ r = nI 1) ∨ (¬ (szS σ T ≤ σ 0 ∧ ∀ k, k < σ 2 → (σ 3 ^^^ T).testBit k = true → szN σ k ≤ L) ∧ r = nI 0)) := by
    unfold f_X11_canShift
    simp (maxSteps := 3000000) (disch := omega) only [↓nx_q, zb0_s, zb1_s, zb2_s, zb3_s, zb4_s, zb5_s, zb6_s, zb7_s, zb8_s, zb9_s, zb10_s, zb11_s, zb12_s, zb13_s, zb14_s, q_lit, nI_add, pk_mul, e_cl, gi_in, gz_n0, gz_n1, e_gz, si_eq, si_ne, sa_eq, sa_ne, if_true, if_false, ↓reduceIte, k_ltT, k_ltF, k_leT, k_leF, k_eqT, k_eqF, k_m1lt, k_nm1, not_true_eq_false, not_false_eq_true, w0, e_shl1, hs2, q_xor]
    rw [ok_ze1]
    refine ok_mono (ok_zl2 (Q := fun y => (y = .inl (nI (szS σ T)) ∧ ∀ k, k < σ 2 → (σ 3 ^^^ T).testBit k = true → szN σ k ≤ L) ∨ (y = .inr (nI 0) ∧ ¬ ∀ k, k < σ 2 → (σ 3 ^^^ T).testBit k = true → szN σ k ≤ L)) (fun i a k => a = nI (sumB (szN σ) T i) ∧ k = nI i ∧ ∀ k, k < i → (σ 3 ^^^ T).testBit k = true → szN σ k ≤ L) (σ 2) (fun i a k hi hI => ?_) (fu_lt (by omega)) ⟨rfl, rfl, fun k hk => absurd hk (Nat.not_lt_zero _)⟩) (fun y hy => ?_)
    · obtain ⟨rfl, rfl, hk⟩ := hI
      by_cases q : i = σ 2
      · subst q
        simp (maxSteps := 3000000) (disch := omega) only [↓nx_q, zb0_s, zb1_s, zb2_s, zb3_s, zb4_s, zb5_s, zb6_s, zb7_s, zb8_s, zb9_s, zb10_s, zb11_s, zb12_s, zb13_s, zb14_s, q_lit, nI_add, pk_mul, e_cl, gi_in, gz_n0, gz_n1, e_gz, si_eq, si_ne, sa_eq, sa_ne, if_true, if_false, ↓reduceIte, k_ltT, k_ltF, k_leT, k_leF, k_eqT, k_eqF, k_m1lt, k_nm1, not_true_eq_false, not_false_eq_true, w0]
        exact ⟨_, rfl, Or.inl ⟨rfl, hk⟩⟩
      · have wi := (hw.2 i (by omega)).1
        have si := (hW.1.2.2.2.2.1 i (by omega)).1.2
        have ez : szN σ i = σ (8 + i) := rfl
        have st : (∀ k, k < i + 1 → (σ 3 ^^^ T).testBit k = true → szN σ k ≤ L) ↔ ((σ 3 ^^^ T).testBit i = true → σ (8 + i) ≤ L) := by
          refine ⟨fun h => h i (by omega), fun h k hk' b => ?_⟩
          by_cases e : k = i
          · subst e; exact h b
          · exact hk k (by omega) b
        by_cases b : T.testBit i = true
        · by_cases b2 : (σ 3 ^^^ T).testBit i = true
          · by_cases q2 : σ (8 + i) ≤ L
            · simp (maxSteps := 3000000) (disch := omega) only [↓nx_q, zb0_s, zb1_s, zb2_s, zb3_s, zb4_s, zb5_s, zb6_s, zb7_s, zb8_s, zb9_s, zb10_s, zb11_s, zb12_s, zb13_s, zb14_s, q_lit, nI_add, pk_mul, e_cl, gi_in, gz_n0, gz_n1, e_gz, si_eq, si_ne, sa_eq, sa_ne, if_true, if_false, ↓reduceIte, k_ltT, k_ltF, k_leT, k_leF, k_eqT, k_eqF, k_m1lt, k_nm1, not_true_eq_false, not_false_eq_true, w0, e_bitv, if_pos b, if_pos b2, wi]
              exact ⟨_, rfl, by omega, by rw [sumB_s, if_pos b, ez, Nat.one_mul], rfl, st.mpr fun _ => q2⟩
            · simp (maxSteps := 3000000) (disch := omega) only [↓nx_q, zb0_s, zb1_s, zb2_s, zb3_s, zb4_s, zb5_s, zb6_s, zb7_s, zb8_s, zb9_s, zb10_s, zb11_s, zb12_s, zb13_s, zb14_s, q_lit, nI_add, pk_mul, e_cl, gi_in, gz_n0, gz_n1, e_gz, si_eq, si_ne, sa_eq, sa_ne, if_true, if_false, ↓reduceIte, k_ltT, k_ltF, k_leT, k_leF, k_eqT, k_eqF, k_m1lt, k_nm1, not_true_eq_false, not_false_eq_true, w0, e_bitv, if_pos b, if_pos b2, wi]
              exact ⟨_, rfl, Or.inr ⟨rfl, fun h => q2 (h i (by omega) b2)⟩⟩
          · simp (maxSteps := 3000000) (disch := omega) only [↓nx_q, zb0_s, zb1_s, zb2_s, zb3_s, zb4_s, zb5_s, zb6_s, zb7_s, zb8_s, zb9_s, zb10_s, zb11_s, zb12_s, zb13_s, zb14_s, q_lit, nI_add, pk_mul, e_cl, gi_in, gz_n0, gz_n1, e_gz, si_eq, si_ne, sa_eq, sa_ne, if_true, if_false, ↓reduceIte, k_ltT, k_ltF, k_leT, k_leF, k_eqT, k_eqF, k_m1lt, k_nm1, not_true_eq_false, not_false_eq_true, w0, e_bitv, if_pos b, if_neg b2, wi]
            exact ⟨_, rfl, by omega, by rw [sumB_s, if_pos b, ez, Nat.one_mul], rfl, st.mpr fun h => absurd h b2⟩
        · by_cases b2 : (σ 3 ^^^ T).testBit i = true
          · by_cases q2 : σ (8 + i) ≤ L
            · simp (maxSteps := 3000000) (disch := omega) only [↓nx_q, zb0_s, zb1_s, zb2_s, zb3_s, zb4_s, zb5_s, zb6_s, zb7_s, zb8_s, zb9_s, zb10_s, zb11_s, zb12_s, zb13_s, zb14_s, q_lit, nI_add, pk_mul, e_cl, gi_in, gz_n0, gz_n1, e_gz, si_eq, si_ne, sa_eq, sa_ne, if_true, if_false, ↓reduceIte, k_ltT, k_ltF, k_leT, k_leF, k_eqT, k_eqF, k_m1lt, k_nm1, not_true_eq_false, not_false_eq_true, w0, e_bitv, if_neg b, if_pos b2, wi]
              exact ⟨_, rfl, by omega, by rw [sumB_s, if_neg b, Nat.zero_mul], rfl, st.mpr fun _ => q2⟩
            · simp (maxSteps := 3000000) (disch := omega) only [↓nx_q, zb0_s, zb1_s, zb2_s, zb3_s, zb4_s, zb5_s, zb6_s, zb7_s, zb8_s, zb9_s, zb10_s, zb11_s, zb12_s, zb13_s, zb14_s, q_lit, nI_add, pk_mul, e_cl, gi_in, gz_n0, gz_n1, e_gz, si_eq, si_ne, sa_eq, sa_ne, if_true, if_false, ↓reduceIte, k_ltT, k_ltF, k_leT, k_leF, k_eqT, k_eqF, k_m1lt, k_nm1, not_true_eq_false, not_false_eq_true, w0, e_bitv, if_neg b, if_pos b2, wi]
              exact ⟨_, rfl, Or.inr ⟨rfl, fun h => q2 (h i (by omega) b2)⟩⟩
          · simp (maxSteps := 3000000) (disch := omega) only [↓nx_q, zb0_s, zb1_s, zb2_s, zb3_s, zb4_s, zb5_s, zb6_s, zb7_s, zb8_s, zb9_s, zb10_s, zb11_s, zb12_s, zb13_s, zb14_s, q_lit, nI_add, pk_mul, e_cl, gi_in, gz_n0, gz_n1, e_gz, si_eq, si_ne, sa_eq, sa_ne, if_true, if_false, ↓reduceIte, k_ltT, k_ltF, k_leT, k_leF, k_eqT, k_eqF, k_m1lt, k_nm1, not_true_eq_false, not_false_eq_true, w0, e_bitv, if_neg b, if_neg b2, wi]
            exact ⟨_, rfl, by omega, by rw [sumB_s, if_neg b, Nat.zero_mul], rfl, st.mpr fun h => absurd h b2⟩
    · rcases hy with ⟨rfl, h⟩ | ⟨rfl, h⟩
      · by_cases q : szS σ T ≤ σ 0
        · show Ok (if _ then _ else _) _
          simp (maxSteps := 3000000) (disch := omega) only [↓nx_q, zb0_s, zb1_s, zb2_s, zb3_s, zb4_s, zb5_s, zb6_s, zb7_s, zb8_s, zb9_s, zb10_s, zb11_s, zb12_s, zb13_s, zb14_s, q_lit, nI_add, pk_mul, e_cl, gi_in, gz_n0, gz_n1, e_gz, si_eq, si_ne, sa_eq, sa_ne, if_true, if_false, ↓reduceIte, k_ltT, k_ltF, k_leT, k_leF, k_eqT, k_eqF, k_m1lt, k_nm1, not_true_eq_false, not_false_eq_true, hs0]
          exact ⟨_, rfl, Or.inl ⟨⟨q, h⟩, rfl⟩⟩
        · show Ok (if _ then _ else _) _
          simp (maxSteps := 3000000) (disch := omega) only [↓nx_q, zb0_s, zb1_s, zb2_s, zb3_s, zb4_s, zb5_s, zb6_s, zb7_s, zb8_s, zb9_s, zb10_s, zb11_s, zb12_s, zb13_s, zb14_s, q_lit, nI_add, pk_mul, e_cl, gi_in, gz_n0, gz_n1, e_gz, si_eq, si_ne, sa_eq, sa_ne, if_true, if_false, ↓reduceIte, k_ltT, k_ltF, k_leT, k_leF, k_eqT, k_eqF, k_m1lt, k_nm1, not_true_eq_false, not_false_eq_true, hs0]
          exact ⟨_, rfl, Or.inr ⟨fun z => q z.1, rfl⟩⟩
      · exact ⟨_, rfl, Or.inr ⟨fun z => h z.2, rfl⟩⟩
  obtain ⟨r, er, h⟩ := key
  rw [er]
  rcases h with ⟨h, rfl⟩ | ⟨h, rfl⟩
  · exact ⟨fun _ => rfl, fun z => absurd h z⟩
  · exact ⟨fun z => absurd z h, fun _ => rfl⟩
theorem can_m {M : Ob} {σ : Nat → Nat} {T L : Nat} (hW : WF σ) (hM : M 0 = rw σ) (hT : T < 2 ^ σ 2) (hL : 1 ≤ L ∧ L ≤ 40) : ((szS σ T ≤ σ 0 ∧ ∀ k, k < σ 2 → (σ 3 ^^^ T).testBit k = true → szN σ k ≤ L) → f_X12_canShift M (nI T) (nI L) = some (nI 1)) ∧ (¬ (szS σ T ≤ σ 0 ∧ ∀ k, k < σ 2 → (σ 3 ^^^ T).testBit k = true → szN σ k ≤ L) → f_X12_canShift M (nI T) (nI L) = some (nI 0)) := by
  have h8 := hW.1.1
  have p8 := pw8 h8
  have h3 := hW.1.2.1
  have hr := hW.1.2.2.1
  have hx := x_lt (a := T) (b := σ 3) (by omega) (by omega)
  have exm : σ 3 ^^^ T = T ^^^ σ 3 := Nat.xor_comm _ _
  have bs := sz_le hW T
  have e1 := m_isInN (a := 1) (b := 40) (k := L) (by omega) (by decide) (by decide)
  rw [if_pos hL] at e1
  have e2 : f_X12_sizeOf M (nI T) = some (nI (szS σ T)) := m_sizeOf (s := T) hM h8 (by omega)
  have key : Ok (f_X12_canShift M (nI T) (nI L)) (fun r => ((szS σ T ≤ σ 0 ∧ ∀ k, k < σ 2 → (σ 3 ^^^ T).testBit k = true → szN σ k ≤ L) ∧ r = nI 1) ∨ (¬ (szS σ T ≤ σ 0 ∧ ∀ k, k < σ 2 → (σ 3 ^^^ T).testBit k = true → szN σ k ≤ L) ∧ r = nI 0)) := by
    rw [exm]
    unfold f_X12_canShift
    by_cases q : szS σ T ≤ σ 0
    · simp (maxSteps := 3000000) (disch := omega) only [↓nx_q, zb0_s, zb1_s, zb2_s, zb3_s, zb4_s, zb5_s, zb6_s, zb7_s, zb8_s, zb9_s, zb10_s, zb11_s, zb12_s, zb13_s, zb14_s, q_lit, nI_add, pk_mul, e_cl, gi_in, gz_n0, gz_n1, e_gz, si_eq, si_ne, sa_eq, sa_ne, if_true, if_false, ↓reduceIte, k_ltT, k_ltF, k_leT, k_leF, k_eqT, k_eqF, k_m1lt, k_nm1, not_true_eq_false, not_false_eq_true, hM, rw_ap, upd_rw, sa_sa, jn_l, jn_r, jn_4, jn_5, jn_6, jn_ul, jn_ur, jn_u4, jn_u5, jn_u6, e_shl1, q_xor, e1, e2]
      rw [ok_ze0]
      refine ok_mono (ok_zl1 (Q := fun y => (y = .inl () ∧ ∀ k, k < σ 2 → (T ^^^ σ 3).testBit k = true → szN σ k ≤ L) ∨ (y = .inr (nI 0) ∧ ¬ ∀ k, k < σ 2 → (T ^^^ σ 3).testBit k = true → szN σ k ≤ L)) (fun i k => k = nI i ∧ ∀ k, k < i → (T ^^^ σ 3).testBit k = true → szN σ k ≤ L) (σ 2) (fun i k hi hI => ?_) (fu_lt (by omega)) ⟨rfl, fun k hk => absurd hk (Nat.not_lt_zero _)⟩) (fun y hy => ?_)
      · obtain ⟨rfl, hk⟩ := hI
        by_cases q : i = σ 2
        · subst q
          simp (maxSteps := 3000000) (disch := omega) only [↓nx_q, zb0_s, zb1_s, zb2_s, zb3_s, zb4_s, zb5_s, zb6_s, zb7_s, zb8_s, zb9_s, zb10_s, zb11_s, zb12_s, zb13_s, zb14_s, q_lit, nI_add, pk_mul, e_cl, gi_in, gz_n0, gz_n1, e_gz, si_eq, si_ne, sa_eq, sa_ne, if_true, if_false, ↓reduceIte, k_ltT, k_ltF, k_leT, k_leF, k_eqT, k_eqF, k_m1lt, k_nm1, not_true_eq_false, not_false_eq_true, hM, rw_ap, upd_rw, sa_sa, jn_l, jn_r, jn_4, jn_5, jn_6, jn_ul, jn_ur, jn_u4, jn_u5, jn_u6]
          exact ⟨_, rfl, Or.inl ⟨rfl, hk⟩⟩
        · have si := (hW.1.2.2.2.2.1 i (by omega)).1.2
          have st : (∀ k, k < i + 1 → (T ^^^ σ 3).testBit k = true → szN σ k ≤ L) ↔ ((T ^^^ σ 3).testBit i = true → σ (8 + i) ≤ L) := by
            refine ⟨fun h => h i (by omega), fun h k hk' b => ?_⟩
            by_cases e : k = i
            · subst e; exact h b
            · exact hk k (by omega) b
          by_cases b2 : (T ^^^ σ 3).testBit i = true
          · by_cases q2 : σ (8 + i) ≤ L
            · simp (maxSteps := 3000000) (disch := omega) only [↓nx_q, zb0_s, zb1_s, zb2_s, zb3_s, zb4_s, zb5_s, zb6_s, zb7_s, zb8_s, zb9_s, zb10_s, zb11_s, zb12_s, zb13_s, zb14_s, q_lit, nI_add, pk_mul, e_cl, gi_in, gz_n0, gz_n1, e_gz, si_eq, si_ne, sa_eq, sa_ne, if_true, if_false, ↓reduceIte, k_ltT, k_ltF, k_leT, k_leF, k_eqT, k_eqF, k_m1lt, k_nm1, not_true_eq_false, not_false_eq_true, hM, rw_ap, upd_rw, sa_sa, jn_l, jn_r, jn_4, jn_5, jn_6, jn_ul, jn_ur, jn_u4, jn_u5, jn_u6, q_xor, m_bitOf, if_pos b2]
              exact ⟨_, rfl, by omega, rfl, st.mpr fun _ => q2⟩
            · simp (maxSteps := 3000000) (disch := omega) only [↓nx_q, zb0_s, zb1_s, zb2_s, zb3_s, zb4_s, zb5_s, zb6_s, zb7_s, zb8_s, zb9_s, zb10_s, zb11_s, zb12_s, zb13_s, zb14_s, q_lit, nI_add, pk_mul, e_cl, gi_in, gz_n0, gz_n1, e_gz, si_eq, si_ne, sa_eq, sa_ne, if_true, if_false, ↓reduceIte, k_ltT, k_ltF, k_leT, k_leF, k_eqT, k_eqF, k_m1lt, k_nm1, not_true_eq_false, not_false_eq_true, hM, rw_ap, upd_rw, sa_sa, jn_l, jn_r, jn_4, jn_5, jn_6, jn_ul, jn_ur, jn_u4, jn_u5, jn_u6, q_xor, m_bitOf, if_pos b2]
              exact ⟨_, rfl, Or.inr ⟨rfl, fun h => q2 (h i (by omega) b2)⟩⟩
          · simp (maxSteps := 3000000) (disch := omega) only [↓nx_q, zb0_s, zb1_s, zb2_s, zb3_s, zb4_s, zb5_s, zb6_s, zb7_s, zb8_s, zb9_s, zb10_s, zb11_s, zb12_s, zb13_s, zb14_s, q_lit, nI_add, pk_mul, e_cl, gi_in, gz_n0, gz_n1, e_gz, si_eq, si_ne, sa_eq, sa_ne, if_true, if_false, ↓reduceIte, k_ltT, k_ltF, k_leT, k_leF, k_eqT, k_eqF, k_m1lt, k_nm1, not_true_eq_false, not_false_eq_true, hM, rw_ap, upd_rw, sa_sa, jn_l, jn_r, jn_4, jn_5, jn_6, jn_ul, jn_ur, jn_u4, jn_u5, jn_u6, q_xor, m_bitOf, if_neg b2]
            exact ⟨_, rfl, by omega, rfl, st.mpr fun h => absurd h b2⟩
      · rcases hy with ⟨rfl, h⟩ | ⟨rfl, h⟩
        · exact ⟨_, rfl, Or.inl ⟨⟨q, h⟩, rfl⟩⟩
        · exact ⟨_, rfl, Or.inr ⟨fun z => h z.2, rfl⟩⟩
    · simp (maxSteps := 3000000) (disch := omega) only [↓nx_q, zb0_s, zb1_s, zb2_s, zb3_s, zb4_s, zb5_s, zb6_s, zb7_s, zb8_s, zb9_s, zb10_s, zb11_s, zb12_s, zb13_s, zb14_s, q_lit, nI_add, pk_mul, e_cl, gi_in, gz_n0, gz_n1, e_gz, si_eq, si_ne, sa_eq, sa_ne, if_true, if_false, ↓reduceIte, k_ltT, k_ltF, k_leT, k_leF, k_eqT, k_eqF, k_m1lt, k_nm1, not_true_eq_false, not_false_eq_true, hM, rw_ap, upd_rw, sa_sa, jn_l, jn_r, jn_4, jn_5, jn_6, jn_ul, jn_ur, jn_u4, jn_u5, jn_u6, e_shl1, q_xor, e1, e2]
      exact ⟨_, rfl, Or.inr ⟨fun z => q z.1, rfl⟩⟩
  obtain ⟨r, er, h⟩ := key
  rw [er]
  rcases h with ⟨h, rfl⟩ | ⟨h, rfl⟩
  · exact ⟨fun _ => rfl, fun z => absurd h z⟩
  · exact ⟨fun z => absurd z h, fun _ => rfl⟩
theorem can_both {w s M : Ob} {σ : Nat → Nat} {v1 v2 : Int32} (hW : WF σ) (hM : M 0 = rw σ) (hw : RCw w σ) (hs0 : s 0 0 = nI (σ 0)) (hs2 : s 2 0 = nI (σ 3)) : (f_X11_canShift w s v1 v2 = some (nI 0) ∧ f_X12_canShift M v1 v2 = some (nI 0)) ∨ (∃ T L, v1 = nI T ∧ v2 = nI L ∧ L ≤ 40 ∧ Rd σ T (σ 3 ^^^ T) L ∧ Lg σ T (σ 3 ^^^ T) (σ 3 ^^^ T) ∧ f_X11_canShift w s v1 v2 = some (nI 1) ∧ f_X12_canShift M v1 v2 = some (nI 1)) := by
  have h8 := hW.1.1
  have p8 := pw8 h8
  have w0 := hw.1
  rcases q_rng v1 (n := 2 ^ σ 2) (by omega) with ⟨T, hT, rfl⟩ | ho
  · rcases q_rng v2 (n := 41) (by decide) with ⟨L, hL, rfl⟩ | ho2
    · by_cases q : L = 0
      · subst q
        have e1 := m_isInN (a := 1) (b := 40) (k := 0) (by omega) (by decide) (by decide)
        rw [if_neg (by omega)] at e1
        refine Or.inl ⟨?_, ?_⟩
        · unfold f_X11_canShift
          simp (maxSteps := 3000000) (disch := omega) only [↓nx_q, zb0_s, zb1_s, zb2_s, zb3_s, zb4_s, zb5_s, zb6_s, zb7_s, zb8_s, zb9_s, zb10_s, zb11_s, zb12_s, zb13_s, zb14_s, q_lit, nI_add, pk_mul, e_cl, gi_in, gz_n0, gz_n1, e_gz, si_eq, si_ne, sa_eq, sa_ne, if_true, if_false, ↓reduceIte, k_ltT, k_ltF, k_leT, k_leF, k_eqT, k_eqF, k_m1lt, k_nm1, not_true_eq_false, not_false_eq_true]
        · unfold f_X12_canShift
          simp (maxSteps := 3000000) (disch := omega) only [↓nx_q, zb0_s, zb1_s, zb2_s, zb3_s, zb4_s, zb5_s, zb6_s, zb7_s, zb8_s, zb9_s, zb10_s, zb11_s, zb12_s, zb13_s, zb14_s, q_lit, nI_add, pk_mul, e_cl, gi_in, gz_n0, gz_n1, e_gz, si_eq, si_ne, sa_eq, sa_ne, if_true, if_false, ↓reduceIte, k_ltT, k_ltF, k_leT, k_leF, k_eqT, k_eqF, k_m1lt, k_nm1, not_true_eq_false, not_false_eq_true, hM, rw_ap, upd_rw, sa_sa, jn_l, jn_r, jn_4, jn_5, jn_6, jn_ul, jn_ur, jn_u4, jn_u5, jn_u6, e_shl1, e1]
      · have c := can_c hW hw hs0 hs2 hT (L := L) ⟨by omega, by omega⟩
        have m := can_m hW hM hT (L := L) ⟨by omega, by omega⟩
        by_cases z : szS σ T ≤ σ 0 ∧ ∀ k, k < σ 2 → (σ 3 ^^^ T).testBit k = true → szN σ k ≤ L
        · refine Or.inr ⟨T, L, rfl, rfl, by omega, ⟨h8, hT, xor_lt hW.1.2.1 hT, z.1, z.2⟩, ⟨fun j h => h, ?_⟩, c.1 z, m.1 z⟩
          rw [Nat.xor_comm (σ 3) T, ← Nat.xor_assoc, Nat.xor_self, Nat.zero_xor]
          exact hW.1.2.2.2.1
        · exact Or.inl ⟨c.2 z, m.2 z⟩
    · have e1 := m_isInO (a := 1) (b := 40) (by decide) ho2 (by decide)
      refine Or.inl ⟨?_, ?_⟩
      · unfold f_X11_canShift
        rcases ho2 with h | h
        · simp (maxSteps := 3000000) (disch := omega) only [↓nx_q, zb0_s, zb1_s, zb2_s, zb3_s, zb4_s, zb5_s, zb6_s, zb7_s, zb8_s, zb9_s, zb10_s, zb11_s, zb12_s, zb13_s, zb14_s, q_lit, nI_add, pk_mul, e_cl, gi_in, gz_n0, gz_n1, e_gz, si_eq, si_ne, sa_eq, sa_ne, if_true, if_false, ↓reduceIte, k_ltT, k_ltF, k_leT, k_leF, k_eqT, k_eqF, k_m1lt, k_nm1, not_true_eq_false, not_false_eq_true, (o_neg2 h).1]
        · have := o_big2 (b := 40) (by decide) h
          simp (maxSteps := 3000000) (disch := omega) only [↓nx_q, zb0_s, zb1_s, zb2_s, zb3_s, zb4_s, zb5_s, zb6_s, zb7_s, zb8_s, zb9_s, zb10_s, zb11_s, zb12_s, zb13_s, zb14_s, q_lit, nI_add, pk_mul, e_cl, gi_in, gz_n0, gz_n1, e_gz, si_eq, si_ne, sa_eq, sa_ne, if_true, if_false, ↓reduceIte, k_ltT, k_ltF, k_leT, k_leF, k_eqT, k_eqF, k_m1lt, k_nm1, not_true_eq_false, not_false_eq_true, this.1, this.2.1]
      · unfold f_X12_canShift
        simp (maxSteps := 3000000) (disch := omega) only [↓nx_q, zb0_s, zb1_s, zb2_s, zb3_s, zb4_s, zb5_s, zb6_s, zb7_s, zb8_s, zb9_s, zb10_s, zb11_s, zb12_s, zb13_s, zb14_s, q_lit, nI_add, pk_mul, e_cl, gi_in, gz_n0, gz_n1, e_gz, si_eq, si_ne, sa_eq, sa_ne, if_true, if_false, ↓reduceIte, k_ltT, k_ltF, k_leT, k_leF, k_eqT, k_eqF, k_m1lt, k_nm1, not_true_eq_false, not_false_eq_true, hM, rw_ap, upd_rw, sa_sa, jn_l, jn_r, jn_4, jn_5, jn_6, jn_ul, jn_ur, jn_u4, jn_u5, jn_u6, e_shl1, e1]
  · refine Or.inl ⟨?_, ?_⟩
    · unfold f_X11_canShift
      by_cases a : v2 < nI 1
      · simp (maxSteps := 3000000) (disch := omega) only [↓nx_q, zb0_s, zb1_s, zb2_s, zb3_s, zb4_s, zb5_s, zb6_s, zb7_s, zb8_s, zb9_s, zb10_s, zb11_s, zb12_s, zb13_s, zb14_s, q_lit, nI_add, pk_mul, e_cl, gi_in, gz_n0, gz_n1, e_gz, si_eq, si_ne, sa_eq, sa_ne, if_true, if_false, ↓reduceIte, k_ltT, k_ltF, k_leT, k_leF, k_eqT, k_eqF, k_m1lt, k_nm1, not_true_eq_false, not_false_eq_true, eq_true a]
      · by_cases b : nI 40 < v2
        · simp (maxSteps := 3000000) (disch := omega) only [↓nx_q, zb0_s, zb1_s, zb2_s, zb3_s, zb4_s, zb5_s, zb6_s, zb7_s, zb8_s, zb9_s, zb10_s, zb11_s, zb12_s, zb13_s, zb14_s, q_lit, nI_add, pk_mul, e_cl, gi_in, gz_n0, gz_n1, e_gz, si_eq, si_ne, sa_eq, sa_ne, if_true, if_false, ↓reduceIte, k_ltT, k_ltF, k_leT, k_leF, k_eqT, k_eqF, k_m1lt, k_nm1, not_true_eq_false, not_false_eq_true, eq_false a, eq_true b]
        · rcases ho with h | h
          · simp (maxSteps := 3000000) (disch := omega) only [↓nx_q, zb0_s, zb1_s, zb2_s, zb3_s, zb4_s, zb5_s, zb6_s, zb7_s, zb8_s, zb9_s, zb10_s, zb11_s, zb12_s, zb13_s, zb14_s, q_lit, nI_add, pk_mul, e_cl, gi_in, gz_n0, gz_n1, e_gz, si_eq, si_ne, sa_eq, sa_ne, if_true, if_false, ↓reduceIte, k_ltT, k_ltF, k_leT, k_leF, k_eqT, k_eqF, k_m1lt, k_nm1, not_true_eq_false, not_false_eq_true, eq_false a, eq_false b, o_neg h]
          · have := o_big (n := 2 ^ σ 2) (by omega) h
            simp (maxSteps := 3000000) (disch := omega) only [↓nx_q, zb0_s, zb1_s, zb2_s, zb3_s, zb4_s, zb5_s, zb6_s, zb7_s, zb8_s, zb9_s, zb10_s, zb11_s, zb12_s, zb13_s, zb14_s, q_lit, nI_add, pk_mul, e_cl, gi_in, gz_n0, gz_n1, e_gz, si_eq, si_ne, sa_eq, sa_ne, if_true, if_false, ↓reduceIte, k_ltT, k_ltF, k_leT, k_leF, k_eqT, k_eqF, k_m1lt, k_nm1, not_true_eq_false, not_false_eq_true, eq_false a, eq_false b, w0, e_shl1, this.1, this.2.2]
    · unfold f_X12_canShift
      rcases ho with h | h
      · simp (maxSteps := 3000000) (disch := omega) only [↓nx_q, zb0_s, zb1_s, zb2_s, zb3_s, zb4_s, zb5_s, zb6_s, zb7_s, zb8_s, zb9_s, zb10_s, zb11_s, zb12_s, zb13_s, zb14_s, q_lit, nI_add, pk_mul, e_cl, gi_in, gz_n0, gz_n1, e_gz, si_eq, si_ne, sa_eq, sa_ne, if_true, if_false, ↓reduceIte, k_ltT, k_ltF, k_leT, k_leF, k_eqT, k_eqF, k_m1lt, k_nm1, not_true_eq_false, not_false_eq_true, o_neg h]
      · have := o_big (n := 2 ^ σ 2) (by omega) h
        simp (maxSteps := 3000000) (disch := omega) only [↓nx_q, zb0_s, zb1_s, zb2_s, zb3_s, zb4_s, zb5_s, zb6_s, zb7_s, zb8_s, zb9_s, zb10_s, zb11_s, zb12_s, zb13_s, zb14_s, q_lit, nI_add, pk_mul, e_cl, gi_in, gz_n0, gz_n1, e_gz, si_eq, si_ne, sa_eq, sa_ne, if_true, if_false, ↓reduceIte, k_ltT, k_ltF, k_leT, k_leF, k_eqT, k_eqF, k_m1lt, k_nm1, not_true_eq_false, not_false_eq_true, hM, rw_ap, upd_rw, sa_sa, jn_l, jn_r, jn_4, jn_5, jn_6, jn_ul, jn_ur, jn_u4, jn_u5, jn_u6, e_shl1, this.1, this.2.1]
