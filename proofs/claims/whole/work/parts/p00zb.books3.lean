theorem R_line : St_line Rel := by
  intro V PK PI M v1 v2 v3 hR
  obtain ⟨σ, g, fc, fm, hR⟩ := hR
  have hR0 := hR
  obtain ⟨⟨hM0, hW, hRC⟩, hGC, hGM, hHi, hPl, hO⟩ := hR0
  obtain ⟨r, e1, e2⟩ : ∃ r, f_X11_line (V 7) (V 8) (V 9) v1 v2 v3 = some r ∧ f_X12_line M v1 v2 v3 = some r := by
    rcases q_rng v1 (n := 3) (by decide) with ⟨k, hk, rfl⟩ | ho
    · have hb := RC_book hRC hk
      have ho := m_isOpened hM0 hk
      rcases hb with ⟨h0, h1, h2⟩ | ⟨h0, h1, h2, h3, h4, h5, h6, h7, h8, h9, h10, h11⟩
      · -- closed
        have ho := ho.1 h0
        refine ⟨-1, ?_, ?_⟩
        · unfold f_X11_line
          by_cases q : v2 < nI 0
          · simp (maxSteps := 3000000) (disch := omega) only [↓nx_q, zb0_s, zb1_s, zb2_s, zb3_s, zb4_s, zb5_s, zb6_s, zb7_s, zb8_s, zb9_s, zb10_s, zb11_s, zb12_s, zb13_s, zb14_s, q_lit, nI_add, pk_mul, e_cl, gi_in, gz_n0, gz_n1, e_gz, si_eq, si_ne, sa_eq, sa_ne, if_true, if_false, ↓reduceIte, k_ltT, k_ltF, k_leT, k_leF, k_eqT, k_eqF, k_m1lt, k_nm1, not_true_eq_false, not_false_eq_true, eq_true q]
          · rcases (by omega : k = 0 ∨ k = 1 ∨ k = 2) with rfl | rfl | rfl
            all_goals
              simp only [Nat.add_zero, Nat.reduceAdd] at h2
              simp (maxSteps := 3000000) (disch := omega) only [↓nx_q, zb0_s, zb1_s, zb2_s, zb3_s, zb4_s, zb5_s, zb6_s, zb7_s, zb8_s, zb9_s, zb10_s, zb11_s, zb12_s, zb13_s, zb14_s, q_lit, nI_add, pk_mul, e_cl, gi_in, gz_n0, gz_n1, e_gz, si_eq, si_ne, sa_eq, sa_ne, if_true, if_false, ↓reduceIte, k_ltT, k_ltF, k_leT, k_leF, k_eqT, k_eqF, k_m1lt, k_nm1, not_true_eq_false, not_false_eq_true, eq_false q, h2]
        · unfold f_X12_line
          simp (maxSteps := 3000000) (disch := omega) only [↓nx_q, zb0_s, zb1_s, zb2_s, zb3_s, zb4_s, zb5_s, zb6_s, zb7_s, zb8_s, zb9_s, zb10_s, zb11_s, zb12_s, zb13_s, zb14_s, q_lit, nI_add, pk_mul, e_cl, gi_in, gz_n0, gz_n1, e_gz, si_eq, si_ne, sa_eq, sa_ne, if_true, if_false, ↓reduceIte, k_ltT, k_ltF, k_leT, k_leF, k_eqT, k_eqF, k_m1lt, k_nm1, not_true_eq_false, not_false_eq_true, ho]
      · have ho := ho.2 h0
        rcases q_rng v2 (n := σ (544 + 7 * k + 3)) (by omega) with ⟨i, hi, rfl⟩ | ho2
        · have hl := h11 i hi
          have ein : f_X12_isIn (nI i) (nI 0) (nI (σ (544 + 7 * k + 3)) - nI 1) = some (nI 1) := m_in0 (by omega) hi
          rcases q_rng v3 (n := 3) (by decide) with ⟨w, hw, rfl⟩ | ho3
          · have e3 := m_isInN (a := 0) (b := 2) (k := w) (by omega) (by decide) (by decide)
            rw [if_pos (by omega)] at e3
            refine both_some ?_ ?_
            · unfold f_X11_line f_X12_line
              rcases (by omega : k = 0 ∨ k = 1 ∨ k = 2) with rfl | rfl | rfl
              all_goals
                rcases (by omega : w = 0 ∨ w = 1 ∨ w = 2) with rfl | rfl | rfl
                all_goals
                  simp only [Nat.add_zero, Nat.reduceAdd, Nat.mul_zero, Nat.reduceMul] at h7 hl ein hi h4 h3
                  simp (maxSteps := 3000000) (disch := omega) only [↓nx_q, zb0_s, zb1_s, zb2_s, zb3_s, zb4_s, zb5_s, zb6_s, zb7_s, zb8_s, zb9_s, zb10_s, zb11_s, zb12_s, zb13_s, zb14_s, q_lit, nI_add, pk_mul, e_cl, gi_in, gz_n0, gz_n1, e_gz, si_eq, si_ne, sa_eq, sa_ne, if_true, if_false, ↓reduceIte, k_ltT, k_ltF, k_leT, k_leF, k_eqT, k_eqF, k_m1lt, k_nm1, not_true_eq_false, not_false_eq_true, h7, hl.1, hl.2.1, hl.2.2, ho, hM0, rw_ap, upd_rw, sa_sa, jn_l, jn_r, jn_4, jn_5, jn_6, jn_ul, jn_ur, jn_u4, jn_u5, jn_u6, ein, e3, Nat.reduceAdd, Nat.reduceMul, Nat.add_zero, Nat.mul_zero]
            · unfold f_X11_line
              rcases (by omega : k = 0 ∨ k = 1 ∨ k = 2) with rfl | rfl | rfl
              all_goals
                rcases (by omega : w = 0 ∨ w = 1 ∨ w = 2) with rfl | rfl | rfl
                all_goals
                  simp only [Nat.add_zero, Nat.reduceAdd, Nat.mul_zero, Nat.reduceMul] at h7 hl hi h4 h3
                  simp (maxSteps := 3000000) (disch := omega) only [↓nx_q, zb0_s, zb1_s, zb2_s, zb3_s, zb4_s, zb5_s, zb6_s, zb7_s, zb8_s, zb9_s, zb10_s, zb11_s, zb12_s, zb13_s, zb14_s, q_lit, nI_add, pk_mul, e_cl, gi_in, gz_n0, gz_n1, e_gz, si_eq, si_ne, sa_eq, sa_ne, if_true, if_false, ↓reduceIte, k_ltT, k_ltF, k_leT, k_leF, k_eqT, k_eqF, k_m1lt, k_nm1, not_true_eq_false, not_false_eq_true, h7, Option.isSome_some]
          · have e3 := m_isInO (a := 0) (b := 2) (by decide) ho3 (by decide)
            have n3 : (v3 = nI 0) = False ∧ (v3 = nI 1) = False ∧ (v3 = nI 2) = False := by
              rcases ho3 with h | h
              · refine ⟨eq_false (fun q => ?_), eq_false (fun q => ?_), eq_false (fun q => ?_)⟩ <;> subst q <;> exact absurd h (by decide)
              · refine ⟨eq_false (fun q => ?_), eq_false (fun q => ?_), eq_false (fun q => ?_)⟩ <;> subst q <;> exact absurd h (by decide)
            refine ⟨-1, ?_, ?_⟩
            · unfold f_X11_line
              rcases (by omega : k = 0 ∨ k = 1 ∨ k = 2) with rfl | rfl | rfl
              all_goals
                simp only [Nat.add_zero, Nat.reduceAdd, Nat.mul_zero, Nat.reduceMul] at h7 hi h4 h3
                simp (maxSteps := 3000000) (disch := omega) only [↓nx_q, zb0_s, zb1_s, zb2_s, zb3_s, zb4_s, zb5_s, zb6_s, zb7_s, zb8_s, zb9_s, zb10_s, zb11_s, zb12_s, zb13_s, zb14_s, q_lit, nI_add, pk_mul, e_cl, gi_in, gz_n0, gz_n1, e_gz, si_eq, si_ne, sa_eq, sa_ne, if_true, if_false, ↓reduceIte, k_ltT, k_ltF, k_leT, k_leF, k_eqT, k_eqF, k_m1lt, k_nm1, not_true_eq_false, not_false_eq_true, h7, n3.1, n3.2.1, n3.2.2]
            · unfold f_X12_line
              simp (maxSteps := 3000000) (disch := omega) only [↓nx_q, zb0_s, zb1_s, zb2_s, zb3_s, zb4_s, zb5_s, zb6_s, zb7_s, zb8_s, zb9_s, zb10_s, zb11_s, zb12_s, zb13_s, zb14_s, q_lit, nI_add, pk_mul, e_cl, gi_in, gz_n0, gz_n1, e_gz, si_eq, si_ne, sa_eq, sa_ne, if_true, if_false, ↓reduceIte, k_ltT, k_ltF, k_leT, k_leF, k_eqT, k_eqF, k_m1lt, k_nm1, not_true_eq_false, not_false_eq_true, ho, hM0, rw_ap, upd_rw, sa_sa, jn_l, jn_r, jn_4, jn_5, jn_6, jn_ul, jn_ur, jn_u4, jn_u5, jn_u6, ein, e3]
        · have eo : f_X12_isIn v2 (nI 0) (nI (σ (544 + 7 * k + 3)) - nI 1) = some (nI 0) := m_out0 (by omega) ho2
          refine ⟨-1, ?_, ?_⟩
          · unfold f_X11_line
            rcases ho2 with h | h
            · simp (maxSteps := 3000000) (disch := omega) only [↓nx_q, zb0_s, zb1_s, zb2_s, zb3_s, zb4_s, zb5_s, zb6_s, zb7_s, zb8_s, zb9_s, zb10_s, zb11_s, zb12_s, zb13_s, zb14_s, q_lit, nI_add, pk_mul, e_cl, gi_in, gz_n0, gz_n1, e_gz, si_eq, si_ne, sa_eq, sa_ne, if_true, if_false, ↓reduceIte, k_ltT, k_ltF, k_leT, k_leF, k_eqT, k_eqF, k_m1lt, k_nm1, not_true_eq_false, not_false_eq_true, o_neg h]
            · have := o_big (by omega) h
              rcases (by omega : k = 0 ∨ k = 1 ∨ k = 2) with rfl | rfl | rfl
              all_goals
                simp only [Nat.add_zero, Nat.reduceAdd, Nat.mul_zero, Nat.reduceMul] at h7 this
                simp (maxSteps := 3000000) (disch := omega) only [↓nx_q, zb0_s, zb1_s, zb2_s, zb3_s, zb4_s, zb5_s, zb6_s, zb7_s, zb8_s, zb9_s, zb10_s, zb11_s, zb12_s, zb13_s, zb14_s, q_lit, nI_add, pk_mul, e_cl, gi_in, gz_n0, gz_n1, e_gz, si_eq, si_ne, sa_eq, sa_ne, if_true, if_false, ↓reduceIte, k_ltT, k_ltF, k_leT, k_leF, k_eqT, k_eqF, k_m1lt, k_nm1, not_true_eq_false, not_false_eq_true, h7, this.1, this.2.2]
          · unfold f_X12_line
            simp (maxSteps := 3000000) (disch := omega) only [↓nx_q, zb0_s, zb1_s, zb2_s, zb3_s, zb4_s, zb5_s, zb6_s, zb7_s, zb8_s, zb9_s, zb10_s, zb11_s, zb12_s, zb13_s, zb14_s, q_lit, nI_add, pk_mul, e_cl, gi_in, gz_n0, gz_n1, e_gz, si_eq, si_ne, sa_eq, sa_ne, if_true, if_false, ↓reduceIte, k_ltT, k_ltF, k_leT, k_leF, k_eqT, k_eqF, k_m1lt, k_nm1, not_true_eq_false, not_false_eq_true, ho, hM0, rw_ap, upd_rw, sa_sa, jn_l, jn_r, jn_4, jn_5, jn_6, jn_ul, jn_ur, jn_u4, jn_u5, jn_u6, eo]
    · have hm := m_isOpenedO (M := M) ho
      refine ⟨-1, ?_, ?_⟩
      · unfold f_X11_line
        rcases ho with h | h
        · simp (maxSteps := 3000000) (disch := omega) only [↓nx_q, zb0_s, zb1_s, zb2_s, zb3_s, zb4_s, zb5_s, zb6_s, zb7_s, zb8_s, zb9_s, zb10_s, zb11_s, zb12_s, zb13_s, zb14_s, q_lit, nI_add, pk_mul, e_cl, gi_in, gz_n0, gz_n1, e_gz, si_eq, si_ne, sa_eq, sa_ne, if_true, if_false, ↓reduceIte, k_ltT, k_ltF, k_leT, k_leF, k_eqT, k_eqF, k_m1lt, k_nm1, not_true_eq_false, not_false_eq_true, o_neg h]
        · have := o_big (by decide) h
          simp (maxSteps := 3000000) (disch := omega) only [↓nx_q, zb0_s, zb1_s, zb2_s, zb3_s, zb4_s, zb5_s, zb6_s, zb7_s, zb8_s, zb9_s, zb10_s, zb11_s, zb12_s, zb13_s, zb14_s, q_lit, nI_add, pk_mul, e_cl, gi_in, gz_n0, gz_n1, e_gz, si_eq, si_ne, sa_eq, sa_ne, if_true, if_false, ↓reduceIte, k_ltT, k_ltF, k_leT, k_leF, k_eqT, k_eqF, k_m1lt, k_nm1, not_true_eq_false, not_false_eq_true, this.1, this.2.1]
      · unfold f_X12_line
        simp (maxSteps := 3000000) (disch := omega) only [↓nx_q, zb0_s, zb1_s, zb2_s, zb3_s, zb4_s, zb5_s, zb6_s, zb7_s, zb8_s, zb9_s, zb10_s, zb11_s, zb12_s, zb13_s, zb14_s, q_lit, nI_add, pk_mul, e_cl, gi_in, gz_n0, gz_n1, e_gz, si_eq, si_ne, sa_eq, sa_ne, if_true, if_false, ↓reduceIte, k_ltT, k_ltF, k_leT, k_leF, k_eqT, k_eqF, k_m1lt, k_nm1, not_true_eq_false, not_false_eq_true, hm]
  exact ⟨V, PK, PI, M, r, by unfold g_line; rw [zb1_of e1], by unfold h_line; rw [zb1_of e2], σ, g, fc, fm, hR⟩
def zeI (σ : Nat → Nat) (b : Nat) : Nat → Nat → Nat
  | 0 => σ
  | i + 1 => updN (zeI σ b i) (b + i) 0
theorem zeI_fr {σ : Nat → Nat} {b j : Nat} : ∀ {i : Nat}, j < b ∨ b + i ≤ j → zeI σ b i j = σ j
  | 0, _ => rfl
  | i + 1, h => by
    show updN _ _ _ _ = _
    rw [updN_ne (by omega), zeI_fr (by omega)]
theorem zeI_z {σ : Nat → Nat} {b x : Nat} : ∀ {i : Nat}, x < i → zeI σ b i (b + x) = 0
  | 0, h => by omega
  | i + 1, h => by
    show updN _ _ _ _ = _
    by_cases e : x = i
    · subst e; rw [updN_eq]
    · rw [updN_ne (by omega), zeI_z (by omega)]
def opN (σ : Nat → Nat) (k kd ln : Nat) : Nat → Nat := updN (updN (updN (zeI σ (544 + 7 * k) 7) (544 + 7 * k) 1) (544 + 7 * k + 1) kd) (544 + 7 * k + 2) ln
theorem op_fr {σ : Nat → Nat} {k kd ln j : Nat} (h : j < 544 + 7 * k ∨ 544 + 7 * k + 7 ≤ j) : opN σ k kd ln j = σ j := by
  unfold opN
  rw [updN_ne (by omega), updN_ne (by omega), updN_ne (by omega), zeI_fr (by omega)]
theorem m_book {M : Ob} {σ : Nat → Nat} {k kd ln : Nat} (hM : M 0 = rw σ) (hk : k < 3) (hd : kd < 4) (hl : ln < 31) : f_X12_book M (nI k) (nI kd) (nI ln) = some (sa M 0 (rw (opN σ k kd ln)), nI 0) := by
  have e1 := m_isInN (a := 0) (b := 2) (k := k) (by omega) (by decide) (by decide)
  have e2 := m_isInN (a := 0) (b := 3) (k := kd) (by omega) (by decide) (by decide)
  have e3 := m_isInN (a := 0) (b := 30) (k := ln) (by omega) (by decide) (by decide)
  rw [if_pos (by omega)] at e1 e2 e3
  unfold f_X12_book
  simp (maxSteps := 3000000) (disch := omega) only [↓nx_q, zb0_s, zb1_s, zb2_s, zb3_s, zb4_s, zb5_s, zb6_s, zb7_s, zb8_s, zb9_s, zb10_s, zb11_s, zb12_s, zb13_s, zb14_s, q_lit, nI_add, pk_mul, e_cl, gi_in, gz_n0, gz_n1, e_gz, si_eq, si_ne, sa_eq, sa_ne, if_true, if_false, ↓reduceIte, k_ltT, k_ltF, k_leT, k_leF, k_eqT, k_eqF, k_m1lt, k_nm1, not_true_eq_false, not_false_eq_true, e1, e2, e3]
  refine (zb1_of (zl2_fo (fun i => sa M 0 (rw (zeI σ (544 + 7 * k) i))) (fun i => nI i) 7 (sa M 0 (rw (zeI σ (544 + 7 * k) 7))) (fu_lt (by decide)) ?_ rfl (fun i hi => ?_) ?_)).trans ?_
  · show M = sa M 0 (rw σ)
    rw [← hM, sa_self]
  · simp (maxSteps := 3000000) (disch := omega) only [↓nx_q, zb0_s, zb1_s, zb2_s, zb3_s, zb4_s, zb5_s, zb6_s, zb7_s, zb8_s, zb9_s, zb10_s, zb11_s, zb12_s, zb13_s, zb14_s, q_lit, nI_add, pk_mul, e_cl, gi_in, gz_n0, gz_n1, e_gz, si_eq, si_ne, sa_eq, sa_ne, if_true, if_false, ↓reduceIte, k_ltT, k_ltF, k_leT, k_leF, k_eqT, k_eqF, k_m1lt, k_nm1, not_true_eq_false, not_false_eq_true, rw_ap, upd_rw, sa_sa, jn_l, jn_r, jn_4, jn_5, jn_6, jn_ul, jn_ur, jn_u4, jn_u5, jn_u6]
    rfl
  · simp (maxSteps := 3000000) (disch := omega) only [↓nx_q, zb0_s, zb1_s, zb2_s, zb3_s, zb4_s, zb5_s, zb6_s, zb7_s, zb8_s, zb9_s, zb10_s, zb11_s, zb12_s, zb13_s, zb14_s, q_lit, nI_add, pk_mul, e_cl, gi_in, gz_n0, gz_n1, e_gz, si_eq, si_ne, sa_eq, sa_ne, if_true, if_false, ↓reduceIte, k_ltT, k_ltF, k_leT, k_leF, k_eqT, k_eqF, k_m1lt, k_nm1, not_true_eq_false, not_false_eq_true]
  · simp (maxSteps := 3000000) (disch := omega) only [↓nx_q, zb0_s, zb1_s, zb2_s, zb3_s, zb4_s, zb5_s, zb6_s, zb7_s, zb8_s, zb9_s, zb10_s, zb11_s, zb12_s, zb13_s, zb14_s, q_lit, nI_add, pk_mul, e_cl, gi_in, gz_n0, gz_n1, e_gz, si_eq, si_ne, sa_eq, sa_ne, if_true, if_false, ↓reduceIte, k_ltT, k_ltF, k_leT, k_leF, k_eqT, k_eqF, k_m1lt, k_nm1, not_true_eq_false, not_false_eq_true, rw_ap, upd_rw, sa_sa, jn_l, jn_r, jn_4, jn_5, jn_6, jn_ul, jn_ur, jn_u4, jn_u5, jn_u6]
    rfl
theorem c_bookBegin (o : Ob) {σ : Nat → Nat} {k kd ln : Nat} (hk : k < 3) (hd : kd < 4) (hl : ln < 31) : Ok (f_X0_begin o (nI kd) (nI ln)) (fun o' => RCb o' (opN σ k kd ln) k) := by
  unfold f_X0_begin
  simp (maxSteps := 3000000) (disch := omega) only [↓nx_q, zb0_s, zb1_s, zb2_s, zb3_s, zb4_s, zb5_s, zb6_s, zb7_s, zb8_s, zb9_s, zb10_s, zb11_s, zb12_s, zb13_s, zb14_s, q_lit, nI_add, pk_mul, e_cl, gi_in, gz_n0, gz_n1, e_gz, si_eq, si_ne, sa_eq, sa_ne, if_true, if_false, ↓reduceIte, k_ltT, k_ltF, k_leT, k_leF, k_eqT, k_eqF, k_m1lt, k_nm1, not_true_eq_false, not_false_eq_true]
  have z : ∀ x, x < 7 → zeI σ (544 + 7 * k) 7 (544 + 7 * k + x) = 0 := fun x hx => zeI_z hx
  refine ⟨_, rfl, Or.inr ?_⟩
  unfold opN
  simp (disch := omega) only [si_eq, si_ne, sa_eq, sa_ne, upd_eq, upd_ne, updN_eq, updN_ne]
  rw [z 3 (by decide), z 4 (by decide), z 5 (by decide), z 6 (by decide)]
  exact ⟨trivial, trivial, by omega, by omega, by omega, trivial, trivial, rfl, rfl, rfl, rfl, fun i hi => by omega⟩
theorem R_book : St_book Rel := by
  intro V PK PI M v1 v2 v3 hR
  obtain ⟨σ, g, fc, fm, hR⟩ := hR
  have hR0 := hR
  obtain ⟨⟨hM0, hW, hRC⟩, hGC, hGM, hHi, hPl, hO⟩ := hR0
  have same : f_X11_book (V 7) (V 8) (V 9) v1 v2 v3 = some (V 7, V 8, V 9, -1) → f_X12_book M v1 v2 v3 = some (M, -1) → ∃ (V' : Nat → Ob) (PK' PI' : PV) (M' : Ob) (r : Int32), g_book V PK PI v1 v2 v3 = some (V', PK', PI', r) ∧ h_book M v1 v2 v3 = some (M', r) ∧ Rel V' PK' PI' M' := by
    intro e1 e2
    refine ⟨V, PK, PI, M, -1, ?_, ?_, σ, g, fc, fm, hR⟩
    · unfold g_book
      rw [zb4_of e1, vu_self, vu_self, vu_self]
    · unfold h_book
      rw [zb2_of e2]
  rcases q_rng v1 (n := 3) (by decide) with ⟨k, hk, rfl⟩ | ho
  · have e1 := m_isInN (a := 0) (b := 2) (k := k) (by omega) (by decide) (by decide)
    rw [if_pos (by omega)] at e1
    rcases q_rng v2 (n := 4) (by decide) with ⟨kd, hd, rfl⟩ | ho2
    · have e2 := m_isInN (a := 0) (b := 3) (k := kd) (by omega) (by decide) (by decide)
      rw [if_pos (by omega)] at e2
      rcases q_rng v3 (n := 31) (by decide) with ⟨ln, hl, rfl⟩ | ho3
      · have em := m_book hM0 hk hd hl
        have hal : Al σ (opN σ k kd ln) := fun j _ _ _ hj => op_fr (by omega)
        have hgr : Grow σ (opN σ k kd ln) := ⟨by rw [op_fr (by omega)]; exact Nat.le_refl _, fun j hj => op_fr (by omega), fun i hi => op_fr (by have := hW.2.2.1; omega)⟩
        -- the three books behind it
        obtain ⟨b0, b1, b2, eb, r0, r1, r2⟩ : ∃ b0 b1 b2 : Ob, f_X11_book (V 7) (V 8) (V 9) (nI k) (nI kd) (nI ln) = some (b0, b1, b2, nI 0) ∧ RCb b0 (opN σ k kd ln) 0 ∧ RCb b1 (opN σ k kd ln) 1 ∧ RCb b2 (opN σ k kd ln) 2 := by
          obtain ⟨-, -, -, -, q0, q1, q2⟩ := hRC
          have oth : ∀ {b : Nat} {o : Ob}, b < 3 → b ≠ k → RCb o σ b → RCb o (opN σ k kd ln) b := fun hb hn h => RCb_congr h (fun j a b => op_fr (by omega)) (fun j a b => op_fr (by omega))
          rcases (by omega : k = 0 ∨ k = 1 ∨ k = 2) with rfl | rfl | rfl
          · obtain ⟨o', eo, ho'⟩ := c_bookBegin (V 7) (σ := σ) hk hd hl
            refine ⟨o', V 8, V 9, ?_, ho', oth (by decide) (by decide) q1, oth (by decide) (by decide) q2⟩
            unfold f_X11_book
            simp (maxSteps := 3000000) (disch := omega) only [↓nx_q, zb0_s, zb1_s, zb2_s, zb3_s, zb4_s, zb5_s, zb6_s, zb7_s, zb8_s, zb9_s, zb10_s, zb11_s, zb12_s, zb13_s, zb14_s, q_lit, nI_add, pk_mul, e_cl, gi_in, gz_n0, gz_n1, e_gz, si_eq, si_ne, sa_eq, sa_ne, if_true, if_false, ↓reduceIte, k_ltT, k_ltF, k_leT, k_leF, k_eqT, k_eqF, k_m1lt, k_nm1, not_true_eq_false, not_false_eq_true, eo]
          · obtain ⟨o', eo, ho'⟩ := c_bookBegin (V 8) (σ := σ) hk hd hl
            refine ⟨V 7, o', V 9, ?_, oth (by decide) (by decide) q0, ho', oth (by decide) (by decide) q2⟩
            unfold f_X11_book
            simp (maxSteps := 3000000) (disch := omega) only [↓nx_q, zb0_s, zb1_s, zb2_s, zb3_s, zb4_s, zb5_s, zb6_s, zb7_s, zb8_s, zb9_s, zb10_s, zb11_s, zb12_s, zb13_s, zb14_s, q_lit, nI_add, pk_mul, e_cl, gi_in, gz_n0, gz_n1, e_gz, si_eq, si_ne, sa_eq, sa_ne, if_true, if_false, ↓reduceIte, k_ltT, k_ltF, k_leT, k_leF, k_eqT, k_eqF, k_m1lt, k_nm1, not_true_eq_false, not_false_eq_true, eo]
          · obtain ⟨o', eo, ho'⟩ := c_bookBegin (V 9) (σ := σ) hk hd hl
            refine ⟨V 7, V 8, o', ?_, oth (by decide) (by decide) q0, oth (by decide) (by decide) q1, ho'⟩
            unfold f_X11_book
            simp (maxSteps := 3000000) (disch := omega) only [↓nx_q, zb0_s, zb1_s, zb2_s, zb3_s, zb4_s, zb5_s, zb6_s, zb7_s, zb8_s, zb9_s, zb10_s, zb11_s, zb12_s, zb13_s, zb14_s, q_lit, nI_add, pk_mul, e_cl, gi_in, gz_n0, gz_n1, e_gz, si_eq, si_ne, sa_eq, sa_ne, if_true, if_false, ↓reduceIte, k_ltT, k_ltF, k_leT, k_leF, k_eqT, k_eqF, k_m1lt, k_nm1, not_true_eq_false, not_false_eq_true, eo]
        refine ⟨vu (vu (vu V 7 b0) 8 b1) 9 b2, PK, PI, sa M 0 (rw (opN σ k kd ln)), nI 0, ?_, ?_, opN σ k kd ln, g, fc, fm, ⟨sa_eq _ _ _, WF_al hW hal, ?_⟩, ?_, ?_, ?_, ?_, ?_⟩
        · unfold g_book
          rw [zb4_of eb]
        · unfold h_book
          rw [zb2_of em]
        · obtain ⟨rs, rw', rh, rl, -, -, -⟩ := hRC
          refine RC_un (o := V 3) (w := V 4) (s := V 5) (l := V 6) (b0 := b0) (b1 := b1) (b2 := b2) ⟨⟨?_, ?_, ?_⟩, RCw_congr rw' hW.1.1 (fun j _ hj => op_fr (by omega)), RCh_al rh hW.1.1 hal, RCl_congr rl hW.2.2.1 (fun j hj => op_fr (by omega)), r0, r1, r2⟩ ?_ ?_ ?_ ?_ ?_ ?_ ?_
          · rw [op_fr (by omega)]; exact rs.1
          · rw [op_fr (by omega)]; exact rs.2.1
          · rw [op_fr (by omega)]; exact rs.2.2
          all_goals simp (disch := omega) only [vu_eq, vu_ne]
        · simp (disch := omega) only [vu_eq, vu_ne]
          exact hGC
        · exact GM_fr hGM (sa_ne (by decide)) (sa_ne (by decide)) (sa_ne (by decide))
        · simp (disch := omega) only [vu_eq, vu_ne]
          exact RHist_fr hHi (sa_ne (by decide)) (sa_ne (by decide))
        · simp (disch := omega) only [vu_eq, vu_ne]
          exact RPlan_gr hPl hgr hW
        · refine RelO_fr hO ?_ ?_ ?_ ?_ ?_ (fun j hj => sa_ne (by omega))
          all_goals simp (disch := omega) only [vu_eq, vu_ne]
      · have e3 := m_isInO (a := 0) (b := 30) (by decide) ho3 (by decide)
        refine same ?_ ?_
        · unfold f_X11_book
          rcases ho3 with h | h
          · simp (maxSteps := 3000000) (disch := omega) only [↓nx_q, zb0_s, zb1_s, zb2_s, zb3_s, zb4_s, zb5_s, zb6_s, zb7_s, zb8_s, zb9_s, zb10_s, zb11_s, zb12_s, zb13_s, zb14_s, q_lit, nI_add, pk_mul, e_cl, gi_in, gz_n0, gz_n1, e_gz, si_eq, si_ne, sa_eq, sa_ne, if_true, if_false, ↓reduceIte, k_ltT, k_ltF, k_leT, k_leF, k_eqT, k_eqF, k_m1lt, k_nm1, not_true_eq_false, not_false_eq_true, o_neg h]
          · have := o_big2 (b := 30) (by decide) h
            simp (maxSteps := 3000000) (disch := omega) only [↓nx_q, zb0_s, zb1_s, zb2_s, zb3_s, zb4_s, zb5_s, zb6_s, zb7_s, zb8_s, zb9_s, zb10_s, zb11_s, zb12_s, zb13_s, zb14_s, q_lit, nI_add, pk_mul, e_cl, gi_in, gz_n0, gz_n1, e_gz, si_eq, si_ne, sa_eq, sa_ne, if_true, if_false, ↓reduceIte, k_ltT, k_ltF, k_leT, k_leF, k_eqT, k_eqF, k_m1lt, k_nm1, not_true_eq_false, not_false_eq_true, this.2.2.1, this.2.2.2]
        · unfold f_X12_book
          simp (maxSteps := 3000000) (disch := omega) only [↓nx_q, zb0_s, zb1_s, zb2_s, zb3_s, zb4_s, zb5_s, zb6_s, zb7_s, zb8_s, zb9_s, zb10_s, zb11_s, zb12_s, zb13_s, zb14_s, q_lit, nI_add, pk_mul, e_cl, gi_in, gz_n0, gz_n1, e_gz, si_eq, si_ne, sa_eq, sa_ne, if_true, if_false, ↓reduceIte, k_ltT, k_ltF, k_leT, k_leF, k_eqT, k_eqF, k_m1lt, k_nm1, not_true_eq_false, not_false_eq_true, e1, e2, e3]
    · have e2 := m_isInO (a := 0) (b := 3) (by decide) ho2 (by decide)
      refine same ?_ ?_
      · unfold f_X11_book
        rcases ho2 with h | h
        · simp (maxSteps := 3000000) (disch := omega) only [↓nx_q, zb0_s, zb1_s, zb2_s, zb3_s, zb4_s, zb5_s, zb6_s, zb7_s, zb8_s, zb9_s, zb10_s, zb11_s, zb12_s, zb13_s, zb14_s, q_lit, nI_add, pk_mul, e_cl, gi_in, gz_n0, gz_n1, e_gz, si_eq, si_ne, sa_eq, sa_ne, if_true, if_false, ↓reduceIte, k_ltT, k_ltF, k_leT, k_leF, k_eqT, k_eqF, k_m1lt, k_nm1, not_true_eq_false, not_false_eq_true, o_neg h]
        · have := o_big2 (b := 3) (by decide) h
          simp (maxSteps := 3000000) (disch := omega) only [↓nx_q, zb0_s, zb1_s, zb2_s, zb3_s, zb4_s, zb5_s, zb6_s, zb7_s, zb8_s, zb9_s, zb10_s, zb11_s, zb12_s, zb13_s, zb14_s, q_lit, nI_add, pk_mul, e_cl, gi_in, gz_n0, gz_n1, e_gz, si_eq, si_ne, sa_eq, sa_ne, if_true, if_false, ↓reduceIte, k_ltT, k_ltF, k_leT, k_leF, k_eqT, k_eqF, k_m1lt, k_nm1, not_true_eq_false, not_false_eq_true, this.2.2.1, this.1]
      · unfold f_X12_book
        simp (maxSteps := 3000000) (disch := omega) only [↓nx_q, zb0_s, zb1_s, zb2_s, zb3_s, zb4_s, zb5_s, zb6_s, zb7_s, zb8_s, zb9_s, zb10_s, zb11_s, zb12_s, zb13_s, zb14_s, q_lit, nI_add, pk_mul, e_cl, gi_in, gz_n0, gz_n1, e_gz, si_eq, si_ne, sa_eq, sa_ne, if_true, if_false, ↓reduceIte, k_ltT, k_ltF, k_leT, k_leF, k_eqT, k_eqF, k_m1lt, k_nm1, not_true_eq_false, not_false_eq_true, e1, e2]
  · have e1 := m_isInO (a := 0) (b := 2) (by decide) ho (by decide)
    refine same ?_ ?_
    · unfold f_X11_book
      rcases ho with h | h
      · simp (maxSteps := 3000000) (disch := omega) only [↓nx_q, zb0_s, zb1_s, zb2_s, zb3_s, zb4_s, zb5_s, zb6_s, zb7_s, zb8_s, zb9_s, zb10_s, zb11_s, zb12_s, zb13_s, zb14_s, q_lit, nI_add, pk_mul, e_cl, gi_in, gz_n0, gz_n1, e_gz, si_eq, si_ne, sa_eq, sa_ne, if_true, if_false, ↓reduceIte, k_ltT, k_ltF, k_leT, k_leF, k_eqT, k_eqF, k_m1lt, k_nm1, not_true_eq_false, not_false_eq_true, o_neg h]
      · have := o_big (by decide) h
        simp (maxSteps := 3000000) (disch := omega) only [↓nx_q, zb0_s, zb1_s, zb2_s, zb3_s, zb4_s, zb5_s, zb6_s, zb7_s, zb8_s, zb9_s, zb10_s, zb11_s, zb12_s, zb13_s, zb14_s, q_lit, nI_add, pk_mul, e_cl, gi_in, gz_n0, gz_n1, e_gz, si_eq, si_ne, sa_eq, sa_ne, if_true, if_false, ↓reduceIte, k_ltT, k_ltF, k_leT, k_leF, k_eqT, k_eqF, k_m1lt, k_nm1, not_true_eq_false, not_false_eq_true, this.1, this.2.1]
    · unfold f_X12_book
      simp (maxSteps := 3000000) (disch := omega) only [↓nx_q, zb0_s, zb1_s, zb2_s, zb3_s, zb4_s, zb5_s, zb6_s, zb7_s, zb8_s, zb9_s, zb10_s, zb11_s, zb12_s, zb13_s, zb14_s, q_lit, nI_add, pk_mul, e_cl, gi_in, gz_n0, gz_n1, e_gz, si_eq, si_ne, sa_eq, sa_ne, if_true, if_false, ↓reduceIte, k_ltT, k_ltF, k_leT, k_leF, k_eqT, k_eqF, k_m1lt, k_nm1, not_true_eq_false, not_false_eq_true, e1]
