/-! ===== what was spent; the picture ===== -/
def sp1 (p w : Nat) : Nat := if w = 2 then p else if w = 0 ∨ p = 0 then 1 else 0
theorem sp_0 (p : Nat) : sp1 p 0 = 1 := by
  unfold sp1
  rw [if_neg (by decide), if_pos (Or.inl rfl)]
theorem sp_1z : sp1 0 1 = 1 := by decide
theorem sp_1n {p : Nat} (h : p ≠ 0) : sp1 p 1 = 0 := by
  unfold sp1
  rw [if_neg (by decide), if_neg (by omega)]
theorem sp_2 (p : Nat) : sp1 p 2 = p := if_pos rfl
def spN (σ : Nat → Nat) (k w : Nat) : Nat → Nat
  | 0 => 0
  | i + 1 => spN σ k w i + (if σ (104 + i) = k then sp1 (σ (144 + i)) w else 0)
theorem R_spent : St_spent Rel := by
  intro V PK PI M v1 v2 hR
  obtain ⟨σ, g, fc, fm, hR⟩ := hR
  have hR0 := hR
  obtain ⟨⟨hM0, hW, hRC⟩, hGC, hGM, hHi, hPl, hO⟩ := hR0
  have h8 := hW.1.1
  have h7 := hW.2.2.1
  have a2 : V 4 0 0 = nI (σ 2) := hRC.2.1.1
  have a7 : V 6 0 0 = nI (σ 7) := hRC.2.2.2.1.1
  have hs : MR (M 0) σ := fun j _ => by rw [hM0]; rfl
  obtain ⟨r, e1, e2⟩ : ∃ r, f_X11_spent (V 4) (V 6) v1 v2 = some r ∧ f_X12_spent M v1 v2 = some r := by
    rcases q_rng v1 (n := σ 2) (by omega) with ⟨k, hk, rfl⟩ | ho
    · have c := c_hasIn a2 (by omega) hk
      have m := m_isItemIn hs (by omega) hk
      rcases q_rng v2 (n := 3) (by decide) with ⟨w, hw, rfl⟩ | ho2
      · have e := m_isInN (a := 0) (b := 2) (k := w) (by omega) (by decide) (by decide)
        rw [if_pos (by omega)] at e
        refine ⟨nI (spN σ k w (σ 7)), ?_, ?_⟩
        · unfold f_X11_spent
          simp (maxSteps := 3000000) (disch := omega) only [↓nx_q, zb0_s, zb1_s, zb2_s, zb3_s, zb4_s, zb5_s, zb6_s, zb7_s, zb8_s, zb9_s, zb10_s, zb11_s, zb12_s, zb13_s, zb14_s, q_lit, nI_add, pk_mul, e_cl, gi_in, gz_n0, gz_n1, e_gz, si_eq, si_ne, sa_eq, sa_ne, if_true, if_false, ↓reduceIte, k_ltT, k_ltF, k_leT, k_leF, k_eqT, k_eqF, k_m1lt, k_nm1, not_true_eq_false, not_false_eq_true, c]
          refine (zb1_of (zl2_fo (fun i => nI (spN σ k w i)) (fun i => nI i) (σ 7) (nI (spN σ k w (σ 7))) (fu_lt (by omega)) rfl rfl (fun i hi => ?_) ?_)).trans rfl
          · obtain ⟨l1, l2, -⟩ : V 6 1 i = nI (σ (104 + i)) ∧ V 6 2 i = nI (σ (144 + i)) ∧ _ := hRC.2.2.2.1.2 i hi
            have hl := hW.2.2.2.2.2.2 i hi
            show _ = some (Sum.inl (nI (spN σ k w i + (if σ (104 + i) = k then sp1 (σ (144 + i)) w else 0)), nI (i + 1)))
            by_cases q : σ (104 + i) = k
            · rw [if_pos q]
              unfold f_X11_spentIn
              rcases (by omega : w = 0 ∨ w = 1 ∨ w = 2) with rfl | rfl | rfl
              · rw [sp_0]
                simp (maxSteps := 3000000) (disch := omega) only [↓nx_q, zb0_s, zb1_s, zb2_s, zb3_s, zb4_s, zb5_s, zb6_s, zb7_s, zb8_s, zb9_s, zb10_s, zb11_s, zb12_s, zb13_s, zb14_s, q_lit, nI_add, pk_mul, e_cl, gi_in, gz_n0, gz_n1, e_gz, si_eq, si_ne, sa_eq, sa_ne, if_true, if_false, ↓reduceIte, k_ltT, k_ltF, k_leT, k_leF, k_eqT, k_eqF, k_m1lt, k_nm1, not_true_eq_false, not_false_eq_true, a7, l1, l2]
              · by_cases q0 : σ (144 + i) = 0
                · rw [q0, sp_1z]
                  simp (maxSteps := 3000000) (disch := omega) only [↓nx_q, zb0_s, zb1_s, zb2_s, zb3_s, zb4_s, zb5_s, zb6_s, zb7_s, zb8_s, zb9_s, zb10_s, zb11_s, zb12_s, zb13_s, zb14_s, q_lit, nI_add, pk_mul, e_cl, gi_in, gz_n0, gz_n1, e_gz, si_eq, si_ne, sa_eq, sa_ne, if_true, if_false, ↓reduceIte, k_ltT, k_ltF, k_leT, k_leF, k_eqT, k_eqF, k_m1lt, k_nm1, not_true_eq_false, not_false_eq_true, a7, l1, l2, q0]
                · rw [sp_1n q0]
                  simp (maxSteps := 3000000) (disch := omega) only [↓nx_q, zb0_s, zb1_s, zb2_s, zb3_s, zb4_s, zb5_s, zb6_s, zb7_s, zb8_s, zb9_s, zb10_s, zb11_s, zb12_s, zb13_s, zb14_s, q_lit, nI_add, pk_mul, e_cl, gi_in, gz_n0, gz_n1, e_gz, si_eq, si_ne, sa_eq, sa_ne, if_true, if_false, ↓reduceIte, k_ltT, k_ltF, k_leT, k_leF, k_eqT, k_eqF, k_m1lt, k_nm1, not_true_eq_false, not_false_eq_true, a7, l1, l2, Nat.add_zero]
              · rw [sp_2]
                simp (maxSteps := 3000000) (disch := omega) only [↓nx_q, zb0_s, zb1_s, zb2_s, zb3_s, zb4_s, zb5_s, zb6_s, zb7_s, zb8_s, zb9_s, zb10_s, zb11_s, zb12_s, zb13_s, zb14_s, q_lit, nI_add, pk_mul, e_cl, gi_in, gz_n0, gz_n1, e_gz, si_eq, si_ne, sa_eq, sa_ne, if_true, if_false, ↓reduceIte, k_ltT, k_ltF, k_leT, k_leF, k_eqT, k_eqF, k_m1lt, k_nm1, not_true_eq_false, not_false_eq_true, a7, l1, l2]
            · rw [if_neg q]
              simp (maxSteps := 3000000) (disch := omega) only [↓nx_q, zb0_s, zb1_s, zb2_s, zb3_s, zb4_s, zb5_s, zb6_s, zb7_s, zb8_s, zb9_s, zb10_s, zb11_s, zb12_s, zb13_s, zb14_s, q_lit, nI_add, pk_mul, e_cl, gi_in, gz_n0, gz_n1, e_gz, si_eq, si_ne, sa_eq, sa_ne, if_true, if_false, ↓reduceIte, k_ltT, k_ltF, k_leT, k_leF, k_eqT, k_eqF, k_m1lt, k_nm1, not_true_eq_false, not_false_eq_true, a7, l1, l2, Nat.add_zero]
          · simp (maxSteps := 3000000) (disch := omega) only [↓nx_q, zb0_s, zb1_s, zb2_s, zb3_s, zb4_s, zb5_s, zb6_s, zb7_s, zb8_s, zb9_s, zb10_s, zb11_s, zb12_s, zb13_s, zb14_s, q_lit, nI_add, pk_mul, e_cl, gi_in, gz_n0, gz_n1, e_gz, si_eq, si_ne, sa_eq, sa_ne, if_true, if_false, ↓reduceIte, k_ltT, k_ltF, k_leT, k_leF, k_eqT, k_eqF, k_m1lt, k_nm1, not_true_eq_false, not_false_eq_true, a7]
        · unfold f_X12_spent
          simp (maxSteps := 3000000) (disch := omega) only [↓nx_q, zb0_s, zb1_s, zb2_s, zb3_s, zb4_s, zb5_s, zb6_s, zb7_s, zb8_s, zb9_s, zb10_s, zb11_s, zb12_s, zb13_s, zb14_s, q_lit, nI_add, pk_mul, e_cl, gi_in, gz_n0, gz_n1, e_gz, si_eq, si_ne, sa_eq, sa_ne, if_true, if_false, ↓reduceIte, k_ltT, k_ltF, k_leT, k_leF, k_eqT, k_eqF, k_m1lt, k_nm1, not_true_eq_false, not_false_eq_true, m, e]
          refine (zb1_of (zl2_fo (fun i => nI (spN σ k w i)) (fun i => nI i) (σ 7) (nI (spN σ k w (σ 7))) (fu_lt (by omega)) rfl rfl (fun i hi => ?_) ?_)).trans rfl
          · have hl := hW.2.2.2.2.2.2 i hi
            show _ = some (Sum.inl (nI (spN σ k w i + (if σ (104 + i) = k then sp1 (σ (144 + i)) w else 0)), nI (i + 1)))
            by_cases q : σ (104 + i) = k
            · rw [if_pos q]
              rcases (by omega : w = 0 ∨ w = 1 ∨ w = 2) with rfl | rfl | rfl
              · rw [sp_0]
                simp (maxSteps := 3000000) (disch := omega) only [↓nx_q, zb0_s, zb1_s, zb2_s, zb3_s, zb4_s, zb5_s, zb6_s, zb7_s, zb8_s, zb9_s, zb10_s, zb11_s, zb12_s, zb13_s, zb14_s, q_lit, nI_add, pk_mul, e_cl, gi_in, gz_n0, gz_n1, e_gz, si_eq, si_ne, sa_eq, sa_ne, if_true, if_false, ↓reduceIte, k_ltT, k_ltF, k_leT, k_leF, k_eqT, k_eqF, k_m1lt, k_nm1, not_true_eq_false, not_false_eq_true, hM0, rw_ap, upd_rw, sa_sa, jn_l, jn_r, jn_4, jn_5, jn_6, jn_ul, jn_ur, jn_u4, jn_u5, jn_u6]
              · by_cases q0 : σ (144 + i) = 0
                · rw [q0, sp_1z]
                  simp (maxSteps := 3000000) (disch := omega) only [↓nx_q, zb0_s, zb1_s, zb2_s, zb3_s, zb4_s, zb5_s, zb6_s, zb7_s, zb8_s, zb9_s, zb10_s, zb11_s, zb12_s, zb13_s, zb14_s, q_lit, nI_add, pk_mul, e_cl, gi_in, gz_n0, gz_n1, e_gz, si_eq, si_ne, sa_eq, sa_ne, if_true, if_false, ↓reduceIte, k_ltT, k_ltF, k_leT, k_leF, k_eqT, k_eqF, k_m1lt, k_nm1, not_true_eq_false, not_false_eq_true, hM0, rw_ap, upd_rw, sa_sa, jn_l, jn_r, jn_4, jn_5, jn_6, jn_ul, jn_ur, jn_u4, jn_u5, jn_u6, q0]
                · rw [sp_1n q0]
                  simp (maxSteps := 3000000) (disch := omega) only [↓nx_q, zb0_s, zb1_s, zb2_s, zb3_s, zb4_s, zb5_s, zb6_s, zb7_s, zb8_s, zb9_s, zb10_s, zb11_s, zb12_s, zb13_s, zb14_s, q_lit, nI_add, pk_mul, e_cl, gi_in, gz_n0, gz_n1, e_gz, si_eq, si_ne, sa_eq, sa_ne, if_true, if_false, ↓reduceIte, k_ltT, k_ltF, k_leT, k_leF, k_eqT, k_eqF, k_m1lt, k_nm1, not_true_eq_false, not_false_eq_true, hM0, rw_ap, upd_rw, sa_sa, jn_l, jn_r, jn_4, jn_5, jn_6, jn_ul, jn_ur, jn_u4, jn_u5, jn_u6, Nat.add_zero]
              · rw [sp_2]
                simp (maxSteps := 3000000) (disch := omega) only [↓nx_q, zb0_s, zb1_s, zb2_s, zb3_s, zb4_s, zb5_s, zb6_s, zb7_s, zb8_s, zb9_s, zb10_s, zb11_s, zb12_s, zb13_s, zb14_s, q_lit, nI_add, pk_mul, e_cl, gi_in, gz_n0, gz_n1, e_gz, si_eq, si_ne, sa_eq, sa_ne, if_true, if_false, ↓reduceIte, k_ltT, k_ltF, k_leT, k_leF, k_eqT, k_eqF, k_m1lt, k_nm1, not_true_eq_false, not_false_eq_true, hM0, rw_ap, upd_rw, sa_sa, jn_l, jn_r, jn_4, jn_5, jn_6, jn_ul, jn_ur, jn_u4, jn_u5, jn_u6]
            · rw [if_neg q]
              simp (maxSteps := 3000000) (disch := omega) only [↓nx_q, zb0_s, zb1_s, zb2_s, zb3_s, zb4_s, zb5_s, zb6_s, zb7_s, zb8_s, zb9_s, zb10_s, zb11_s, zb12_s, zb13_s, zb14_s, q_lit, nI_add, pk_mul, e_cl, gi_in, gz_n0, gz_n1, e_gz, si_eq, si_ne, sa_eq, sa_ne, if_true, if_false, ↓reduceIte, k_ltT, k_ltF, k_leT, k_leF, k_eqT, k_eqF, k_m1lt, k_nm1, not_true_eq_false, not_false_eq_true, hM0, rw_ap, upd_rw, sa_sa, jn_l, jn_r, jn_4, jn_5, jn_6, jn_ul, jn_ur, jn_u4, jn_u5, jn_u6, Nat.add_zero]
          · simp (maxSteps := 3000000) (disch := omega) only [↓nx_q, zb0_s, zb1_s, zb2_s, zb3_s, zb4_s, zb5_s, zb6_s, zb7_s, zb8_s, zb9_s, zb10_s, zb11_s, zb12_s, zb13_s, zb14_s, q_lit, nI_add, pk_mul, e_cl, gi_in, gz_n0, gz_n1, e_gz, si_eq, si_ne, sa_eq, sa_ne, if_true, if_false, ↓reduceIte, k_ltT, k_ltF, k_leT, k_leF, k_eqT, k_eqF, k_m1lt, k_nm1, not_true_eq_false, not_false_eq_true, hM0, rw_ap, upd_rw, sa_sa, jn_l, jn_r, jn_4, jn_5, jn_6, jn_ul, jn_ur, jn_u4, jn_u5, jn_u6]
      · have e := m_isInO (a := 0) (b := 2) (by decide) ho2 (by decide)
        refine ⟨-1, ?_, ?_⟩
        · unfold f_X11_spent
          rcases ho2 with h | h
          · simp (maxSteps := 3000000) (disch := omega) only [↓nx_q, zb0_s, zb1_s, zb2_s, zb3_s, zb4_s, zb5_s, zb6_s, zb7_s, zb8_s, zb9_s, zb10_s, zb11_s, zb12_s, zb13_s, zb14_s, q_lit, nI_add, pk_mul, e_cl, gi_in, gz_n0, gz_n1, e_gz, si_eq, si_ne, sa_eq, sa_ne, if_true, if_false, ↓reduceIte, k_ltT, k_ltF, k_leT, k_leF, k_eqT, k_eqF, k_m1lt, k_nm1, not_true_eq_false, not_false_eq_true, c, o_neg h]
          · have := o_big2 (b := 2) (by decide) h
            simp (maxSteps := 3000000) (disch := omega) only [↓nx_q, zb0_s, zb1_s, zb2_s, zb3_s, zb4_s, zb5_s, zb6_s, zb7_s, zb8_s, zb9_s, zb10_s, zb11_s, zb12_s, zb13_s, zb14_s, q_lit, nI_add, pk_mul, e_cl, gi_in, gz_n0, gz_n1, e_gz, si_eq, si_ne, sa_eq, sa_ne, if_true, if_false, ↓reduceIte, k_ltT, k_ltF, k_leT, k_leF, k_eqT, k_eqF, k_m1lt, k_nm1, not_true_eq_false, not_false_eq_true, c, this.2.2.1, this.2.2.2]
        · unfold f_X12_spent
          simp (maxSteps := 3000000) (disch := omega) only [↓nx_q, zb0_s, zb1_s, zb2_s, zb3_s, zb4_s, zb5_s, zb6_s, zb7_s, zb8_s, zb9_s, zb10_s, zb11_s, zb12_s, zb13_s, zb14_s, q_lit, nI_add, pk_mul, e_cl, gi_in, gz_n0, gz_n1, e_gz, si_eq, si_ne, sa_eq, sa_ne, if_true, if_false, ↓reduceIte, k_ltT, k_ltF, k_leT, k_leF, k_eqT, k_eqF, k_m1lt, k_nm1, not_true_eq_false, not_false_eq_true, m, e]
    · have c := c_hasOut a2 ho
      have m := m_isItemOut hs (by omega) ho
      refine ⟨-1, ?_, ?_⟩
      · unfold f_X11_spent
        simp (maxSteps := 3000000) (disch := omega) only [↓nx_q, zb0_s, zb1_s, zb2_s, zb3_s, zb4_s, zb5_s, zb6_s, zb7_s, zb8_s, zb9_s, zb10_s, zb11_s, zb12_s, zb13_s, zb14_s, q_lit, nI_add, pk_mul, e_cl, gi_in, gz_n0, gz_n1, e_gz, si_eq, si_ne, sa_eq, sa_ne, if_true, if_false, ↓reduceIte, k_ltT, k_ltF, k_leT, k_leF, k_eqT, k_eqF, k_m1lt, k_nm1, not_true_eq_false, not_false_eq_true, c]
      · unfold f_X12_spent
        simp (maxSteps := 3000000) (disch := omega) only [↓nx_q, zb0_s, zb1_s, zb2_s, zb3_s, zb4_s, zb5_s, zb6_s, zb7_s, zb8_s, zb9_s, zb10_s, zb11_s, zb12_s, zb13_s, zb14_s, q_lit, nI_add, pk_mul, e_cl, gi_in, gz_n0, gz_n1, e_gz, si_eq, si_ne, sa_eq, sa_ne, if_true, if_false, ↓reduceIte, k_ltT, k_ltF, k_leT, k_leF, k_eqT, k_eqF, k_m1lt, k_nm1, not_true_eq_false, not_false_eq_true, m]
  exact ⟨V, PK, PI, M, r, by unfold g_spent; rw [zb1_of e1], by unfold h_spent; rw [zb1_of e2], σ, g, fc, fm, hR⟩
/-- where the signs of an ITEM begin -/
abbrev cuN (σ : Nat → Nat) (k : Nat) : Nat := sumB (szN σ) (σ 3) k
theorem cu_mono {σ : Nat → Nat} {k n : Nat} (h : k ≤ n) : cuN σ k ≤ cuN σ n := by
  induction n with
  | zero =>
    have : k = 0 := by omega
    subst this
    exact Nat.le_refl _
  | succ n ih =>
    by_cases e : k = n + 1
    · subst e; exact Nat.le_refl _
    · have := ih (by omega)
      rw [show cuN σ (n + 1) = cuN σ n + _ from sumB_s _ _ _]
      omega
theorem cu_find {σ : Nat → Nat} : ∀ {n p : Nat}, p < cuN σ n → ∃ k x, k < n ∧ (σ 3).testBit k = true ∧ x < σ (8 + k) ∧ p = cuN σ k + x
  | 0, p, h => by
    have : cuN σ 0 = 0 := rfl
    omega
  | n + 1, p, h => by
    rw [show cuN σ (n + 1) = cuN σ n + _ from sumB_s _ _ _] at h
    by_cases q : p < cuN σ n
    · obtain ⟨k, x, h1, h2⟩ := cu_find q
      exact ⟨k, x, by omega, h2⟩
    · by_cases b : (σ 3).testBit n = true
      · rw [if_pos b] at h
        exact ⟨n, p - cuN σ n, by omega, b, by show _ < szN σ n; omega, by omega⟩
      · rw [if_neg b] at h
        omega
/-- the picture up to ITEM i -/
def PcA (f : Fn) (σ : Nat → Nat) (i : Nat) : Prop := ∀ k, k < i → (σ 3).testBit k = true → ∀ x, x < σ (8 + k) → f (cuN σ k + x) = nI (σ (56 + 6 * k))
theorem let_c {σ : Nat → Nat} {w : Ob} {k : Nat} (hw : RCw w σ) (hn : WFn σ) (h8 : σ 2 ≤ 8) (hk : k < σ 2) : f_X10_firstLetter w (nI k) = some (nI (σ (56 + 6 * k))) := by
  have h4 := (hw.2 k hk).2.2.2
  have hl := (hn k hk).1
  have e : packN σ k = l5 (σ (56 + 6 * k)) + 32 * (l5 (σ (56 + 6 * k + 1)) + 32 * (l5 (σ (56 + 6 * k + 2)) + 32 * (l5 (σ (56 + 6 * k + 3)) + 32 * (l5 (σ (56 + 6 * k + 4)) + 32 * l5 (σ (56 + 6 * k + 5)))))) := rfl
  have e5 : l5 (σ (56 + 6 * k)) = σ (56 + 6 * k) - 96 := if_neg (by omega)
  unfold f_X10_firstLetter
  simp (maxSteps := 3000000) (disch := omega) only [↓nx_q, zb0_s, zb1_s, zb2_s, zb3_s, zb4_s, zb5_s, zb6_s, zb7_s, zb8_s, zb9_s, zb10_s, zb11_s, zb12_s, zb13_s, zb14_s, q_lit, nI_add, pk_mul, e_cl, gi_in, gz_n0, gz_n1, e_gz, si_eq, si_ne, sa_eq, sa_ne, if_true, if_false, ↓reduceIte, k_ltT, k_ltF, k_leT, k_leF, k_eqT, k_eqF, k_m1lt, k_nm1, not_true_eq_false, not_false_eq_true, h4, q_and]
  rw [show (31 : Nat) = 2 ^ 5 - 1 from rfl, Nat.and_two_pow_sub_one_eq_mod, e_sub (by omega)]
  refine congrArg some (congrArg nI ?_)
  generalize (l5 (σ (56 + 6 * k + 1)) + 32 * (l5 (σ (56 + 6 * k + 2)) + 32 * (l5 (σ (56 + 6 * k + 3)) + 32 * (l5 (σ (56 + 6 * k + 4)) + 32 * l5 (σ (56 + 6 * k + 5)))))) = z at e
  rw [e, e5]
  omega
theorem let_m {c : Nat} (h : 97 ≤ c ∧ c ≤ 122) : (nI c).toInt8.toInt32 = nI c := by
  have : ∀ j : Fin 26, (nI (97 + j.val)).toInt8.toInt32 = nI (97 + j.val) := by decide
  have := this ⟨c - 97, by omega⟩
  dsimp only at this
  rw [show 97 + (c - 97) = c by omega] at this
  exact this
