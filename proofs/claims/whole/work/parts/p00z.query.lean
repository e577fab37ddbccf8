/-! ===== questions ===== -/
theorem both_some {α : Type} {x y : Option α} (h : x = y) (hx : x.isSome = true) : ∃ r, x = some r ∧ y = some r := by
  subst h
  obtain ⟨r, e⟩ := Option.isSome_iff_exists.mp hx
  exact ⟨r, e, e⟩
theorem e_some {α : Type} {c : Prop} {_ : Decidable c} {a b : α} : (if c then some a else some b) = some (if c then a else b) := by
  by_cases h : c
  · rw [if_pos h, if_pos h]
  · rw [if_neg h, if_neg h]
theorem is_ite {α : Type} {c : Prop} {_ : Decidable c} {x y : Option α} (hx : x.isSome = true) (hy : y.isSome = true) : (if c then x else y).isSome = true := by
  by_cases h : c
  · rw [if_pos h]; exact hx
  · rw [if_neg h]; exact hy
theorem R_fault : St_fault Rel := by
  intro V PK PI M hR
  obtain ⟨σ, g, fc, fm, hR⟩ := hR
  have e : V 1 2 0 = M 13 0 := hR.2.2.2.2.2.2.1
  exact ⟨V, PK, PI, M, V 1 2 0, rfl, by rw [e]; rfl, σ, g, fc, fm, hR⟩
theorem R_ride : St_ride Rel := by
  intro V PK PI M v1 hR
  obtain ⟨σ, g, fc, fm, hR⟩ := hR
  have h := hR.2.2.2.2.2.2.2.2.1
  obtain ⟨r, e1, e2⟩ := r_row (by decide) h v1
  refine ⟨V, PK, PI, M, r, ?_, ?_, σ, g, fc, fm, hR⟩
  · unfold g_ride f_X11_ride
    rw [zb1_of e1]
  · unfold h_ride f_X12_ride
    rw [zb1_of e2]
theorem R_byteAt : St_byteAt Rel := by
  intro V PK PI M v1 hR
  obtain ⟨σ, g, fc, fm, hR⟩ := hR
  have h := hR.2.2.2.2.2.2.2.1
  obtain ⟨r, e1, e2⟩ := r_row (by decide) h v1
  refine ⟨V, PK, PI, M, r, ?_, ?_, σ, g, fc, fm, hR⟩
  · unfold g_byteAt f_X11_byteAt
    rw [zb1_of e1]
  · unfold h_byteAt f_X12_byteAt
    rw [zb1_of e2]
theorem R_gate : St_gate Rel := by
  intro V PK PI M v1 hR
  obtain ⟨σ, g, fc, fm, hR⟩ := hR
  have h1 := hR.2.1
  have h2 := hR.2.2.1
  have h : RRow (V 11 1 0) (V 11 0) (M 20 0) (M 19) 60 := ⟨4 * g, by have := h1.1; omega, h1.2.1, h2.2.1, fun i hi => by rw [h1.2.2.2 i hi, h2.2.2.2 i hi]⟩
  obtain ⟨r, e1, e2⟩ := r_row (by decide) h v1
  refine ⟨V, PK, PI, M, r, ?_, ?_, σ, g, fc, fm, hR⟩
  · unfold g_gate f_X11_gate
    rw [zb1_of e1]
  · unfold h_gate f_X12_gate
    rw [zb1_of e2]
theorem R_now : St_now Rel := by
  intro V PK PI M v1 hR
  obtain ⟨σ, g, fc, fm, hR⟩ := hR
  have hR0 := hR
  obtain ⟨⟨hM0, hW, hRC⟩, hGC, hGM, hHi, hPl, hO⟩ := hR0
  obtain ⟨n, t, t1, t2, t3, t4⟩ := hO.1
  have h8 := hW.1.1
  have h3 := Wv_3 hW.1
  have hl := hW.1.2.2.2.1
  have hM1 : M 0 = rw (jn σ σ) := by rw [jn_self]; exact hM0
  have hlies := m_lies hM1 h8 (by omega)
  have a0 : V 5 0 0 = nI (σ 0) := hRC.2.2.1.1
  have a1 : V 5 1 0 = nI (σ 1) := hRC.2.2.1.2.1
  have a3 : V 5 2 0 = nI (σ 3) := hRC.2.2.1.2.2.1
  have al : V 5 3 0 = nI (liesN σ) := hRC.2.2.1.2.2.2.1
  have a2 : V 4 0 0 = nI (σ 2) := hRC.2.1.1
  have a4 : V 3 4 0 = nI (σ 4) := hRC.1.1
  have a5 : V 3 5 0 = nI (σ 5) := hRC.1.2.1
  have a6 : V 3 6 0 = nI (σ 6) := hRC.1.2.2
  have a7 : V 6 0 0 = nI (σ 7) := hRC.2.2.2.1.1
  obtain ⟨r, e1, e2⟩ : ∃ r, f_X11_now (V 1) (V 3) (V 4) (V 5) (V 6) v1 = some r ∧ f_X12_now M v1 = some r := by
    refine both_some ?_ ?_
    · unfold f_X11_now f_X12_now f_X8_free
      simp (maxSteps := 3000000) (disch := omega) only [↓nx_q, zb0_s, zb1_s, zb2_s, zb3_s, zb4_s, zb5_s, zb6_s, zb7_s, zb8_s, zb9_s, zb10_s, zb11_s, zb12_s, zb13_s, zb14_s, q_lit, nI_add, pk_mul, e_cl, gi_in, gz_n0, gz_n1, e_gz, si_eq, si_ne, sa_eq, sa_ne, if_true, if_false, ↓reduceIte, k_ltT, k_ltF, k_leT, k_leF, k_eqT, k_eqF, k_m1lt, k_nm1, not_true_eq_false, not_false_eq_true, hM0, rw_ap, upd_rw, sa_sa, jn_l, jn_r, jn_4, jn_5, jn_6, jn_ul, jn_ur, jn_u4, jn_u5, jn_u6, hlies, a0, a1, a2, a3, a4, a5, a6, a7, al, t2, t3]
    · unfold f_X11_now f_X8_free
      exact is_ite rfl (is_ite rfl (is_ite rfl (is_ite rfl (is_ite rfl (is_ite rfl (is_ite rfl (is_ite rfl (is_ite rfl (is_ite rfl rfl)))))))))
  exact ⟨V, PK, PI, M, r, by unfold g_now; rw [zb1_of e1], by unfold h_now; rw [zb1_of e2], σ, g, fc, fm, hR⟩
theorem R_log : St_log Rel := by
  intro V PK PI M v1 v2 hR
  obtain ⟨σ, g, fc, fm, hR⟩ := hR
  have hR0 := hR
  obtain ⟨⟨hM0, hW, hRC⟩, hGC, hGM, hHi, hPl, hO⟩ := hR0
  have h7 := hW.2.2.1
  have a7 : V 6 0 0 = nI (σ 7) := hRC.2.2.2.1.1
  have hs : MR (M 0) σ := fun j _ => by rw [hM0]; rfl
  obtain ⟨r, e1, e2⟩ : ∃ r, f_X11_log (V 6) v1 v2 = some r ∧ f_X12_log M v1 v2 = some r := by
    rcases q_rng v1 (n := σ 7) (by omega) with ⟨k, hk, rfl⟩ | ho
    · have c := c_lhasIn a7 (by omega) hk
      have m := m_isLoggedIn hs (by omega) hk
      obtain ⟨l1, l2, l3, -⟩ : V 6 1 k = nI (σ (104 + k)) ∧ V 6 2 k = nI (σ (144 + k)) ∧ V 6 3 k = nI (σ (184 + k)) ∧ _ := hRC.2.2.2.1.2 k hk
      refine both_some ?_ ?_
      · unfold f_X11_log f_X12_log
        simp (maxSteps := 3000000) (disch := omega) only [↓nx_q, zb0_s, zb1_s, zb2_s, zb3_s, zb4_s, zb5_s, zb6_s, zb7_s, zb8_s, zb9_s, zb10_s, zb11_s, zb12_s, zb13_s, zb14_s, q_lit, nI_add, pk_mul, e_cl, gi_in, gz_n0, gz_n1, e_gz, si_eq, si_ne, sa_eq, sa_ne, if_true, if_false, ↓reduceIte, k_ltT, k_ltF, k_leT, k_leF, k_eqT, k_eqF, k_m1lt, k_nm1, not_true_eq_false, not_false_eq_true, c, m, hM0, rw_ap, upd_rw, sa_sa, jn_l, jn_r, jn_4, jn_5, jn_6, jn_ul, jn_ur, jn_u4, jn_u5, jn_u6, l1, l2, l3]
      · unfold f_X11_log
        simp (maxSteps := 3000000) (disch := omega) only [↓nx_q, zb0_s, zb1_s, zb2_s, zb3_s, zb4_s, zb5_s, zb6_s, zb7_s, zb8_s, zb9_s, zb10_s, zb11_s, zb12_s, zb13_s, zb14_s, q_lit, nI_add, pk_mul, e_cl, gi_in, gz_n0, gz_n1, e_gz, si_eq, si_ne, sa_eq, sa_ne, if_true, if_false, ↓reduceIte, k_ltT, k_ltF, k_leT, k_leF, k_eqT, k_eqF, k_m1lt, k_nm1, not_true_eq_false, not_false_eq_true, c, e_some, Option.isSome_some]
    · have c := c_lhasOut a7 ho
      have m := m_isLoggedOut hs (by omega) ho
      refine both_some ?_ ?_
      · unfold f_X11_log f_X12_log
        simp (maxSteps := 3000000) (disch := omega) only [↓nx_q, zb0_s, zb1_s, zb2_s, zb3_s, zb4_s, zb5_s, zb6_s, zb7_s, zb8_s, zb9_s, zb10_s, zb11_s, zb12_s, zb13_s, zb14_s, q_lit, nI_add, pk_mul, e_cl, gi_in, gz_n0, gz_n1, e_gz, si_eq, si_ne, sa_eq, sa_ne, if_true, if_false, ↓reduceIte, k_ltT, k_ltF, k_leT, k_leF, k_eqT, k_eqF, k_m1lt, k_nm1, not_true_eq_false, not_false_eq_true, c, m]
      · unfold f_X11_log
        simp (maxSteps := 3000000) (disch := omega) only [↓nx_q, zb0_s, zb1_s, zb2_s, zb3_s, zb4_s, zb5_s, zb6_s, zb7_s, zb8_s, zb9_s, zb10_s, zb11_s, zb12_s, zb13_s, zb14_s, q_lit, nI_add, pk_mul, e_cl, gi_in, gz_n0, gz_n1, e_gz, si_eq, si_ne, sa_eq, sa_ne, if_true, if_false, ↓reduceIte, k_ltT, k_ltF, k_leT, k_leF, k_eqT, k_eqF, k_m1lt, k_nm1, not_true_eq_false, not_false_eq_true, c, e_some, Option.isSome_some]
  exact ⟨V, PK, PI, M, r, by unfold g_log; rw [zb1_of e1], by unfold h_log; rw [zb1_of e2], σ, g, fc, fm, hR⟩
theorem HT_mono {c d h : Nat} (hcd : c ≤ d) (hd : d ≤ 100) (hh : HT c h) : HT d h := by
  rcases hh with hh | hh
  · exact Or.inl hh
  · exact Or.inr ⟨Nat.le_trans (Nat.mul_le_mul_right _ (by omega)) hh.1, Nat.le_trans hh.2 (Nat.mul_le_mul_right _ (by omega))⟩
theorem R_item : St_item Rel := by
  intro V PK PI M v1 v2 hR
  obtain ⟨σ, g, fc, fm, hR⟩ := hR
  have hR0 := hR
  obtain ⟨⟨hM0, hW, hRC⟩, hGC, hGM, hHi, hPl, hO⟩ := hR0
  have h8 := hW.1.1
  have a2 : V 4 0 0 = nI (σ 2) := hRC.2.1.1
  have hs : MR (M 0) σ := fun j _ => by rw [hM0]; rfl
  obtain ⟨r, e1, e2⟩ : ∃ r, f_X11_item (V 4) (V 5) v1 v2 = some r ∧ f_X12_item_ M v1 v2 = some r := by
    rcases q_rng v1 (n := σ 2) (by omega) with ⟨k, hk, rfl⟩ | ho
    · have c := c_hasIn a2 (by omega) hk
      have m := m_isItemIn hs (by omega) hk
      obtain ⟨l1, l2, l3, -⟩ : V 4 1 k = nI (σ (8 + k)) ∧ V 4 2 k = nI (σ (16 + k)) ∧ V 4 3 k = nI (σ (24 + k)) ∧ _ := hRC.2.1.2 k hk
      obtain ⟨s1, s2, s3⟩ : V 5 4 k = nI (σ (32 + k)) ∧ V 5 6 k = nI (σ (48 + k)) ∧ (k < σ 2 → V 5 5 k = nI (σ (40 + k))) := hRC.2.2.1.2.2.2.2 k (by omega)
      have s3 := s3 hk
      have hb := c_floatBits (HT_mono (by have := hW.2.2.1; omega) (Nat.le_refl _) (hW.2.2.2.1 k (by omega)).1)
      refine both_some ?_ ?_
      · unfold f_X11_item f_X12_item_
        simp (maxSteps := 3000000) (disch := omega) only [↓nx_q, zb0_s, zb1_s, zb2_s, zb3_s, zb4_s, zb5_s, zb6_s, zb7_s, zb8_s, zb9_s, zb10_s, zb11_s, zb12_s, zb13_s, zb14_s, q_lit, nI_add, pk_mul, e_cl, gi_in, gz_n0, gz_n1, e_gz, si_eq, si_ne, sa_eq, sa_ne, if_true, if_false, ↓reduceIte, k_ltT, k_ltF, k_leT, k_leF, k_eqT, k_eqF, k_m1lt, k_nm1, not_true_eq_false, not_false_eq_true, c, m, hM0, rw_ap, upd_rw, sa_sa, jn_l, jn_r, jn_4, jn_5, jn_6, jn_ul, jn_ur, jn_u4, jn_u5, jn_u6, l1, l2, l3, s1, s2, s3, hb]
      · unfold f_X11_item
        simp (maxSteps := 3000000) (disch := omega) only [↓nx_q, zb0_s, zb1_s, zb2_s, zb3_s, zb4_s, zb5_s, zb6_s, zb7_s, zb8_s, zb9_s, zb10_s, zb11_s, zb12_s, zb13_s, zb14_s, q_lit, nI_add, pk_mul, e_cl, gi_in, gz_n0, gz_n1, e_gz, si_eq, si_ne, sa_eq, sa_ne, if_true, if_false, ↓reduceIte, k_ltT, k_ltF, k_leT, k_leF, k_eqT, k_eqF, k_m1lt, k_nm1, not_true_eq_false, not_false_eq_true, c, s2, hb, e_some, Option.isSome_some]
    · have c := c_hasOut a2 ho
      have m := m_isItemOut hs (by omega) ho
      refine both_some ?_ ?_
      · unfold f_X11_item f_X12_item_
        simp (maxSteps := 3000000) (disch := omega) only [↓nx_q, zb0_s, zb1_s, zb2_s, zb3_s, zb4_s, zb5_s, zb6_s, zb7_s, zb8_s, zb9_s, zb10_s, zb11_s, zb12_s, zb13_s, zb14_s, q_lit, nI_add, pk_mul, e_cl, gi_in, gz_n0, gz_n1, e_gz, si_eq, si_ne, sa_eq, sa_ne, if_true, if_false, ↓reduceIte, k_ltT, k_ltF, k_leT, k_leF, k_eqT, k_eqF, k_m1lt, k_nm1, not_true_eq_false, not_false_eq_true, c, m]
      · unfold f_X11_item
        simp (maxSteps := 3000000) (disch := omega) only [↓nx_q, zb0_s, zb1_s, zb2_s, zb3_s, zb4_s, zb5_s, zb6_s, zb7_s, zb8_s, zb9_s, zb10_s, zb11_s, zb12_s, zb13_s, zb14_s, q_lit, nI_add, pk_mul, e_cl, gi_in, gz_n0, gz_n1, e_gz, si_eq, si_ne, sa_eq, sa_ne, if_true, if_false, ↓reduceIte, k_ltT, k_ltF, k_leT, k_leF, k_eqT, k_eqF, k_m1lt, k_nm1, not_true_eq_false, not_false_eq_true, c, e_some, Option.isSome_some]
  exact ⟨V, PK, PI, M, r, by unfold g_item; rw [zb1_of e1], by unfold h_item; rw [zb1_of e2], σ, g, fc, fm, hR⟩
