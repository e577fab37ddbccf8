/-! ===== back to what was ===== -/
theorem RPlan_forget {p : Ob} {σ : Nat → Nat} : f_X5_forget p = some (si (si p 7 (-nI 1)) 8 (-nI 1)) ∧ RPlan (si (si p 7 (-nI 1)) 8 (-nI 1)) σ ∧ (si (si p 7 (-nI 1)) 8 (-nI 1)) 0 = p 0 := by
  refine ⟨rfl, Or.inl ⟨?_, ?_⟩, ?_⟩
  · simp (disch := omega) only [si_eq, si_ne, sa_eq, sa_ne, upd_eq, upd_ne, updN_eq, updN_ne]
  · simp (disch := omega) only [si_eq, si_ne, sa_eq, sa_ne, upd_eq, upd_ne, updN_eq, updN_ne]
  · simp (disch := omega) only [si_eq, si_ne, sa_eq, sa_ne, upd_eq, upd_ne, updN_eq, updN_ne]
/-- the row that comes back -/
theorem row_back {f : Fn} {σ τ : Nat → Nat} {j : Nat} (h : KR f j τ) : ∃ ρ, cpF f (rw σ) (835 * j) 0 = rw ρ ∧ ∀ i, i < 835 → ρ i = τ i := by
  refine ⟨fun i => if i < 835 then τ i else σ i, ?_, fun i hi => if_pos hi⟩
  funext i
  by_cases q : i < 835
  · have := cpF_in (f0 := f) (f2 := rw σ) (a := 835 * j) (b := 0) q
    rw [Nat.zero_add] at this
    rw [this, h i q]
    show _ = nI (if i < 835 then τ i else σ i)
    rw [if_pos q]
  · rw [cpF_out (by omega)]
    show _ = nI (if i < 835 then τ i else σ i)
    rw [if_neg q]
    rfl
theorem R_undo : St_undo Rel := by
  intro V PK PI M hR
  obtain ⟨σ, g, fc, fm, hR⟩ := hR
  have hR0 := hR
  obtain ⟨⟨hM0, hW, hRC⟩, hGC, hGM, hHi, hPl, hO⟩ := hR0
  obtain ⟨a, c, τ, ha, hc, h1, h2, h5, hK⟩ := hHi
  by_cases q : c = 0
  · subst q
    refine ⟨V, PK, PI, M, -1, ?_, ?_, σ, g, fc, fm, hR⟩
    · unfold g_undo f_X11_undo f_X3_takeBack
      simp (maxSteps := 3000000) (disch := omega) only [↓nx_q, zb0_s, zb1_s, zb2_s, zb3_s, zb4_s, zb5_s, zb6_s, zb7_s, zb8_s, zb9_s, zb10_s, zb11_s, zb12_s, zb13_s, zb14_s, q_lit, nI_add, pk_mul, e_cl, gi_in, gz_n0, gz_n1, e_gz, si_eq, si_ne, sa_eq, sa_ne, if_true, if_false, ↓reduceIte, k_ltT, k_ltF, k_leT, k_leF, k_eqT, k_eqF, k_m1lt, k_nm1, not_true_eq_false, not_false_eq_true, h2, vu_self]
    · unfold h_undo f_X12_undo
      simp (maxSteps := 3000000) (disch := omega) only [↓nx_q, zb0_s, zb1_s, zb2_s, zb3_s, zb4_s, zb5_s, zb6_s, zb7_s, zb8_s, zb9_s, zb10_s, zb11_s, zb12_s, zb13_s, zb14_s, q_lit, nI_add, pk_mul, e_cl, gi_in, gz_n0, gz_n1, e_gz, si_eq, si_ne, sa_eq, sa_ne, if_true, if_false, ↓reduceIte, k_ltT, k_ltF, k_leT, k_leF, k_eqT, k_eqF, k_m1lt, k_nm1, not_true_eq_false, not_false_eq_true, h5]
  · obtain ⟨k1, k2, U, k3, k4⟩ := hK (c - 1) (by omega)
    have hrg := rg_lt ha (show c - 1 < 8 by omega)
    have hp := c_place h1 ha (show c - 1 ≤ 8 by omega)
    obtain ⟨y, ey, hy⟩ := c_copy (d0 := V 3) (d1 := V 4) (d2 := V 5) (d3 := V 6) (d4 := V 7) (d5 := V 8) (d6 := V 9) k4 k2.1.1 k2.2.2.1
    obtain ⟨y0, y1, y2, y3, y4, y5, y6⟩ := y
    dsimp only at hy
    obtain ⟨ρ, eρ, hρ⟩ := row_back (σ := σ) k1
    have hWρ : WF ρ := WF_al k2 (fun j _ _ _ hj => hρ j (by omega))
    have hcp := m_copies (f0 := M 2) (f2 := M 0) (show 835 * (c - 1) + 835 ≤ 6680 by omega) (show 0 + 835 ≤ 835 by decide) (by decide) (by decide)
    have hcp2 : f_X12_copies 6680 (M 2) 835 (rw σ) (nI (835 * (c - 1))) (nI 0) = some (rw ρ) := by rw [← hM0, hcp, hM0, eρ]
    have hfo := @RPlan_forget (V 14) ρ
    refine ⟨vu (vu (vu (vu (vu (vu (vu (vu (vu V 3 y0) 4 y1) 5 y2) 6 y3) 7 y4) 8 y5) 9 y6) 10 (si (V 10) 2 (nI (c - 1)))) 14 (si (si (V 14) 7 (-nI 1)) 8 (-nI 1)), PK, PI, sa (si M 5 (nI (c - 1))) 0 (rw ρ), nI (c - 1), ?_, ?_, ρ, g, fc, fm, ⟨?_, hWρ, ?_⟩, ?_, ?_, ?_, ?_, ?_⟩
    · unfold g_undo f_X11_undo f_X3_takeBack
      simp (maxSteps := 3000000) (disch := omega) only [↓nx_q, zb0_s, zb1_s, zb2_s, zb3_s, zb4_s, zb5_s, zb6_s, zb7_s, zb8_s, zb9_s, zb10_s, zb11_s, zb12_s, zb13_s, zb14_s, q_lit, nI_add, pk_mul, e_cl, gi_in, gz_n0, gz_n1, e_gz, si_eq, si_ne, sa_eq, sa_ne, if_true, if_false, ↓reduceIte, k_ltT, k_ltF, k_leT, k_leF, k_eqT, k_eqF, k_m1lt, k_nm1, not_true_eq_false, not_false_eq_true, h2, e_sub, hp, k3, zp, ey, hfo.1]
    · unfold h_undo f_X12_undo
      simp (maxSteps := 3000000) (disch := omega) only [↓nx_q, zb0_s, zb1_s, zb2_s, zb3_s, zb4_s, zb5_s, zb6_s, zb7_s, zb8_s, zb9_s, zb10_s, zb11_s, zb12_s, zb13_s, zb14_s, q_lit, nI_add, pk_mul, e_cl, gi_in, gz_n0, gz_n1, e_gz, si_eq, si_ne, sa_eq, sa_ne, if_true, if_false, ↓reduceIte, k_ltT, k_ltF, k_leT, k_leF, k_eqT, k_eqF, k_m1lt, k_nm1, not_true_eq_false, not_false_eq_true, h5, hM0, e_sub, hcp2]
    · rw [sa_eq]
    · refine RC_un (RC_all hy k2 hρ) ?_ ?_ ?_ ?_ ?_ ?_ ?_ <;> simp (disch := omega) only [vu_eq, vu_ne]
    · simp (disch := omega) only [vu_eq, vu_ne]
      exact hGC
    · exact GM_fr hGM (by simp (disch := omega) only [si_eq, si_ne, sa_eq, sa_ne, upd_eq, upd_ne, updN_eq, updN_ne]) (by simp (disch := omega) only [si_eq, si_ne, sa_eq, sa_ne, upd_eq, upd_ne, updN_eq, updN_ne]) (by simp (disch := omega) only [si_eq, si_ne, sa_eq, sa_ne, upd_eq, upd_ne, updN_eq, updN_ne])
    · simp (disch := omega) only [vu_eq, vu_ne]
      refine ⟨a, c - 1, τ, ha, by omega, ?_, ?_, ?_, fun j hj => ?_⟩
      · simp (disch := omega) only [si_eq, si_ne, sa_eq, sa_ne, upd_eq, upd_ne, updN_eq, updN_ne, h1]
      · simp (disch := omega) only [si_eq, si_ne, sa_eq, sa_ne, upd_eq, upd_ne, updN_eq, updN_ne]
      · simp (disch := omega) only [si_eq, si_ne, sa_eq, sa_ne, upd_eq, upd_ne, updN_eq, updN_ne]
      · simp (disch := omega) only [si_eq, si_ne, sa_eq, sa_ne, upd_eq, upd_ne, updN_eq, updN_ne]
        exact hK j (by omega)
    · simp (disch := omega) only [vu_eq, vu_ne]
      exact hfo.2.1
    · refine RelO_fr hO ?_ ?_ ?_ ?_ ?_ (fun j hj => ?_)
      · simp (disch := omega) only [vu_eq, vu_ne]
      · simp (disch := omega) only [vu_eq, vu_ne]
      · simp (disch := omega) only [vu_eq, vu_ne]
      · simp (disch := omega) only [vu_eq, vu_ne, si_eq, si_ne, sa_eq, sa_ne, upd_eq, upd_ne, updN_eq, updN_ne]
      · simp (disch := omega) only [vu_eq, vu_ne]
      · simp (disch := omega) only [si_eq, si_ne, sa_eq, sa_ne, upd_eq, upd_ne, updN_eq, updN_ne]
theorem m_in01 {k : Nat} (h : k < 2) : f_X12_isIn (nI k) (nI 0) (nI 1) = some (nI 1) := by
  rw [m_isIn]
  exact congrArg some (if_pos ⟨nI_pos' (by omega), nI_le (a := k) (b := 1) (by omega) (by decide)⟩)
theorem m_out01 {v : Int32} (h : v < 0 ∨ nI 2 ≤ v) : f_X12_isIn v (nI 0) (nI 1) = some (nI 0) := by
  rw [m_isIn]
  refine congrArg some (if_neg (fun q => ?_))
  rcases h with h2 | h2
  · exact absurd h2 (Int32.not_lt.mpr q.1)
  · exact absurd (Int32.le_trans h2 q.2) (by decide)
/-- a number outside a range, as conditions -/
theorem o_neg {v : Int32} (h : v < 0) : (v < nI 0) = True := eq_true h
theorem o_big {v : Int32} {n : Nat} (hn : n < 2147483648) (h : nI n ≤ v) : (v < nI 0) = False ∧ (nI n ≤ v) = True ∧ (v < nI n) = False := by
  refine ⟨eq_false (Int32.not_lt.mpr (Int32.le_trans (nI_le (Nat.zero_le n) (by omega)) h)), eq_true h, eq_false (Int32.not_lt.mpr h)⟩
theorem R_image : St_image Rel := by
  intro V PK PI M v1 hR
  obtain ⟨σ, g, fc, fm, hR⟩ := hR
  have hR0 := hR
  obtain ⟨⟨hM0, hW, hRC⟩, hGC, hGM, hHi, hPl, hO⟩ := hR0
  rcases q_rng v1 (n := 2) (by decide) with ⟨k, hk, rfl⟩ | ho
  · obtain ⟨y, ey, hy⟩ := c_copy (d0 := ((PI k).getD V9) 0) (d1 := ((PI k).getD V9) 1) (d2 := ((PI k).getD V9) 2) (d3 := ((PI k).getD V9) 3) (d4 := ((PI k).getD V9) 4) (d5 := ((PI k).getD V9) 5) (d6 := ((PI k).getD V9) 6) hRC hW.1.1 hW.2.2.1
    obtain ⟨y0, y1, y2, y3, y4, y5, y6⟩ := y
    dsimp only at hy
    have ey' : f_X9_copyFrom (((PI k).getD V9) 0) (((PI k).getD V9) 1) (((PI k).getD V9) 2) (((PI k).getD V9) 3) (((PI k).getD V9) 4) (((PI k).getD V9) 5) (((PI k).getD V9) 6) (V 3) (V 4) (V 5) (V 6) (V 7) (V 8) (V 9) = some (y0, y1, y2, y3, y4, y5, y6) := ey
    have hcp := m_copies (f0 := M 0) (f2 := M 1) (show 0 + 835 ≤ 835 by decide) (show 835 * k + 835 ≤ 1670 by omega) (by decide) (by decide)
    have hb : vp_nar .boolean (nI 1) = nI 1 := rfl
    refine ⟨V, PK, upP PI k (v7 y0 y1 y2 y3 y4 y5 y6), sa (sa M 1 (cpF (M 0) (M 1) 0 (835 * k))) 4 (upd (M 4) k (nI 1)), nI 1, ?_, ?_, σ, g, fc, fm, ⟨?_, hW, hRC⟩, hGC, ?_, ?_, hPl, ?_⟩
    · unfold g_image f_X11_image
      simp (maxSteps := 3000000) (disch := omega) only [↓nx_q, zb0_s, zb1_s, zb2_s, zb3_s, zb4_s, zb5_s, zb6_s, zb7_s, zb8_s, zb9_s, zb10_s, zb11_s, zb12_s, zb13_s, zb14_s, q_lit, nI_add, pk_mul, e_cl, gi_in, gz_n0, gz_n1, e_gz, si_eq, si_ne, sa_eq, sa_ne, if_true, if_false, ↓reduceIte, k_ltT, k_ltF, k_leT, k_leF, k_eqT, k_eqF, k_m1lt, k_nm1, not_true_eq_false, not_false_eq_true, ey']
    · unfold h_image f_X12_image
      simp (maxSteps := 3000000) (disch := omega) only [↓nx_q, zb0_s, zb1_s, zb2_s, zb3_s, zb4_s, zb5_s, zb6_s, zb7_s, zb8_s, zb9_s, zb10_s, zb11_s, zb12_s, zb13_s, zb14_s, q_lit, nI_add, pk_mul, e_cl, gi_in, gz_n0, gz_n1, e_gz, si_eq, si_ne, sa_eq, sa_ne, if_true, if_false, ↓reduceIte, k_ltT, k_ltF, k_leT, k_leF, k_eqT, k_eqF, k_m1lt, k_nm1, not_true_eq_false, not_false_eq_true, m_in01 hk, hcp, hb]
    · simp (disch := omega) only [si_eq, si_ne, sa_eq, sa_ne, upd_eq, upd_ne, updN_eq, updN_ne]
      exact hM0
    · exact GM_fr hGM (by simp (disch := omega) only [si_eq, si_ne, sa_eq, sa_ne, upd_eq, upd_ne, updN_eq, updN_ne]) (by simp (disch := omega) only [si_eq, si_ne, sa_eq, sa_ne, upd_eq, upd_ne, updN_eq, updN_ne]) (by simp (disch := omega) only [si_eq, si_ne, sa_eq, sa_ne, upd_eq, upd_ne, updN_eq, updN_ne])
    · exact RHist_fr hHi (by simp (disch := omega) only [si_eq, si_ne, sa_eq, sa_ne, upd_eq, upd_ne, updN_eq, updN_ne]) (by simp (disch := omega) only [si_eq, si_ne, sa_eq, sa_ne, upd_eq, upd_ne, updN_eq, updN_ne])
    · obtain ⟨a, b, c, d, e, f, gg⟩ := hO
      refine ⟨RTape_fr a (by simp (disch := omega) only [si_eq, si_ne, sa_eq, sa_ne, upd_eq, upd_ne, updN_eq, updN_ne]) (by simp (disch := omega) only [si_eq, si_ne, sa_eq, sa_ne, upd_eq, upd_ne, updN_eq, updN_ne]), by simp (disch := omega) only [si_eq, si_ne, sa_eq, sa_ne, upd_eq, upd_ne, updN_eq, updN_ne]; exact b, by simp (disch := omega) only [si_eq, si_ne, sa_eq, sa_ne, upd_eq, upd_ne, updN_eq, updN_ne]; exact c, by simp (disch := omega) only [si_eq, si_ne, sa_eq, sa_ne, upd_eq, upd_ne, updN_eq, updN_ne]; exact d, fun j hj => ?_, f, gg⟩
      unfold KR
      simp (disch := omega) only [si_eq, si_ne, sa_eq, sa_ne, upd_eq, upd_ne, updN_eq, updN_ne]
      by_cases q : j = k
      · subst q
        rw [upd_eq]
        refine Or.inr ⟨rfl, σ, v7 y0 y1 y2 y3 y4 y5 y6, fun i hi => ?_, hW, upP_eq _ _ _, hy⟩
        rw [cpF_in hi, Nat.zero_add, hM0]
        rfl
      · rw [upd_ne q, upP_ne q]
        rcases e j hj with h | ⟨h1, τ, U, h2, h3⟩
        · exact Or.inl h
        · refine Or.inr ⟨h1, τ, U, fun i hi => ?_, h3⟩
          rw [cpF_out (by omega)]
          exact h2 i hi
  · refine ⟨V, PK, PI, M, nI 0, ?_, ?_, σ, g, fc, fm, hR⟩
    · unfold g_image f_X11_image
      rcases ho with h | h
      · simp (maxSteps := 3000000) (disch := omega) only [↓nx_q, zb0_s, zb1_s, zb2_s, zb3_s, zb4_s, zb5_s, zb6_s, zb7_s, zb8_s, zb9_s, zb10_s, zb11_s, zb12_s, zb13_s, zb14_s, q_lit, nI_add, pk_mul, e_cl, gi_in, gz_n0, gz_n1, e_gz, si_eq, si_ne, sa_eq, sa_ne, if_true, if_false, ↓reduceIte, k_ltT, k_ltF, k_leT, k_leF, k_eqT, k_eqF, k_m1lt, k_nm1, not_true_eq_false, not_false_eq_true, o_neg h]
      · have := o_big (by decide) h
        simp (maxSteps := 3000000) (disch := omega) only [↓nx_q, zb0_s, zb1_s, zb2_s, zb3_s, zb4_s, zb5_s, zb6_s, zb7_s, zb8_s, zb9_s, zb10_s, zb11_s, zb12_s, zb13_s, zb14_s, q_lit, nI_add, pk_mul, e_cl, gi_in, gz_n0, gz_n1, e_gz, si_eq, si_ne, sa_eq, sa_ne, if_true, if_false, ↓reduceIte, k_ltT, k_ltF, k_leT, k_leF, k_eqT, k_eqF, k_m1lt, k_nm1, not_true_eq_false, not_false_eq_true, this.1, this.2.2]
    · unfold h_image f_X12_image
      simp (maxSteps := 3000000) (disch := omega) only [↓nx_q, zb0_s, zb1_s, zb2_s, zb3_s, zb4_s, zb5_s, zb6_s, zb7_s, zb8_s, zb9_s, zb10_s, zb11_s, zb12_s, zb13_s, zb14_s, q_lit, nI_add, pk_mul, e_cl, gi_in, gz_n0, gz_n1, e_gz, si_eq, si_ne, sa_eq, sa_ne, if_true, if_false, ↓reduceIte, k_ltT, k_ltF, k_leT, k_leF, k_eqT, k_eqF, k_m1lt, k_nm1, not_true_eq_false, not_false_eq_true, m_out01 ho]
theorem R_restore : St_restore Rel := by
  intro V PK PI M v1 hR
  obtain ⟨σ, g, fc, fm, hR⟩ := hR
  have hR0 := hR
  obtain ⟨⟨hM0, hW, hRC⟩, hGC, hGM, hHi, hPl, hO⟩ := hR0
  rcases q_rng v1 (n := 2) (by decide) with ⟨k, hk, rfl⟩ | ho
  · rcases hO.2.2.2.2.1 k hk with ⟨h4, hn⟩ | ⟨h4, τ, U, k1, k2, k3, k4⟩
    · refine ⟨V, PK, PI, M, nI 0, ?_, ?_, σ, g, fc, fm, hR⟩
      · unfold g_restore f_X11_restore
        simp (maxSteps := 3000000) (disch := omega) only [↓nx_q, zb0_s, zb1_s, zb2_s, zb3_s, zb4_s, zb5_s, zb6_s, zb7_s, zb8_s, zb9_s, zb10_s, zb11_s, zb12_s, zb13_s, zb14_s, q_lit, nI_add, pk_mul, e_cl, gi_in, gz_n0, gz_n1, e_gz, si_eq, si_ne, sa_eq, sa_ne, if_true, if_false, ↓reduceIte, k_ltT, k_ltF, k_leT, k_leF, k_eqT, k_eqF, k_m1lt, k_nm1, not_true_eq_false, not_false_eq_true, hn, zp, vu_self]
      · unfold h_restore f_X12_restore
        simp (maxSteps := 3000000) (disch := omega) only [↓nx_q, zb0_s, zb1_s, zb2_s, zb3_s, zb4_s, zb5_s, zb6_s, zb7_s, zb8_s, zb9_s, zb10_s, zb11_s, zb12_s, zb13_s, zb14_s, q_lit, nI_add, pk_mul, e_cl, gi_in, gz_n0, gz_n1, e_gz, si_eq, si_ne, sa_eq, sa_ne, if_true, if_false, ↓reduceIte, k_ltT, k_ltF, k_leT, k_leF, k_eqT, k_eqF, k_m1lt, k_nm1, not_true_eq_false, not_false_eq_true, m_in01 hk, h4]
    · obtain ⟨y, ey, hy⟩ := c_copy (d0 := V 3) (d1 := V 4) (d2 := V 5) (d3 := V 6) (d4 := V 7) (d5 := V 8) (d6 := V 9) k4 k2.1.1 k2.2.2.1
      obtain ⟨y0, y1, y2, y3, y4, y5, y6⟩ := y
      dsimp only at hy
      obtain ⟨ρ, eρ, hρ⟩ := row_back (σ := σ) k1
      have hWρ : WF ρ := WF_al k2 (fun j _ _ _ hj => hρ j (by omega))
      have hcp := m_copies (f0 := M 1) (f2 := M 0) (show 835 * k + 835 ≤ 1670 by omega) (show 0 + 835 ≤ 835 by decide) (by decide) (by decide)
      have hcp2 : f_X12_copies 1670 (M 1) 835 (rw σ) (nI (835 * k)) (nI 0) = some (rw ρ) := by rw [← hM0, hcp, hM0, eρ]
      have hfo := @RPlan_forget (V 14) ρ
      have hfh : f_X3_forget (V 10) = some (si (V 10) 2 (nI 0)) := rfl
      refine ⟨vu (vu (vu (vu (vu (vu (vu (vu (vu V 3 y0) 4 y1) 5 y2) 6 y3) 7 y4) 8 y5) 9 y6) 10 (si (V 10) 2 (nI 0))) 14 (si (si (V 14) 7 (-nI 1)) 8 (-nI 1)), PK, PI, si (sa M 0 (rw ρ)) 5 (nI 0), nI 1, ?_, ?_, ρ, g, fc, fm, ⟨?_, hWρ, ?_⟩, ?_, ?_, ?_, ?_, ?_⟩
      · unfold g_restore f_X11_restore
        simp (maxSteps := 3000000) (disch := omega) only [↓nx_q, zb0_s, zb1_s, zb2_s, zb3_s, zb4_s, zb5_s, zb6_s, zb7_s, zb8_s, zb9_s, zb10_s, zb11_s, zb12_s, zb13_s, zb14_s, q_lit, nI_add, pk_mul, e_cl, gi_in, gz_n0, gz_n1, e_gz, si_eq, si_ne, sa_eq, sa_ne, if_true, if_false, ↓reduceIte, k_ltT, k_ltF, k_leT, k_leF, k_eqT, k_eqF, k_m1lt, k_nm1, not_true_eq_false, not_false_eq_true, k3, zp, ey, hfo.1, hfh]
      · unfold h_restore f_X12_restore
        simp (maxSteps := 3000000) (disch := omega) only [↓nx_q, zb0_s, zb1_s, zb2_s, zb3_s, zb4_s, zb5_s, zb6_s, zb7_s, zb8_s, zb9_s, zb10_s, zb11_s, zb12_s, zb13_s, zb14_s, q_lit, nI_add, pk_mul, e_cl, gi_in, gz_n0, gz_n1, e_gz, si_eq, si_ne, sa_eq, sa_ne, if_true, if_false, ↓reduceIte, k_ltT, k_ltF, k_leT, k_leF, k_eqT, k_eqF, k_m1lt, k_nm1, not_true_eq_false, not_false_eq_true, m_in01 hk, h4, hM0, hcp2]
      · simp (disch := omega) only [si_eq, si_ne, sa_eq, sa_ne, upd_eq, upd_ne, updN_eq, updN_ne]
      · refine RC_un (RC_all hy k2 hρ) ?_ ?_ ?_ ?_ ?_ ?_ ?_ <;> simp (disch := omega) only [vu_eq, vu_ne]
      · simp (disch := omega) only [vu_eq, vu_ne]
        exact hGC
      · exact GM_fr hGM (by simp (disch := omega) only [si_eq, si_ne, sa_eq, sa_ne, upd_eq, upd_ne, updN_eq, updN_ne]) (by simp (disch := omega) only [si_eq, si_ne, sa_eq, sa_ne, upd_eq, upd_ne, updN_eq, updN_ne]) (by simp (disch := omega) only [si_eq, si_ne, sa_eq, sa_ne, upd_eq, upd_ne, updN_eq, updN_ne])
      · simp (disch := omega) only [vu_eq, vu_ne]
        obtain ⟨a, c, τ', ha, hc, h1, h2, h5, hK⟩ := hHi
        refine ⟨a, 0, τ', ha, by omega, ?_, ?_, ?_, fun j hj => by omega⟩
        · simp (disch := omega) only [si_eq, si_ne, sa_eq, sa_ne, upd_eq, upd_ne, updN_eq, updN_ne, h1]
        · simp (disch := omega) only [si_eq, si_ne, sa_eq, sa_ne, upd_eq, upd_ne, updN_eq, updN_ne]
        · simp (disch := omega) only [si_eq, si_ne, sa_eq, sa_ne, upd_eq, upd_ne, updN_eq, updN_ne]
      · simp (disch := omega) only [vu_eq, vu_ne]
        exact hfo.2.1
      · refine RelO_fr hO ?_ ?_ ?_ ?_ ?_ (fun j hj => ?_)
        · simp (disch := omega) only [vu_eq, vu_ne]
        · simp (disch := omega) only [vu_eq, vu_ne]
        · simp (disch := omega) only [vu_eq, vu_ne]
        · simp (disch := omega) only [vu_eq, vu_ne, si_eq, si_ne, sa_eq, sa_ne, upd_eq, upd_ne, updN_eq, updN_ne]
        · simp (disch := omega) only [vu_eq, vu_ne]
        · simp (disch := omega) only [si_eq, si_ne, sa_eq, sa_ne, upd_eq, upd_ne, updN_eq, updN_ne]
  · refine ⟨V, PK, PI, M, nI 0, ?_, ?_, σ, g, fc, fm, hR⟩
    · unfold g_restore f_X11_restore
      rcases ho with h | h
      · simp (maxSteps := 3000000) (disch := omega) only [↓nx_q, zb0_s, zb1_s, zb2_s, zb3_s, zb4_s, zb5_s, zb6_s, zb7_s, zb8_s, zb9_s, zb10_s, zb11_s, zb12_s, zb13_s, zb14_s, q_lit, nI_add, pk_mul, e_cl, gi_in, gz_n0, gz_n1, e_gz, si_eq, si_ne, sa_eq, sa_ne, if_true, if_false, ↓reduceIte, k_ltT, k_ltF, k_leT, k_leF, k_eqT, k_eqF, k_m1lt, k_nm1, not_true_eq_false, not_false_eq_true, o_neg h, vu_self]
      · have := o_big (by decide) h
        simp (maxSteps := 3000000) (disch := omega) only [↓nx_q, zb0_s, zb1_s, zb2_s, zb3_s, zb4_s, zb5_s, zb6_s, zb7_s, zb8_s, zb9_s, zb10_s, zb11_s, zb12_s, zb13_s, zb14_s, q_lit, nI_add, pk_mul, e_cl, gi_in, gz_n0, gz_n1, e_gz, si_eq, si_ne, sa_eq, sa_ne, if_true, if_false, ↓reduceIte, k_ltT, k_ltF, k_leT, k_leF, k_eqT, k_eqF, k_m1lt, k_nm1, not_true_eq_false, not_false_eq_true, this.1, this.2.1, vu_self]
    · unfold h_restore f_X12_restore
      simp (maxSteps := 3000000) (disch := omega) only [↓nx_q, zb0_s, zb1_s, zb2_s, zb3_s, zb4_s, zb5_s, zb6_s, zb7_s, zb8_s, zb9_s, zb10_s, zb11_s, zb12_s, zb13_s, zb14_s, q_lit, nI_add, pk_mul, e_cl, gi_in, gz_n0, gz_n1, e_gz, si_eq, si_ne, sa_eq, sa_ne, if_true, if_false, ↓reduceIte, k_ltT, k_ltF, k_leT, k_leF, k_eqT, k_eqF, k_m1lt, k_nm1, not_true_eq_false, not_false_eq_true, m_out01 ho]
