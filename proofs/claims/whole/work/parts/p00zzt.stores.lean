/-! ===== store ===== -/
theorem DR_z {o d M : Ob} {τ : Nat → Nat} (h : DR o d M τ) {k : Nat} (h1 : k < 835) (h2 : (3 ≤ k ∧ k < 8) ∨ (32 ≤ k ∧ k < 56) ∨ 104 ≤ k) : τ k = 0 := by
  have h8 := h.2.1
  rcases h.2.2.2.2.2.2.2.2.2.2.2 k h1 with e | e
  · omega
  · exact e
theorem DR_WF {o d M : Ob} {τ : Nat → Nat} (h : DR o d M τ) : WF τ := by
  have h8 := h.2.1
  have hz := @DR_z _ _ _ _ h
  have t3 : τ 3 = 0 := hz (by decide) (by omega)
  have t7 : τ 7 = 0 := hz (by decide) (by omega)
  obtain ⟨d3, d2, dw, di, dn, d0, d1, -⟩ := h
  refine ⟨⟨d2, by rw [t3]; exact Nat.two_pow_pos _, d0, by rw [lies_e t3]; omega, di, fun k hk => ?_⟩, d1, by omega, fun k hk => ?_, fun k hk => ?_, dn, fun i hi => by omega⟩
  · rw [hz (k := 32 + k) (by omega) (by omega)]
    exact ⟨by omega, fun _ => rfl⟩
  · rw [hz (k := 48 + k) (by omega) (by omega)]
    exact ⟨Or.inl rfl, fun _ => rfl⟩
  · rw [hz (k := 40 + k) (by omega) (by omega)]
    decide
theorem begin9 {a0 a1 a2 a3 a4 a5 a6 o d M : Ob} {τ : Nat → Nat} (h : DR o d M τ) : Ok (f_X9_begin a0 a1 a2 a3 a4 a5 a6 d (nI (τ 0)) (nI (τ 1))) (fun y => RC (v7 y.1 y.2.1 y.2.2.1 y.2.2.2.1 y.2.2.2.2.1 y.2.2.2.2.2.1 y.2.2.2.2.2.2) τ) := by
  have h8 := h.2.1
  have hz := @DR_z _ _ _ _ h
  have t3 : τ 3 = 0 := hz (by decide) (by omega)
  have t7 : τ 7 = 0 := hz (by decide) (by omega)
  have c0 : ∀ b, f_X0_close b = some (si (si b 0 (nI 0)) 3 (nI 0)) := fun b => rfl
  have cb : ∀ b i, i < 3 → RCb (si (si b 0 (nI 0)) 3 (nI 0)) τ i := fun b i hi => by
    refine Or.inl ⟨hz (by omega) (by omega), ?_, ?_⟩
    · simp (disch := omega) only [si_eq, si_ne, sa_eq, sa_ne, upd_eq, upd_ne, updN_eq, updN_ne]
    · simp (disch := omega) only [si_eq, si_ne, sa_eq, sa_ne, upd_eq, upd_ne, updN_eq, updN_ne]
  unfold f_X9_begin
  rw [ok_zb1]
  refine ok_mono (c_cpW h.2.2.1 h8) (fun w' hw' => ?_)
  rw [ok_zb1]
  refine ok_mono (c_begin a2 (nI (τ 0)) (nI (τ 1))) (fun s' hs' => ?_)
  obtain ⟨b0, b1, b2, b3, b4⟩ := hs'
  rw [nx_eq, nx_eq, nx_eq, nx_eq]
  refine loop3 (a0' := si (si a4 0 (nI 0)) 3 (nI 0)) (a1' := si (si a5 0 (nI 0)) 3 (nI 0)) (a2' := si (si a6 0 (nI 0)) 3 (nI 0)) ?_ ?_ ?_ ?_ ?_
  · simp (maxSteps := 3000000) (disch := omega) only [↓nx_q, zb0_s, zb1_s, zb2_s, zb3_s, zb4_s, zb5_s, zb6_s, zb7_s, zb8_s, zb9_s, zb10_s, zb11_s, zb12_s, zb13_s, zb14_s, q_lit, nI_add, pk_mul, e_cl, gi_in, gz_n0, gz_n1, e_gz, si_eq, si_ne, sa_eq, sa_ne, if_true, if_false, ↓reduceIte, k_ltT, k_ltF, k_leT, k_leF, k_eqT, k_eqF, k_m1lt, k_nm1, not_true_eq_false, not_false_eq_true, c0]
  · simp (maxSteps := 3000000) (disch := omega) only [↓nx_q, zb0_s, zb1_s, zb2_s, zb3_s, zb4_s, zb5_s, zb6_s, zb7_s, zb8_s, zb9_s, zb10_s, zb11_s, zb12_s, zb13_s, zb14_s, q_lit, nI_add, pk_mul, e_cl, gi_in, gz_n0, gz_n1, e_gz, si_eq, si_ne, sa_eq, sa_ne, if_true, if_false, ↓reduceIte, k_ltT, k_ltF, k_leT, k_leF, k_eqT, k_eqF, k_m1lt, k_nm1, not_true_eq_false, not_false_eq_true, c0]
  · simp (maxSteps := 3000000) (disch := omega) only [↓nx_q, zb0_s, zb1_s, zb2_s, zb3_s, zb4_s, zb5_s, zb6_s, zb7_s, zb8_s, zb9_s, zb10_s, zb11_s, zb12_s, zb13_s, zb14_s, q_lit, nI_add, pk_mul, e_cl, gi_in, gz_n0, gz_n1, e_gz, si_eq, si_ne, sa_eq, sa_ne, if_true, if_false, ↓reduceIte, k_ltT, k_ltF, k_leT, k_leF, k_eqT, k_eqF, k_m1lt, k_nm1, not_true_eq_false, not_false_eq_true, c0]
  · simp (maxSteps := 3000000) (disch := omega) only [↓nx_q, zb0_s, zb1_s, zb2_s, zb3_s, zb4_s, zb5_s, zb6_s, zb7_s, zb8_s, zb9_s, zb10_s, zb11_s, zb12_s, zb13_s, zb14_s, q_lit, nI_add, pk_mul, e_cl, gi_in, gz_n0, gz_n1, e_gz, si_eq, si_ne, sa_eq, sa_ne, if_true, if_false, ↓reduceIte, k_ltT, k_ltF, k_leT, k_leF, k_eqT, k_eqF, k_m1lt, k_nm1, not_true_eq_false, not_false_eq_true]
  · refine ok_some.mpr ⟨⟨?_, ?_, ?_⟩, hw', ⟨b0, b1, by rw [t3]; exact b2, by rw [lies_e t3]; exact b3, fun k hk => ?_⟩, ⟨?_, fun i hi => by omega⟩, cb _ 0 (by decide), cb _ 1 (by decide), cb _ 2 (by decide)⟩
    · rw [hz (k := 4) (by decide) (by omega)]
      show si (si (si a0 4 (nI 0)) 5 (nI 0)) 6 (nI 0) 4 0 = _
      simp (disch := omega) only [si_eq, si_ne, sa_eq, sa_ne, upd_eq, upd_ne, updN_eq, updN_ne]
    · rw [hz (k := 5) (by decide) (by omega)]
      show si (si (si a0 4 (nI 0)) 5 (nI 0)) 6 (nI 0) 5 0 = _
      simp (disch := omega) only [si_eq, si_ne, sa_eq, sa_ne, upd_eq, upd_ne, updN_eq, updN_ne]
    · rw [hz (k := 6) (by decide) (by omega)]
      show si (si (si a0 4 (nI 0)) 5 (nI 0)) 6 (nI 0) 6 0 = _
      simp (disch := omega) only [si_eq, si_ne, sa_eq, sa_ne, upd_eq, upd_ne, updN_eq, updN_ne]
    · rw [hz (k := 32 + k) (by omega) (by omega), hz (k := 40 + k) (by omega) (by omega), hz (k := 48 + k) (by omega) (by omega)]
      exact ⟨(b4 k hk).1, (b4 k hk).2.2, fun _ => (b4 k hk).2.1⟩
    · rw [t7]
      show si a3 0 (nI 0) 0 0 = _
      simp (disch := omega) only [si_eq, si_ne, sa_eq, sa_ne, upd_eq, upd_ne, updN_eq, updN_ne]
/-- what reading leaves -/
theorem RelO_read {V V' : Nat → Ob} {PI : PV} {M M' : Ob} {o' : Ob} {f : Nat} (h : RelO V PI M) (h0 : V' 0 = V 0) (h1 : V' 1 = si o' 1 (nI 0)) (ho : o' 2 0 = nI f) (hm : M' 13 0 = nI f) (m7 : M' 7 0 = nI 0) (h16 : V' 16 = V 16) (h14 : V' 14 0 = V 14 0) (h15 : V' 15 0 = V 15 0) (hM : ∀ j, j = 1 ∨ j = 4 ∨ j = 38 ∨ j = 39 ∨ j = 41 ∨ j = 42 → M' j = M j) : RelO V' PI M' := by
  obtain ⟨a, b, c, d, e, f, g⟩ := h
  unfold RelO
  rw [h0, h1, h16, h14, h15, hm, hM 38 (by omega), hM 39 (by omega), hM 41 (by omega), hM 42 (by omega)]
  refine ⟨⟨0, fun _ => 0, by decide, si_eq _ _ _ _, m7, fun i hi => absurd hi (Nat.not_lt_zero _)⟩, ?_, c, d, RImg_fr e (hM 1 (by omega)) (hM 4 (by omega)), f, g⟩
  rw [si_ne (by decide)]
  exact ho
theorem R_store : St_store Rel := by
  intro V PK PI M hR
  obtain ⟨σ, g, fc, fm, hR⟩ := hR
  have hR0 := hR
  obtain ⟨⟨hM0, hW, hRC⟩, hGC, hGM, hHi, hPl, hO⟩ := hR0
  rcases store_read (d := V 2) hO.1 with ⟨o', d', M', τ, e1, e2, hD, hf, h7⟩ | ⟨o', d', M', f, a, e1, e2, ha, p1, p2, p3, p4, hf, h7⟩
  · have hWτ := DR_WF hD
    obtain ⟨⟨y0, y1, y2, y3, y4, y5, y6⟩, ey, hy⟩ := begin9 (a0 := V 3) (a1 := V 4) (a2 := V 5) (a3 := V 6) (a4 := V 7) (a5 := V 8) (a6 := V 9) hD
    obtain ⟨d3, d2, dw, di, dn, d0, d1, ⟨r4, r5⟩, d6, d7, ⟨f2, f13⟩, dz⟩ := hD
    obtain ⟨ρ, hρ, eρ⟩ := row_back (f := M' 3) (σ := σ) (j := 0) (τ := τ) (fun i hi => by rw [d3, Nat.mul_zero, Nat.zero_add]; rfl)
    have hWρ : WF ρ := WF_al hWτ (fun j _ _ _ h => eρ j (by omega))
    have hM0' : M' 0 = rw σ := by rw [hf 0 (by decide) (by omega)]; exact hM0
    have hcp : f_X12_copies 835 (M' 3) 835 (rw σ) (nI 0) (nI 0) = some (rw ρ) := by
      rw [m_copies (n0 := 835) (n2 := 835) (a := 0) (b := 0) (by decide) (by decide) (by decide) (by decide)]
      exact congrArg some hρ
    have hfo := @RPlan_forget (V 14) ρ
    have hfh : f_X3_forget (V 10) = some (si (V 10) 2 (nI 0)) := rfl
    have dd : d' 0 0 = nI (τ 2) := dw.1
    have r2 : ρ 2 = τ 2 := eρ 2 (by decide)
    refine ⟨vu (vu (vu (vu (vu (vu (vu (vu (vu (vu (vu V 1 (si o' 1 (nI 0))) 2 d') 3 y0) 4 y1) 5 y2) 6 y3) 7 y4) 8 y5) 9 y6) 10 (si (V 10) 2 (nI 0))) 14 (si (si (V 14) 7 (-nI 1)) 8 (-nI 1)), PK, PI, si (sa M' 0 (rw ρ)) 5 (nI 0), nI (τ 2), ?_, ?_, ρ, g, fc, fm, ⟨?_, hWρ, ?_⟩, ?_, ?_, ?_, ?_, ?_⟩
    · have ey' : f_X9_begin (V 3) (V 4) (V 5) (V 6) (V 7) (V 8) (V 9) d' (nI (τ 0)) (nI (τ 1)) = some (y0, y1, y2, y3, y4, y5, y6) := ey
      unfold g_store f_X11_store
      simp (maxSteps := 3000000) (disch := omega) only [↓nx_q, zb0_s, zb1_s, zb2_s, zb3_s, zb4_s, zb5_s, zb6_s, zb7_s, zb8_s, zb9_s, zb10_s, zb11_s, zb12_s, zb13_s, zb14_s, q_lit, nI_add, pk_mul, e_cl, gi_in, gz_n0, gz_n1, e_gz, si_eq, si_ne, sa_eq, sa_ne, if_true, if_false, ↓reduceIte, k_ltT, k_ltF, k_leT, k_leF, k_eqT, k_eqF, k_m1lt, k_nm1, not_true_eq_false, not_false_eq_true, e1, r4, r5, ey', hfh, hfo.1, dd]
    · unfold h_store f_X12_store
      simp (maxSteps := 3000000) (disch := omega) only [↓nx_q, zb0_s, zb1_s, zb2_s, zb3_s, zb4_s, zb5_s, zb6_s, zb7_s, zb8_s, zb9_s, zb10_s, zb11_s, zb12_s, zb13_s, zb14_s, q_lit, nI_add, pk_mul, e_cl, gi_in, gz_n0, gz_n1, e_gz, si_eq, si_ne, sa_eq, sa_ne, if_true, if_false, ↓reduceIte, k_ltT, k_ltF, k_leT, k_leF, k_eqT, k_eqF, k_m1lt, k_nm1, not_true_eq_false, not_false_eq_true, e2, hM0', hcp, rw_ap, r2]
    · simp (disch := omega) only [si_eq, si_ne, sa_eq, sa_ne, upd_eq, upd_ne, updN_eq, updN_ne]
    · refine RC_un (RC_all hy hWτ eρ) ?_ ?_ ?_ ?_ ?_ ?_ ?_ <;> simp (disch := omega) only [vu_eq, vu_ne]
    · simp (disch := omega) only [vu_eq, vu_ne]
      exact hGC
    · exact GM_fr hGM (by simp (disch := omega) only [si_eq, si_ne, sa_eq, sa_ne, upd_eq, upd_ne, updN_eq, updN_ne]; exact hf 19 (by decide) (by omega)) (by simp (disch := omega) only [si_eq, si_ne, sa_eq, sa_ne, upd_eq, upd_ne, updN_eq, updN_ne]; exact hf 20 (by decide) (by omega)) (by simp (disch := omega) only [si_eq, si_ne, sa_eq, sa_ne, upd_eq, upd_ne, updN_eq, updN_ne]; exact hf 21 (by decide) (by omega))
    · simp (disch := omega) only [vu_eq, vu_ne]
      obtain ⟨a, c, τ', ha, hc, h1, h2, h5, hK⟩ := hHi
      refine ⟨a, 0, τ', ha, by omega, ?_, ?_, ?_, fun j hj => by omega⟩
      · simp (disch := omega) only [si_eq, si_ne, sa_eq, sa_ne, upd_eq, upd_ne, updN_eq, updN_ne, h1]
      · simp (disch := omega) only [si_eq, si_ne, sa_eq, sa_ne, upd_eq, upd_ne, updN_eq, updN_ne]
      · simp (disch := omega) only [si_eq, si_ne, sa_eq, sa_ne, upd_eq, upd_ne, updN_eq, updN_ne]
    · simp (disch := omega) only [vu_eq, vu_ne]
      exact hfo.2.1
    · refine RelO_read (f := 0) (o' := o') hO ?_ ?_ f2 ?_ ?_ ?_ ?_ ?_ (fun j hj => ?_)
      · simp (disch := omega) only [vu_eq, vu_ne]
      · simp (disch := omega) only [vu_eq, vu_ne]
      · simp (disch := omega) only [si_eq, si_ne, sa_eq, sa_ne, upd_eq, upd_ne, updN_eq, updN_ne]; exact f13
      · simp (disch := omega) only [si_eq, si_ne, sa_eq, sa_ne, upd_eq, upd_ne, updN_eq, updN_ne]; exact h7
      · simp (disch := omega) only [vu_eq, vu_ne]
      · simp (disch := omega) only [vu_eq, vu_ne, si_eq, si_ne, sa_eq, sa_ne, upd_eq, upd_ne, updN_eq, updN_ne]
      · simp (disch := omega) only [vu_eq, vu_ne]
      · simp (disch := omega) only [si_eq, si_ne, sa_eq, sa_ne, upd_eq, upd_ne, updN_eq, updN_ne]
        exact hf j (by omega) (by omega)
  · refine ⟨vu (vu V 1 (si o' 1 (nI 0))) 2 d', PK, PI, M', -nI 1000 - nI a, ?_, ?_, σ, g, fc, fm, ⟨by rw [hf 0 (by decide) (by omega)]; exact hM0, hW, ?_⟩, ?_, ?_, ?_, ?_, ?_⟩
    · have ev : ∀ (x : Nat), x ≠ 1 → x ≠ 2 → vu (vu (vu V 1 (si o' 1 (nI 0))) 2 d') x (V x) = vu (vu V 1 (si o' 1 (nI 0))) 2 d' := fun x a b => by
        have := vu_self (V := vu (vu V 1 (si o' 1 (nI 0))) 2 d') (i := x)
        rw [vu_ne (by omega), vu_ne (by omega)] at this
        exact this
      unfold g_store f_X11_store
      simp (maxSteps := 3000000) (disch := omega) only [↓nx_q, zb0_s, zb1_s, zb2_s, zb3_s, zb4_s, zb5_s, zb6_s, zb7_s, zb8_s, zb9_s, zb10_s, zb11_s, zb12_s, zb13_s, zb14_s, q_lit, nI_add, pk_mul, e_cl, gi_in, gz_n0, gz_n1, e_gz, si_eq, si_ne, sa_eq, sa_ne, if_true, if_false, ↓reduceIte, k_ltT, k_ltF, k_leT, k_leF, k_eqT, k_eqF, k_m1lt, k_nm1, not_true_eq_false, not_false_eq_true, e1, p2, ev]
    · unfold h_store f_X12_store
      simp (maxSteps := 3000000) (disch := omega) only [↓nx_q, zb0_s, zb1_s, zb2_s, zb3_s, zb4_s, zb5_s, zb6_s, zb7_s, zb8_s, zb9_s, zb10_s, zb11_s, zb12_s, zb13_s, zb14_s, q_lit, nI_add, pk_mul, e_cl, gi_in, gz_n0, gz_n1, e_gz, si_eq, si_ne, sa_eq, sa_ne, if_true, if_false, ↓reduceIte, k_ltT, k_ltF, k_leT, k_leF, k_eqT, k_eqF, k_m1lt, k_nm1, not_true_eq_false, not_false_eq_true, e2, p4]
    · refine RC_un hRC ?_ ?_ ?_ ?_ ?_ ?_ ?_ <;> simp (disch := omega) only [vu_eq, vu_ne]
    · simp (disch := omega) only [vu_eq, vu_ne]
      exact hGC
    · exact GM_fr hGM (hf 19 (by decide) (by omega)) (hf 20 (by decide) (by omega)) (hf 21 (by decide) (by omega))
    · simp (disch := omega) only [vu_eq, vu_ne]
      exact RHist_fr hHi (hf 2 (by decide) (by omega)) (hf 5 (by decide) (by omega))
    · simp (disch := omega) only [vu_eq, vu_ne]
      exact hPl
    · refine RelO_read (f := f) (o' := o') hO ?_ ?_ p1 p3 h7 ?_ ?_ ?_ (fun j hj => hf j (by omega) (by omega)) <;> simp (disch := omega) only [vu_eq, vu_ne]
