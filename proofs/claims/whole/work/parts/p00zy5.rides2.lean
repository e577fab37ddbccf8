theorem Rel_rides {V : Nat → Ob} {PK PI : PV} {M M' p : Ob} {σ : Nat → Nat} {g : Nat} {fc fm : Bool} (hR : RelS V PK PI M σ g fc fm) (hp : RRow (p 0 0) (p 1) (M' 42 0) (M' 41) 8) (hF : ∀ j, j < 40 → M' j = M j) : Rel (vu V 16 p) PK PI M' := by
  obtain ⟨⟨hM0, hW, hRC⟩, hGC, hGM, hHi, hPl, a, b, c, d, e, f, gg⟩ := hR
  refine ⟨σ, g, fc, fm, ⟨by rw [hF 0 (by omega)]; exact hM0, hW, ?_⟩, ?_, GM_fr hGM (hF 19 (by omega)) (hF 20 (by omega)) (hF 21 (by omega)), ?_, ?_, ?_, ?_, ?_, ?_, RImg_fr e (hF 1 (by omega)) (hF 4 (by omega)), ?_, ?_⟩
  · refine RC_un (V := vu V 16 p) hRC ?_ ?_ ?_ ?_ ?_ ?_ ?_ <;> simp (disch := omega) only [vu_ne] <;> rfl
  · rw [vu_ne (by decide)]; exact hGC
  · rw [vu_ne (by decide)]
    exact RHist_fr hHi (hF 2 (by omega)) (hF 5 (by omega))
  · rw [vu_ne (by decide)]; exact hPl
  · rw [vu_ne (by decide)]
    exact RTape_fr a (hF 6 (by omega)) (hF 7 (by omega))
  · rw [vu_ne (by decide), hF 13 (by omega)]; exact b
  · rw [vu_ne (by decide), hF 39 (by omega), hF 38 (by omega)]; exact c
  · rw [vu_eq]; exact hp
  · rw [vu_ne (by decide)]; exact f
  · rw [vu_ne (by decide)]; exact gg
theorem R_rides : St_rides Rel := by
  intro V PK PI M v1 v2 hR
  obtain ⟨σ, g, fc, fm, hR⟩ := hR
  have hR0 := hR
  obtain ⟨⟨hM0, hW, hRC⟩, hGC, hGM, hHi, hPl, hO⟩ := hR0
  have s0 : V 5 0 0 = nI (σ 0) := hRC.2.2.1.1
  have s2 : V 5 2 0 = nI (σ 3) := hRC.2.2.1.2.2.1
  have hw : RCw (V 4) σ := hRC.2.1
  rcases can_both (v1 := v1) (v2 := v2) hW hM0 hw s0 s2 with ⟨ec, em⟩ | ⟨T, L, rfl, rfl, hL, hRd, hLg, ec, em⟩
  · refine ⟨V, PK, PI, M, -1, ?_, ?_, σ, g, fc, fm, hR⟩
    · unfold g_rides f_X11_rides
      simp (maxSteps := 3000000) (disch := omega) only [↓nx_q, zb0_s, zb1_s, zb2_s, zb3_s, zb4_s, zb5_s, zb6_s, zb7_s, zb8_s, zb9_s, zb10_s, zb11_s, zb12_s, zb13_s, zb14_s, q_lit, nI_add, pk_mul, e_cl, gi_in, gz_n0, gz_n1, e_gz, si_eq, si_ne, sa_eq, sa_ne, if_true, if_false, ↓reduceIte, k_ltT, k_ltF, k_leT, k_leF, k_eqT, k_eqF, k_m1lt, k_nm1, not_true_eq_false, not_false_eq_true, ec, vu_self]
    · unfold h_rides f_X12_rides
      simp (maxSteps := 3000000) (disch := omega) only [↓nx_q, zb0_s, zb1_s, zb2_s, zb3_s, zb4_s, zb5_s, zb6_s, zb7_s, zb8_s, zb9_s, zb10_s, zb11_s, zb12_s, zb13_s, zb14_s, q_lit, nI_add, pk_mul, e_cl, gi_in, gz_n0, gz_n1, e_gz, si_eq, si_ne, sa_eq, sa_ne, if_true, if_false, ↓reduceIte, k_ltT, k_ltF, k_leT, k_leF, k_eqT, k_eqF, k_m1lt, k_nm1, not_true_eq_false, not_false_eq_true, em]
  · obtain ⟨p, ep, c, D, hD, hc, hc8, p0, hch, hps⟩ := c_find (o := V 16) hW hRd hL hw s0 s2 hLg
    obtain ⟨y, ey, fr, -, c', D', hD', hc', hc8', y2, hch', -, hps'⟩ := m_laysRides_r (M := M) hW hRd hL hM0 hLg
    obtain ⟨M1, r⟩ := y
    dsimp only at fr y2 hch' hps'
    subst y2
    have hDD : ∀ l, Lg σ T (σ 3 ^^^ T) l → D l = D' l := fun l hl => nd_uni hRd hD hD' l l (Nat.le_refl _) hl
    have hcc : c = c' := by rw [hc, hc', hDD _ hLg]
    subst hcc
    refine ⟨_, PK, PI, _, nI c, ?_, ?_, Rel_rides (p := p) (M' := si M1 42 (nI c)) hR ⟨c, hc8, p0, ?_, fun i hi => ?_⟩ (fun j hj => ?_)⟩
    · unfold g_rides f_X11_rides
      simp (maxSteps := 3000000) (disch := omega) only [↓nx_q, zb0_s, zb1_s, zb2_s, zb3_s, zb4_s, zb5_s, zb6_s, zb7_s, zb8_s, zb9_s, zb10_s, zb11_s, zb12_s, zb13_s, zb14_s, q_lit, nI_add, pk_mul, e_cl, gi_in, gz_n0, gz_n1, e_gz, si_eq, si_ne, sa_eq, sa_ne, if_true, if_false, ↓reduceIte, k_ltT, k_ltF, k_leT, k_leF, k_eqT, k_eqF, k_m1lt, k_nm1, not_true_eq_false, not_false_eq_true, ec, ep, p0]
    · unfold h_rides f_X12_rides
      simp (maxSteps := 3000000) (disch := omega) only [↓nx_q, zb0_s, zb1_s, zb2_s, zb3_s, zb4_s, zb5_s, zb6_s, zb7_s, zb8_s, zb9_s, zb10_s, zb11_s, zb12_s, zb13_s, zb14_s, q_lit, nI_add, pk_mul, e_cl, gi_in, gz_n0, gz_n1, e_gz, si_eq, si_ne, sa_eq, sa_ne, if_true, if_false, ↓reduceIte, k_ltT, k_ltF, k_leT, k_leF, k_eqT, k_eqF, k_m1lt, k_nm1, not_true_eq_false, not_false_eq_true, em, ey]
    · simp (disch := omega) only [si_eq, si_ne, sa_eq, sa_ne, upd_eq, upd_ne, updN_eq, updN_ne]
    · simp (disch := omega) only [si_eq, si_ne, sa_eq, sa_ne, upd_eq, upd_ne, updN_eq, updN_ne]
      rw [(hps i hi).1, (hps' i hi).1, ch_uni hRd hDD hch hch' i hi]
    · simp (disch := omega) only [si_eq, si_ne, sa_eq, sa_ne, upd_eq, upd_ne, updN_eq, updN_ne]
      exact fr j (by omega) (by omega) (by omega) (by omega)
