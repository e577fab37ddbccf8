theorem rd_all {σ : Nat → Nat} {T L c : Nat} {D g : Nat → Nat} {P : (Nat → Nat) × PQ} (hR : Rd σ T (σ 3 ^^^ T) L) (hch : ChR σ T (σ 3 ^^^ T) L D g c) (hP : P.1 = σ) (hW : WF σ) : ∀ i, i ≤ c → RdI σ T g (rdA (σ 3) T (σ 2) g P i) i := by
  intro i
  induction i with
  | zero =>
    intro _
    refine ⟨by show WF P.1; rw [hP]; exact hW, fun j _ _ => by show P.1 j = _; rw [hP], ?_⟩
    show P.1 3 = T ^^^ (σ 3 ^^^ T)
    rw [hP, Nat.xor_comm (σ 3) T, ← Nat.xor_assoc, Nat.xor_self, Nat.zero_xor]
  | succ i ih =>
    intro h
    obtain ⟨a, b⟩ := hch.2.2 i (by omega)
    exact (rd_step hR a b (ih (by omega))).2.2.2.2.2.2.2.2
theorem RelS_rest {V : Nat → Ob} {PK PI : PV} {M M' : Ob} {σ : Nat → Nat} {g : Nat} {fc fm : Bool} (hR : RelS V PK PI M σ g fc fm) (hF : ∀ j, j ≠ 40 → j ≠ 45 → j ≠ 43 → j ≠ 44 → M' j = M j) : RelS V PK PI M' σ g fc fm := by
  obtain ⟨⟨hM0, hW, hRC⟩, hGC, hGM, hHi, hPl, a, b, c, d, e, f, gg⟩ := hR
  have hf : ∀ j, (j < 40 ∨ j = 41 ∨ j = 42) → M' j = M j := fun j h => hF j (by omega) (by omega) (by omega) (by omega)
  refine ⟨⟨by rw [hf 0 (by omega)]; exact hM0, hW, hRC⟩, hGC, GM_fr hGM (hf 19 (by omega)) (hf 20 (by omega)) (hf 21 (by omega)), RHist_fr hHi (hf 2 (by omega)) (hf 5 (by omega)), hPl, RTape_fr a (hf 6 (by omega)) (hf 7 (by omega)), ?_, ?_, ?_, RImg_fr e (hf 1 (by omega)) (hf 4 (by omega)), f, gg⟩
  · rw [hf 13 (by omega)]; exact b
  · rw [hf 39 (by omega), hf 38 (by omega)]; exact c
  · rw [hf 42 (by omega), hf 41 (by omega)]; exact d
theorem R_shift : St_shift Rel := by
  intro V PK PI M v1 v2 hR
  obtain ⟨σ, g, fc, fm, hR⟩ := hR
  have hR0 := hR
  obtain ⟨⟨hM0, hW, hRC⟩, hGC, hGM, hHi, hPl, hO⟩ := hR0
  have s0 : V 5 0 0 = nI (σ 0) := hRC.2.2.1.1
  have s2 : V 5 2 0 = nI (σ 3) := hRC.2.2.1.2.2.1
  have hw : RCw (V 4) σ := hRC.2.1
  have h256 := WF_256 hW
  have h8 := hW.1.1
  have h7 := hW.2.2.1
  have hvs : ∀ r, f_X11_shift (V 3) (V 4) (V 5) (V 6) (V 7) (V 8) (V 9) (V 10) (V 11) (V 12) (V 17) PK v1 v2 = some (V 3, V 5, V 7, V 8, V 9, V 10, V 11, V 12, V 17, PK, r) → f_X12_shift M v1 v2 = some (M, r) → ∃ (V' : Nat → Ob) (PK' PI' : PV) (M' : Ob) (r : Int32), g_shift V PK PI v1 v2 = some (V', PK', PI', r) ∧ h_shift M v1 v2 = some (M', r) ∧ Rel V' PK' PI' M' := by
    intro r e1 e2
    refine ⟨V, PK, PI, M, r, ?_, ?_, σ, g, fc, fm, hR⟩
    · unfold g_shift
      rw [zb11_of e1]
      simp only [vu_self]
    · unfold h_shift
      rw [zb2_of e2]
  rcases can_both (v1 := v1) (v2 := v2) hW hM0 hw s0 s2 with ⟨ec, em⟩ | ⟨T, L, rfl, rfl, hL, hRd, hLg, ec, em⟩
  · refine hvs (-1) ?_ ?_
    · unfold f_X11_shift
      simp (maxSteps := 3000000) (disch := omega) only [↓nx_q, zb0_s, zb1_s, zb2_s, zb3_s, zb4_s, zb5_s, zb6_s, zb7_s, zb8_s, zb9_s, zb10_s, zb11_s, zb12_s, zb13_s, zb14_s, q_lit, nI_add, pk_mul, e_cl, gi_in, gz_n0, gz_n1, e_gz, si_eq, si_ne, sa_eq, sa_ne, if_true, if_false, ↓reduceIte, k_ltT, k_ltF, k_leT, k_leF, k_eqT, k_eqF, k_m1lt, k_nm1, not_true_eq_false, not_false_eq_true, ec]
    · unfold f_X12_shift
      simp (maxSteps := 3000000) (disch := omega) only [↓nx_q, zb0_s, zb1_s, zb2_s, zb3_s, zb4_s, zb5_s, zb6_s, zb7_s, zb8_s, zb9_s, zb10_s, zb11_s, zb12_s, zb13_s, zb14_s, q_lit, nI_add, pk_mul, e_cl, gi_in, gz_n0, gz_n1, e_gz, si_eq, si_ne, sa_eq, sa_ne, if_true, if_false, ↓reduceIte, k_ltT, k_ltF, k_leT, k_leF, k_eqT, k_eqF, k_m1lt, k_nm1, not_true_eq_false, not_false_eq_true, em]
  · have hT := Rd_T hRd
    have hA := Rd_A hRd
    by_cases qT : T = σ 3
    · refine hvs 0 ?_ ?_
      · unfold f_X11_shift
        simp (maxSteps := 3000000) (disch := omega) only [↓nx_q, zb0_s, zb1_s, zb2_s, zb3_s, zb4_s, zb5_s, zb6_s, zb7_s, zb8_s, zb9_s, zb10_s, zb11_s, zb12_s, zb13_s, zb14_s, q_lit, nI_add, pk_mul, e_cl, gi_in, gz_n0, gz_n1, e_gz, si_eq, si_ne, sa_eq, sa_ne, if_true, if_false, ↓reduceIte, k_ltT, k_ltF, k_leT, k_leF, k_eqT, k_eqF, k_m1lt, k_nm1, not_true_eq_false, not_false_eq_true, ec, s2]
      · unfold f_X12_shift
        simp (maxSteps := 3000000) (disch := omega) only [↓nx_q, zb0_s, zb1_s, zb2_s, zb3_s, zb4_s, zb5_s, zb6_s, zb7_s, zb8_s, zb9_s, zb10_s, zb11_s, zb12_s, zb13_s, zb14_s, q_lit, nI_add, pk_mul, e_cl, gi_in, gz_n0, gz_n1, e_gz, si_eq, si_ne, sa_eq, sa_ne, if_true, if_false, ↓reduceIte, k_ltT, k_ltF, k_leT, k_leF, k_eqT, k_eqF, k_m1lt, k_nm1, not_true_eq_false, not_false_eq_true, em, hM0, rw_ap, upd_rw, sa_sa, jn_l, jn_r, jn_4, jn_5, jn_6, jn_ul, jn_ur, jn_u4, jn_u5, jn_u6]
    · obtain ⟨p, ep, c, D, hD, hc, hc8, p0, hch, hps⟩ := c_find (o := V 17) hW hRd hL hw s0 s2 hLg
      obtain ⟨y, ey, fr, m43, c', D', hD', hc', hc8', y2, hch', -, hps'⟩ := m_laysRides_g (M := M) hW hRd hL hM0 hLg
      obtain ⟨M1, r⟩ := y
      dsimp only at fr m43 y2 hch' hps'
      subst y2
      have hDD : ∀ l, Lg σ T (σ 3 ^^^ T) l → D l = D' l := fun l hl => nd_uni hRd hD hD' l l (Nat.le_refl _) hl
      have hcc : c = c' := by rw [hc, hc', hDD _ hLg]
      subst hcc
      have hR1 := RelS_rest hR fr
      obtain ⟨o10, PK', M2, ek, en, ecl, emk, hH, hf, hCS, hMS⟩ := begin_both hR1
      generalize hgg : tb (p 1) = gs at hch hps
      have h45 : ∀ i, i < c → M2 45 i = nI (gs i) := fun i hi => by
        rw [hf 45 (by decide) (by decide) (by decide), (hps' i hi).1, ch_uni hRd hDD hch hch' i hi]
      have hrd := rd_all (P := (σ, (σ, g, true))) hRd hch rfl hW
      generalize hP : ((σ, (σ, g, true)) : (Nat → Nat) × PQ) = P at hrd
      have hCS' : CS (V 3) (V 4) (V 5) (V 6) (V 7) (V 8) (V 9) (si (V 11) 2 (nI 1)) P.1 P.2 := by rw [← hP]; exact hCS
      have hMS' : MS M2 P.1 P.2 := by rw [← hP]; exact hMS
      have cN := c_bitCount (f := σ 3 ^^^ T) hA
      have mN := m_ones (f := σ 3 ^^^ T) (by omega)
      have key1 : Ok (f_X11_shift (V 3) (V 4) (V 5) (V 6) (V 7) (V 8) (V 9) (V 10) (V 11) (V 12) (V 17) PK (nI T) (nI L)) (fun r => CS r.1 (V 4) r.2.1 (V 6) r.2.2.1 r.2.2.2.1 r.2.2.2.2.1 r.2.2.2.2.2.2.1 (rdA (σ 3) T (σ 2) gs P c).1 (rdA (σ 3) T (σ 2) gs P c).2 ∧ r.2.2.2.2.2.1 = o10 ∧ r.2.2.2.2.2.2.2.2.2.1 = PK' ∧ r.2.2.2.2.2.2.2.2.2.2 = nI (cntB (σ 3 ^^^ T) 32)) := by
        unfold f_X11_shift
        simp (maxSteps := 3000000) (disch := omega) only [↓nx_q, zb0_s, zb1_s, zb2_s, zb3_s, zb4_s, zb5_s, zb6_s, zb7_s, zb8_s, zb9_s, zb10_s, zb11_s, zb12_s, zb13_s, zb14_s, q_lit, nI_add, pk_mul, e_cl, gi_in, gz_n0, gz_n1, e_gz, si_eq, si_ne, sa_eq, sa_ne, if_true, if_false, ↓reduceIte, k_ltT, k_ltF, k_leT, k_leF, k_eqT, k_eqF, k_m1lt, k_nm1, not_true_eq_false, not_false_eq_true, ec, s2, ep, ek, en, q_xor]
        rw [ok_zb7]
        refine ok_mono (ok_zl8 (Q := fun r => CS r.1 (V 4) r.2.1 (V 6) r.2.2.1 r.2.2.2.1 r.2.2.2.2.1 r.2.2.2.2.2.1 (rdA (σ 3) T (σ 2) gs P c).1 (rdA (σ 3) T (σ 2) gs P c).2) (fun i a0 a1 a2 a3 a4 a5 _ k => k = nI i ∧ CS a0 (V 4) a1 (V 6) a2 a3 a4 a5 (rdA (σ 3) T (σ 2) gs P i).1 (rdA (σ 3) T (σ 2) gs P i).2) c (fun i a0 a1 a2 a3 a4 a5 a6 k hi hI => ?_) (fu_lt (by omega)) ⟨rfl, hCS'⟩) (fun y hy => ?_)
        · obtain ⟨rfl, hC⟩ := hI
          by_cases q : i = c
          · simp (maxSteps := 3000000) (disch := omega) only [↓nx_q, zb0_s, zb1_s, zb2_s, zb3_s, zb4_s, zb5_s, zb6_s, zb7_s, zb8_s, zb9_s, zb10_s, zb11_s, zb12_s, zb13_s, zb14_s, q_lit, nI_add, pk_mul, e_cl, gi_in, gz_n0, gz_n1, e_gz, si_eq, si_ne, sa_eq, sa_ne, if_true, if_false, ↓reduceIte, k_ltT, k_ltF, k_leT, k_leF, k_eqT, k_eqF, k_m1lt, k_nm1, not_true_eq_false, not_false_eq_true, p0]
            subst q
            exact ⟨_, rfl, hC⟩
          · obtain ⟨a, b⟩ := hch.2.2 i (by omega)
            have hri := hrd i (by omega)
            have e2 := hri.2.1 2 (by decide) (by omega)
            obtain ⟨g1, g2, g3, g4, g5, g6, g7, g8, g9⟩ := rd_step hRd a b hri
            have hp1 := (hps i (by omega)).1
            simp (maxSteps := 3000000) (disch := omega) only [↓nx_q, zb0_s, zb1_s, zb2_s, zb3_s, zb4_s, zb5_s, zb6_s, zb7_s, zb8_s, zb9_s, zb10_s, zb11_s, zb12_s, zb13_s, zb14_s, q_lit, nI_add, pk_mul, e_cl, gi_in, gz_n0, gz_n1, e_gz, si_eq, si_ne, sa_eq, sa_ne, if_true, if_false, ↓reduceIte, k_ltT, k_ltF, k_leT, k_leF, k_eqT, k_eqF, k_m1lt, k_nm1, not_true_eq_false, not_false_eq_true, p0, hp1, q_and]
            rw [ok_zb7]
            refine ok_mono (c_moveAll hC (Nat.lt_of_le_of_lt Nat.and_le_left g1) (fun k hk => g5 k (by rw [e2] at hk; exact hk))) (fun y hy => ?_)
            rw [e2] at hy
            have e2' : (mvA (gs i &&& σ 3) (rdA (σ 3) T (σ 2) gs P i) (σ 2)).1 2 = σ 2 := (mvA_fr h8 2 (by decide) (by omega)).trans e2
            rw [ok_zb7]
            refine ok_mono (c_moveAll hy (Nat.lt_of_le_of_lt Nat.and_le_left g1) (fun k hk => g8 k (by rw [e2'] at hk; exact hk))) (fun z hz => ⟨_, rfl, by omega, rfl, ?_⟩)
            rw [e2'] at hz
            exact hz
        · simp (maxSteps := 3000000) (disch := omega) only [↓nx_q, zb0_s, zb1_s, zb2_s, zb3_s, zb4_s, zb5_s, zb6_s, zb7_s, zb8_s, zb9_s, zb10_s, zb11_s, zb12_s, zb13_s, zb14_s, q_lit, nI_add, pk_mul, e_cl, gi_in, gz_n0, gz_n1, e_gz, si_eq, si_ne, sa_eq, sa_ne, if_true, if_false, ↓reduceIte, k_ltT, k_ltF, k_leT, k_leF, k_eqT, k_eqF, k_m1lt, k_nm1, not_true_eq_false, not_false_eq_true, cN]
          exact ⟨_, rfl, hy, rfl, rfl, rfl⟩
      have key2 : Ok (f_X12_shift M (nI T) (nI L)) (fun r => MS r.1 (rdA (σ 3) T (σ 2) gs P c).1 (rdA (σ 3) T (σ 2) gs P c).2 ∧ FrM M2 r.1 ∧ r.2 = nI (cntB (σ 3 ^^^ T) 32)) := by
        unfold f_X12_shift
        simp (maxSteps := 3000000) (disch := omega) only [↓nx_q, zb0_s, zb1_s, zb2_s, zb3_s, zb4_s, zb5_s, zb6_s, zb7_s, zb8_s, zb9_s, zb10_s, zb11_s, zb12_s, zb13_s, zb14_s, q_lit, nI_add, pk_mul, e_cl, gi_in, gz_n0, gz_n1, e_gz, si_eq, si_ne, sa_eq, sa_ne, if_true, if_false, ↓reduceIte, k_ltT, k_ltF, k_leT, k_leF, k_eqT, k_eqF, k_m1lt, k_nm1, not_true_eq_false, not_false_eq_true, em, hM0, rw_ap, upd_rw, sa_sa, jn_l, jn_r, jn_4, jn_5, jn_6, jn_ul, jn_ur, jn_u4, jn_u5, jn_u6, ey, m43, mN, ecl, emk]
        rw [ok_zb1]
        refine ok_mono (ok_zl2 (Q := fun r => MS r (rdA (σ 3) T (σ 2) gs P c).1 (rdA (σ 3) T (σ 2) gs P c).2 ∧ FrM M2 r) (fun i M' k => k = nI i ∧ MS M' (rdA (σ 3) T (σ 2) gs P i).1 (rdA (σ 3) T (σ 2) gs P i).2 ∧ FrM M2 M') c (fun i M' k hi hI => ?_) (fu_lt (by omega)) ⟨rfl, hMS', fun _ _ _ _ _ => rfl⟩) (fun y hy => ⟨_, rfl, hy.1, hy.2, rfl⟩)
        obtain ⟨rfl, hS, hF⟩ := hI
        by_cases q : i = c
        · simp (maxSteps := 3000000) (disch := omega) only [↓nx_q, zb0_s, zb1_s, zb2_s, zb3_s, zb4_s, zb5_s, zb6_s, zb7_s, zb8_s, zb9_s, zb10_s, zb11_s, zb12_s, zb13_s, zb14_s, q_lit, nI_add, pk_mul, e_cl, gi_in, gz_n0, gz_n1, e_gz, si_eq, si_ne, sa_eq, sa_ne, if_true, if_false, ↓reduceIte, k_ltT, k_ltF, k_leT, k_leF, k_eqT, k_eqF, k_m1lt, k_nm1, not_true_eq_false, not_false_eq_true]
          subst q
          exact ⟨_, rfl, hS, hF⟩
        · obtain ⟨a, b⟩ := hch.2.2 i (by omega)
          have hri := hrd i (by omega)
          have e2 := hri.2.1 2 (by decide) (by omega)
          obtain ⟨g1, g2, g3, g4, g5, g6, g7, g8, g9⟩ := rd_step hRd a b hri
          have m0 := hS.1
          have e45 : M' 45 i = nI (gs i) := by rw [hF 45 (by decide) (by decide) (by decide) (by decide)]; exact h45 i (by omega)
          simp (maxSteps := 3000000) (disch := omega) only [↓nx_q, zb0_s, zb1_s, zb2_s, zb3_s, zb4_s, zb5_s, zb6_s, zb7_s, zb8_s, zb9_s, zb10_s, zb11_s, zb12_s, zb13_s, zb14_s, q_lit, nI_add, pk_mul, e_cl, gi_in, gz_n0, gz_n1, e_gz, si_eq, si_ne, sa_eq, sa_ne, if_true, if_false, ↓reduceIte, k_ltT, k_ltF, k_leT, k_leF, k_eqT, k_eqF, k_m1lt, k_nm1, not_true_eq_false, not_false_eq_true, m0, rw_ap, upd_rw, sa_sa, jn_l, jn_r, jn_4, jn_5, jn_6, jn_ul, jn_ur, jn_u4, jn_u5, jn_u6]
          rw [ok_zb1]
          refine ok_mono (m_dnAll (c := i) (g := gs i) (x := nI ((rdA (σ 3) T (σ 2) gs P i).1 3)) hS hri.1 g4 (Nat.lt_of_le_of_lt Nat.and_le_left g1) (by omega) (by rw [q_and, g2]) e45 (fun o k => by simp (maxSteps := 3000000) (disch := omega) only [↓nx_q, zb0_s, zb1_s, zb2_s, zb3_s, zb4_s, zb5_s, zb6_s, zb7_s, zb8_s, zb9_s, zb10_s, zb11_s, zb12_s, zb13_s, zb14_s, q_lit, nI_add, pk_mul, e_cl, gi_in, gz_n0, gz_n1, e_gz, si_eq, si_ne, sa_eq, sa_ne, if_true, if_false, ↓reduceIte, k_ltT, k_ltF, k_leT, k_leF, k_eqT, k_eqF, k_m1lt, k_nm1, not_true_eq_false, not_false_eq_true])) (fun M3 h3 => ?_)
          rw [e2] at h3
          obtain ⟨h3, h3f⟩ := h3
          have e2' : (mvA (gs i &&& σ 3) (rdA (σ 3) T (σ 2) gs P i) (σ 2)).1 2 = σ 2 := (mvA_fr h8 2 (by decide) (by omega)).trans e2
          rw [ok_zb1]
          refine ok_mono (m_upAll (c := i) (g := gs i) (x := nI ((rdA (σ 3) T (σ 2) gs P i).1 3) ^^^ -nI 1) h3 g6 g7 (Nat.lt_of_le_of_lt Nat.and_le_left g1) (by omega) (by rw [q_andn', g3]) (by rw [h3f 45 (by decide) (by decide) (by decide) (by decide)]; exact e45) (fun o k => by simp (maxSteps := 3000000) (disch := omega) only [↓nx_q, zb0_s, zb1_s, zb2_s, zb3_s, zb4_s, zb5_s, zb6_s, zb7_s, zb8_s, zb9_s, zb10_s, zb11_s, zb12_s, zb13_s, zb14_s, q_lit, nI_add, pk_mul, e_cl, gi_in, gz_n0, gz_n1, e_gz, si_eq, si_ne, sa_eq, sa_ne, if_true, if_false, ↓reduceIte, k_ltT, k_ltF, k_leT, k_leF, k_eqT, k_eqF, k_m1lt, k_nm1, not_true_eq_false, not_false_eq_true])) (fun M4 h4 => ?_)
          rw [e2'] at h4
          refine ⟨_, rfl, by omega, rfl, h4.1, fun j x y z w => ?_⟩
          exact (h4.2 j x y z w).trans ((h3f j x y z w).trans (hF j x y z w))
      obtain ⟨y, ey1, hC, ho10, hpk, hr1⟩ := key1
      obtain ⟨z, ez1, hM, hFr, hr2⟩ := key2
      obtain ⟨a1, a2, a3, a4, a5, a6, a7, a8, a9, PKx, r1⟩ := y
      obtain ⟨M5, r2⟩ := z
      dsimp only at hC ho10 hpk hr1 hM hFr hr2
      subst ho10 hpk hr1 hr2
      have hrc := hrd c (Nat.le_refl _)
      refine ⟨vu (vu (vu (vu (vu (vu (vu (vu (vu V 3 a1) 5 a2) 7 a3) 8 a4) 9 a5) 10 a6) 11 a7) 12 a8) 17 a9, PKx, PI, M5, nI (cntB (σ 3 ^^^ T) 32), ?_, ?_, ?_⟩
      · unfold g_shift
        rw [zb11_of ey1]
      · unfold h_shift
        rw [zb2_of ez1]
      · refine Rel_asked (M2 := M2) (M := M1) hR1 hrc.1 (Grow_mv h7 hrc.2.1) (x := (rdA (σ 3) T (σ 2) gs P c).2) ?_ hM ?_ (fun j a b c d _ => hFr j a b c d) hf ?_ ?_ ?_ ?_ ?_ ?_
        · simp (disch := omega) only [vu_eq, vu_ne]
          exact hC
        · simp (disch := omega) only [vu_eq, vu_ne]
          exact hH
        · simp (disch := omega) only [vu_eq, vu_ne]
        · simp (disch := omega) only [vu_eq, vu_ne]
        · simp (disch := omega) only [vu_eq, vu_ne]
          have hm : ∀ j, j = 6 ∨ j = 7 ∨ j = 13 → M5 j = M1 j := fun j hj => (hFr j (by omega) (by omega) (by omega) (by omega)).trans (hf j (by omega) (by omega) (by omega))
          have hO1 := hR1.2.2.2.2.2
          exact ⟨RTape_fr hO1.1 (hm 6 (by omega)) (hm 7 (by omega)), by rw [hm 13 (by omega)]; exact hO1.2.1⟩
        · simp (disch := omega) only [vu_eq, vu_ne]
        · simp (disch := omega) only [vu_eq, vu_ne]
        · simp (disch := omega) only [vu_eq, vu_ne]
