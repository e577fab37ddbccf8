theorem m_laysFewest {M : Ob} {σ : Nat → Nat} {T L : Nat} (hW : WF σ) (hR : Rd σ T (σ 3 ^^^ T) L) (hL : L ≤ 40) (hM : RdM M σ (σ 3 ^^^ T) L) : Ok (f_X12_laysFewest M) (fun M' => (∀ j, j ≠ 40 → M' j = M j) ∧ TbM (M' 40) (2 ^ σ 2) ∧ ∀ l, l < 2 ^ σ 2 → NdAt σ T (σ 3 ^^^ T) L (tb (M' 40)) l) := by
  have hA := Rd_A hR
  have p8 := pw8 hR.1
  have h8 := hR.1
  unfold f_X12_laysFewest
  rw [ok_zb1]
  refine ok_mono (ok_zl2 (Q := fun M' => (∀ j, j ≠ 40 → M' j = M j) ∧ TbM (M' 40) (2 ^ σ 2) ∧ ∀ l, l < 2 ^ σ 2 → NdAt σ T (σ 3 ^^^ T) L (tb (M' 40)) l) (fun i M' k => k = nI i ∧ (∀ j, j ≠ 40 → M' j = M j) ∧ TbM (M' 40) i ∧ ∀ l, l < i → NdAt σ T (σ 3 ^^^ T) L (tb (M' 40)) l) (2 ^ σ 2) (fun i M1 k hi hI => ?_) (fu_lt (by omega)) ⟨rfl, fun _ _ => rfl, fun l hl => absurd hl (Nat.not_lt_zero _), fun l hl => absurd hl (Nat.not_lt_zero _)⟩) (fun y hy => ok_some.mpr hy)
  obtain ⟨rfl, fr, hT, hN⟩ := hI
  have m0 : M1 0 = rw σ := by rw [fr 0 (by decide)]; exact hM.1
  have m43 : M1 43 0 = nI (σ 3 ^^^ T) := by rw [fr 43 (by decide)]; exact hM.2.1
  by_cases q : i = 2 ^ σ 2
  · simp (maxSteps := 3000000) (disch := omega) only [↓nx_q, zb0_s, zb1_s, zb2_s, zb3_s, zb4_s, zb5_s, zb6_s, zb7_s, zb8_s, zb9_s, zb10_s, zb11_s, zb12_s, zb13_s, zb14_s, q_lit, nI_add, pk_mul, e_cl, gi_in, gz_n0, gz_n1, e_gz, si_eq, si_ne, sa_eq, sa_ne, if_true, if_false, ↓reduceIte, k_ltT, k_ltF, k_leT, k_leF, k_eqT, k_eqF, k_m1lt, k_nm1, not_true_eq_false, not_false_eq_true, m0, rw_ap, upd_rw, sa_sa, jn_l, jn_r, jn_4, jn_5, jn_6, jn_ul, jn_ur, jn_u4, jn_u5, jn_u6, e_shl1]
    subst q
    exact ⟨_, rfl, fr, hT, hN⟩
  · by_cases q0 : i = 0
    · subst q0
      have a0 : andn 0 (σ 3 ^^^ T) = 0 := Nat.le_zero.mp (andn_le _ _)
      have hz : ∀ (B : Ob → Int32 → Option ((Ob × Int32) ⊕ Ob)) (o : Ob), B o (nI 1) = some (.inr o) → zl2 B FU o (nI 1) = some o := fun B o h => zl2_fo (fun _ => o) (fun _ => nI 1) 0 o (fu_lt (by decide)) rfl rfl (fun i hi => absurd hi (Nat.not_lt_zero _)) h
      simp (maxSteps := 3000000) (disch := omega) only [↓nx_q, zb0_s, zb1_s, zb2_s, zb3_s, zb4_s, zb5_s, zb6_s, zb7_s, zb8_s, zb9_s, zb10_s, zb11_s, zb12_s, zb13_s, zb14_s, q_lit, nI_add, pk_mul, e_cl, gi_in, gz_n0, gz_n1, e_gz, si_eq, si_ne, sa_eq, sa_ne, if_true, if_false, ↓reduceIte, k_ltT, k_ltF, k_leT, k_leF, k_eqT, k_eqF, k_m1lt, k_nm1, not_true_eq_false, not_false_eq_true, m0, rw_ap, upd_rw, sa_sa, jn_l, jn_r, jn_4, jn_5, jn_6, jn_ul, jn_ur, jn_u4, jn_u5, jn_u6, e_shl1, m43, q_andn', a0]
      rw [zb1_of (hz _ _ (by simp (maxSteps := 3000000) (disch := omega) only [↓nx_q, zb0_s, zb1_s, zb2_s, zb3_s, zb4_s, zb5_s, zb6_s, zb7_s, zb8_s, zb9_s, zb10_s, zb11_s, zb12_s, zb13_s, zb14_s, q_lit, nI_add, pk_mul, e_cl, gi_in, gz_n0, gz_n1, e_gz, si_eq, si_ne, sa_eq, sa_ne, if_true, if_false, ↓reduceIte, k_ltT, k_ltF, k_leT, k_leF, k_eqT, k_eqF, k_m1lt, k_nm1, not_true_eq_false, not_false_eq_true]))]
      have ht : tb (sa M1 40 (upd (M1 40) 0 (nI 0)) 40) 0 = 0 := tb_of (by simp (disch := omega) only [si_eq, si_ne, sa_eq, sa_ne, upd_eq, upd_ne, updN_eq, updN_ne]) (by decide)
      refine ⟨_, rfl, by omega, rfl, fun j hj => ?_, fun l hl => ?_, fun l hl hg => ?_⟩
      · simp (disch := omega) only [si_eq, si_ne, sa_eq, sa_ne, upd_eq, upd_ne, updN_eq, updN_ne]; exact fr j hj
      · have e : l = 0 := by omega
        subst e
        dsimp only
        rw [ht]
        simp (disch := omega) only [si_eq, si_ne, sa_eq, sa_ne, upd_eq, upd_ne, updN_eq, updN_ne]
        exact ⟨trivial, Nat.zero_le _⟩
      · have e : l = 0 := by omega
        subst e
        exact ⟨fun _ => ht, fun h => absurd rfl h⟩
    · have han := andn_le i (σ 3 ^^^ T)
      have ht : ∀ x, tb (sa M1 40 (upd (M1 40) i (nI 100000000)) 40) x = if x = i then 100000000 else tb (M1 40) x := fun x => by
        rw [sa_eq]
        exact tb_upd (by decide) x
      by_cases b : Sb i (σ 3 ^^^ T)
      · have b1 : andn i (σ 3 ^^^ T) = 0 := (sb_andn (by omega)).mpr b
        simp (maxSteps := 3000000) (disch := omega) only [↓nx_q, zb0_s, zb1_s, zb2_s, zb3_s, zb4_s, zb5_s, zb6_s, zb7_s, zb8_s, zb9_s, zb10_s, zb11_s, zb12_s, zb13_s, zb14_s, q_lit, nI_add, pk_mul, e_cl, gi_in, gz_n0, gz_n1, e_gz, si_eq, si_ne, sa_eq, sa_ne, if_true, if_false, ↓reduceIte, k_ltT, k_ltF, k_leT, k_leF, k_eqT, k_eqF, k_m1lt, k_nm1, not_true_eq_false, not_false_eq_true, m0, rw_ap, upd_rw, sa_sa, jn_l, jn_r, jn_4, jn_5, jn_6, jn_ul, jn_ur, jn_u4, jn_u5, jn_u6, e_shl1, m43, q_andn', b1]
        rw [ok_zb1]
        refine ok_mono (m_few1 (M := sa M1 40 (upd (M1 40) i (nI 100000000))) (l := i) hW hR hL (RdM_fr hM ?_ ?_ ?_) b (fun l hl => ?_) ?_ (fun o k => by simp (maxSteps := 3000000) (disch := omega) only [↓nx_q, zb0_s, zb1_s, zb2_s, zb3_s, zb4_s, zb5_s, zb6_s, zb7_s, zb8_s, zb9_s, zb10_s, zb11_s, zb12_s, zb13_s, zb14_s, q_lit, nI_add, pk_mul, e_cl, gi_in, gz_n0, gz_n1, e_gz, si_eq, si_ne, sa_eq, sa_ne, if_true, if_false, ↓reduceIte, k_ltT, k_ltF, k_leT, k_leF, k_eqT, k_eqF, k_m1lt, k_nm1, not_true_eq_false, not_false_eq_true, q_andn'])) (fun M2 h => ?_)
        · simp (disch := omega) only [si_eq, si_ne, sa_eq, sa_ne, upd_eq, upd_ne, updN_eq, updN_ne]; exact fr 0 (by decide)
        · simp (disch := omega) only [si_eq, si_ne, sa_eq, sa_ne, upd_eq, upd_ne, updN_eq, updN_ne]; exact fr 43 (by decide)
        · simp (disch := omega) only [si_eq, si_ne, sa_eq, sa_ne, upd_eq, upd_ne, updN_eq, updN_ne]; exact fr 44 (by decide)
        · rw [ht l, if_neg (by omega)]
          simp (disch := omega) only [si_eq, si_ne, sa_eq, sa_ne, upd_eq, upd_ne, updN_eq, updN_ne]
          exact hT l hl
        · simp (disch := omega) only [si_eq, si_ne, sa_eq, sa_ne, upd_eq, upd_ne, updN_eq, updN_ne]
        · obtain ⟨f1, f2, d, d0, d1, d2, d3⟩ := h
          have hne : ∀ x, x ≠ i → M2 40 x = M1 40 x := fun x hx => by
            rw [f2 x hx]
            simp (disch := omega) only [si_eq, si_ne, sa_eq, sa_ne, upd_eq, upd_ne, updN_eq, updN_ne]
          have hte : ∀ x, x ≠ i → tb (M2 40) x = tb (M1 40) x := fun x hx => by
            unfold tb
            rw [hne x hx]
          have htd : tb (M2 40) i = d := tb_of d0 (by omega)
          have hx : ∀ s, goP σ T L i s → tb (sa M1 40 (upd (M1 40) i (nI 100000000)) 40) (i ^^^ s) = tb (M1 40) (i ^^^ s) := fun s g => by
            have := sb_lt (by omega) g.2.1 g.1
            rw [ht, if_neg (by omega)]
          refine ⟨_, rfl, by omega, rfl, fun j hj => ?_, fun l hl => ?_, fun l hl => ?_⟩
          · dsimp only
            rw [f1 j hj]
            simp (disch := omega) only [si_eq, si_ne, sa_eq, sa_ne, upd_eq, upd_ne, updN_eq, updN_ne]
            exact fr j hj
          · by_cases e : l = i
            · subst e
              dsimp only
              rw [htd]
              exact ⟨d0, d1⟩
            · dsimp only
              rw [hte l e, hne l e]
              exact hT l (by omega)
          · by_cases e : l = i
            · subst e
              refine nd_stepM (D := tb (M1 40)) hR q0 htd (fun x hx => hte x (by omega)) (fun x hx hg => ?_) (fun s g => ?_) ?_
              · have := nd_le' hR hN x x (Nat.le_refl _) hx hg
                have := cnt_le x (σ 2)
                omega
              · rw [← hx s g]; exact d2 s g
              · rcases d3 with d3 | ⟨s, g, d3⟩
                · exact Or.inl d3
                · exact Or.inr ⟨s, g, by rw [← hx s g]; exact d3⟩
            · exact nd_cg hR (hN l (by omega)) (fun x hx _ => (hte x (by omega)).symm)
      · have b1 : andn i (σ 3 ^^^ T) ≠ 0 := fun h => b ((sb_andn (by omega)).mp h)
        simp (maxSteps := 3000000) (disch := omega) only [↓nx_q, zb0_s, zb1_s, zb2_s, zb3_s, zb4_s, zb5_s, zb6_s, zb7_s, zb8_s, zb9_s, zb10_s, zb11_s, zb12_s, zb13_s, zb14_s, q_lit, nI_add, pk_mul, e_cl, gi_in, gz_n0, gz_n1, e_gz, si_eq, si_ne, sa_eq, sa_ne, if_true, if_false, ↓reduceIte, k_ltT, k_ltF, k_leT, k_leF, k_eqT, k_eqF, k_m1lt, k_nm1, not_true_eq_false, not_false_eq_true, m0, rw_ap, upd_rw, sa_sa, jn_l, jn_r, jn_4, jn_5, jn_6, jn_ul, jn_ur, jn_u4, jn_u5, jn_u6, e_shl1, m43, q_andn']
        refine ⟨_, rfl, by omega, rfl, fun j hj => ?_, fun l hl => ?_, fun l hl => ?_⟩
        · simp (disch := omega) only [si_eq, si_ne, sa_eq, sa_ne, upd_eq, upd_ne, updN_eq, updN_ne]; exact fr j hj
        · dsimp only
          rw [ht l]
          by_cases e : l = i
          · subst e
            rw [if_pos rfl]
            simp (disch := omega) only [si_eq, si_ne, sa_eq, sa_ne, upd_eq, upd_ne, updN_eq, updN_ne]
            exact ⟨trivial, Nat.le_refl _⟩
          · rw [if_neg e]
            simp (disch := omega) only [si_eq, si_ne, sa_eq, sa_ne, upd_eq, upd_ne, updN_eq, updN_ne]
            exact hT l (by omega)
        · by_cases e : l = i
          · subst e
            exact fun hg => absurd hg.1 b
          · exact nd_cg hR (hN l (by omega)) (fun x hx _ => ((ht x).trans (if_neg (by omega))).symm)
theorem m_laysRides_r {M : Ob} {σ : Nat → Nat} {T L : Nat} (hW : WF σ) (hR : Rd σ T (σ 3 ^^^ T) L) (hL : L ≤ 40) (hM0 : M 0 = rw σ) (hA : Lg σ T (σ 3 ^^^ T) (σ 3 ^^^ T)) : Ok (f_X12_laysRides__r M (nI T) (nI L)) (fun r => (∀ j, j ≠ 40 → j ≠ 41 → j ≠ 43 → j ≠ 44 → r.1 j = M j) ∧ r.1 43 0 = nI (σ 3 ^^^ T) ∧ ∃ c D, (∀ l, l ≤ σ 3 ^^^ T → NdAt σ T (σ 3 ^^^ T) L D l) ∧ c = D (σ 3 ^^^ T) ∧ c ≤ 8 ∧ r.2 = nI c ∧ ChR σ T (σ 3 ^^^ T) L D (tb (r.1 41)) c ∧ lfN (σ 3 ^^^ T) (tb (r.1 41)) c = 0 ∧ ∀ i, i < c → r.1 41 i = nI (tb (r.1 41) i) ∧ tb (r.1 41) i < 256) := by
  have h256 := Rd_A hR
  have hx : T ^^^ σ 3 = σ 3 ^^^ T := Nat.xor_comm _ _
  unfold f_X12_laysRides__r
  simp (maxSteps := 3000000) (disch := omega) only [↓nx_q, q_lit, gi_in, e_cl, hM0, rw_ap, upd_rw, sa_sa, jn_l, jn_r, jn_4, jn_5, jn_6, jn_ul, jn_ur, jn_u4, jn_u5, jn_u6, q_xor, hx]
  obtain ⟨M1, e1, fr, hT, hN'⟩ := m_laysFewest (M := si (si M 43 (nI (σ 3 ^^^ T))) 44 (nI L)) hW hR hL ⟨by simp (disch := omega) only [si_eq, si_ne, sa_eq, sa_ne, upd_eq, upd_ne, updN_eq, updN_ne]; exact hM0, by simp (disch := omega) only [si_eq, si_ne, sa_eq, sa_ne, upd_eq, upd_ne, updN_eq, updN_ne], by simp (disch := omega) only [si_eq, si_ne, sa_eq, sa_ne, upd_eq, upd_ne, updN_eq, updN_ne]⟩
  rw [zb1_of e1]
  have hAl : σ 3 ^^^ T < 2 ^ σ 2 := hR.2.2.1
  have hN : ∀ l, l ≤ σ 3 ^^^ T → NdAt σ T (σ 3 ^^^ T) L (tb (M1 40)) l := fun l hl => hN' l (by omega)
  have cA := nd_le hR hN _ _ (Nat.le_refl _) hA
  have cn := cnt_le (σ 3 ^^^ T) (σ 2)
  have h8 := hR.1
  have m43 : M1 43 0 = nI (σ 3 ^^^ T) := by rw [fr 43 (by decide)]; simp (disch := omega) only [si_eq, si_ne, sa_eq, sa_ne, upd_eq, upd_ne, updN_eq, updN_ne]
  have m44 : M1 44 0 = nI L := by rw [fr 44 (by decide)]; simp (disch := omega) only [si_eq, si_ne, sa_eq, sa_ne, upd_eq, upd_ne, updN_eq, updN_ne]
  have m0 : M1 0 = rw σ := by rw [fr 0 (by decide)]; simp (disch := omega) only [si_eq, si_ne, sa_eq, sa_ne, upd_eq, upd_ne, updN_eq, updN_ne]; exact hM0
  simp (maxSteps := 3000000) (disch := omega) only [↓nx_q, m43]
  rw [ok_zb2]
  refine ok_mono (ok_zl3 (Q := fun r => (∀ j, j ≠ 41 → r.1 j = M1 j) ∧ ∃ c, c = tb (M1 40) (σ 3 ^^^ T) ∧ r.2 = nI c ∧ ChR σ T (σ 3 ^^^ T) L (tb (M1 40)) (tb (r.1 41)) c ∧ lfN (σ 3 ^^^ T) (tb (r.1 41)) c = 0 ∧ ∀ i, i < c → r.1 41 i = nI (tb (r.1 41) i) ∧ tb (r.1 41) i < 256) (fun i M' k kk => kk = nI i ∧ (∀ j, j ≠ 41 → M' j = M1 j) ∧ k = nI (lfN (σ 3 ^^^ T) (tb (M' 41)) i) ∧ ChR σ T (σ 3 ^^^ T) L (tb (M1 40)) (tb (M' 41)) i ∧ ∀ j, j < i → M' 41 j = nI (tb (M' 41) j) ∧ tb (M' 41) j < 256) (tb (M1 40) (σ 3 ^^^ T)) (fun i M2 k kk hi hI => ?_) (fu_lt (by omega)) ⟨rfl, fun _ _ => rfl, rfl, ch_0 hA, fun j hj => absurd hj (Nat.not_lt_zero _)⟩) (fun y hy => ?_)
  · obtain ⟨rfl, b, rfl, c, d⟩ := hI
    have hz := dzero hN c.2.1
    have hl3 := sb_le c.2.1.1
    by_cases q : lfN (σ 3 ^^^ T) (tb (M2 41)) i = 0
    · simp (maxSteps := 3000000) (disch := omega) only [↓nx_q, zb0_s, zb1_s, zb2_s, zb3_s, zb4_s, zb5_s, zb6_s, zb7_s, zb8_s, zb9_s, zb10_s, zb11_s, zb12_s, zb13_s, zb14_s, q_lit, nI_add, pk_mul, e_cl, gi_in, gz_n0, gz_n1, e_gz, si_eq, si_ne, sa_eq, sa_ne, if_true, if_false, ↓reduceIte, k_ltT, k_ltF, k_leT, k_leF, k_eqT, k_eqF, k_m1lt, k_nm1, not_true_eq_false, not_false_eq_true, q]
      have := hz.1 q
      have := c.1
      have e : i = tb (M1 40) (σ 3 ^^^ T) := by omega
      exact ⟨_, rfl, b, i, e, rfl, c, q, d⟩
    · obtain ⟨⟨s0, g0, e0⟩, hmin⟩ := (hN _ hl3 c.2.1).2 q
      have hs0 := sb_le g0.2.1
      have hil : i < tb (M1 40) (σ 3 ^^^ T) := by
        have := hz.2 q
        have := c.1
        omega
      have hM2 : RdM M2 σ (σ 3 ^^^ T) L := ⟨by rw [b 0 (by decide)]; exact m0, by rw [b 43 (by decide)]; exact m43, by rw [b 44 (by decide)]; exact m44⟩
      have h40 : M2 40 = M1 40 := b 40 (by decide)
      obtain ⟨tl, tl2⟩ := hT (lfN (σ 3 ^^^ T) (tb (M2 41)) i) (by omega)
      have cL : Lg σ T (σ 3 ^^^ T) (lfN (σ 3 ^^^ T) (tb (M2 41)) i) := c.2.1
      generalize hl : lfN (σ 3 ^^^ T) (tb (M2 41)) i = l at *
      have hfg : ∀ B : Int32 → Option (Int32 ⊕ Int32), (B = fun k55 => zb1 (f_X12_isRide M2 (nI l) k55) fun (r63 : Int32) =>
        if r63 = 0 then (
        nx (k55 + (1 : Int32)) fun x65 =>
        some (.inl x65)
        ) else (
        gi (nI l &&& (k55 ^^^ (-1 : Int32))) 256 <|
        gi (nI l) 256 <|
        if M2 40 (Int32.toNatClampNeg (nI l &&& (k55 ^^^ (-1 : Int32)))) = (M2 40 (Int32.toNatClampNeg (nI l))) - (1 : Int32) then (
        some (.inr k55)
        ) else (
        nx (k55 + (1 : Int32)) fun x68 =>
        some (.inl x68)
        )
        )) → Ok (zl1 B FU (nI 1)) (fun r => ∃ s, r = nI s ∧ s < 256 ∧ FG σ T L (tb (M1 40)) l s) := by
        intro B hB
        subst hB
        refine ok_zl1 (fun i k => k = nI (i + 1) ∧ ∀ t, t < i + 1 → ¬ (goP σ T L l t ∧ tb (M1 40) (l ^^^ t) + 1 = tb (M1 40) l)) l (fun i k hi hI => ?_) (fu_lt (by omega)) ⟨rfl, fun t ht g => g.1.1 (by omega)⟩
        obtain ⟨rfl, hno⟩ := hI
        have hil : i < l := by
          refine Classical.byContradiction fun y => hno s0 (by omega) ⟨g0, e0.symm⟩
        have hcg := m_isRide (s := i + 1) hW hR hL hM2 cL.1 (by omega) (by omega)
        by_cases q : goP σ T L l (i + 1)
        · have hcg := hcg.1 q
          have g1 := go_lg hR cL q
          have ea : andn l (i + 1) = l ^^^ (i + 1) := (sb_xor (by omega) q.2.1).symm
          obtain ⟨t1, t2⟩ := hT (l ^^^ (i + 1)) (by omega)
          by_cases q2 : tb (M1 40) (l ^^^ (i + 1)) + 1 = tb (M1 40) l
          · simp (maxSteps := 3000000) (disch := omega) only [↓nx_q, zb0_s, zb1_s, zb2_s, zb3_s, zb4_s, zb5_s, zb6_s, zb7_s, zb8_s, zb9_s, zb10_s, zb11_s, zb12_s, zb13_s, zb14_s, q_lit, nI_add, pk_mul, e_cl, gi_in, gz_n0, gz_n1, e_gz, si_eq, si_ne, sa_eq, sa_ne, if_true, if_false, ↓reduceIte, k_ltT, k_ltF, k_leT, k_leF, k_eqT, k_eqF, k_m1lt, k_nm1, not_true_eq_false, not_false_eq_true, hcg, q_andn', ea, h40, t1, tl, e_sub]
            exact ⟨_, rfl, i + 1, rfl, by omega, ⟨q, q2⟩, hno⟩
          · simp (maxSteps := 3000000) (disch := omega) only [↓nx_q, zb0_s, zb1_s, zb2_s, zb3_s, zb4_s, zb5_s, zb6_s, zb7_s, zb8_s, zb9_s, zb10_s, zb11_s, zb12_s, zb13_s, zb14_s, q_lit, nI_add, pk_mul, e_cl, gi_in, gz_n0, gz_n1, e_gz, si_eq, si_ne, sa_eq, sa_ne, if_true, if_false, ↓reduceIte, k_ltT, k_ltF, k_leT, k_leF, k_eqT, k_eqF, k_m1lt, k_nm1, not_true_eq_false, not_false_eq_true, hcg, q_andn', ea, h40, t1, tl, e_sub]
            refine ⟨_, rfl, hil, rfl, fun t ht g => ?_⟩
            by_cases e : t = i + 1
            · subst e; exact q2 g.2
            · exact hno t (by omega) g
        · have hcg := hcg.2 q
          simp (maxSteps := 3000000) (disch := omega) only [↓nx_q, zb0_s, zb1_s, zb2_s, zb3_s, zb4_s, zb5_s, zb6_s, zb7_s, zb8_s, zb9_s, zb10_s, zb11_s, zb12_s, zb13_s, zb14_s, q_lit, nI_add, pk_mul, e_cl, gi_in, gz_n0, gz_n1, e_gz, si_eq, si_ne, sa_eq, sa_ne, if_true, if_false, ↓reduceIte, k_ltT, k_ltF, k_leT, k_leF, k_eqT, k_eqF, k_m1lt, k_nm1, not_true_eq_false, not_false_eq_true, hcg]
          refine ⟨_, rfl, hil, rfl, fun t ht g => ?_⟩
          by_cases e : t = i + 1
          · subst e; exact q g.1
          · exact hno t (by omega) g
      simp (maxSteps := 3000000) (disch := omega) only [↓nx_q, zb0_s, zb1_s, zb2_s, zb3_s, zb4_s, zb5_s, zb6_s, zb7_s, zb8_s, zb9_s, zb10_s, zb11_s, zb12_s, zb13_s, zb14_s, q_lit, nI_add, pk_mul, e_cl, gi_in, gz_n0, gz_n1, e_gz, si_eq, si_ne, sa_eq, sa_ne, if_true, if_false, ↓reduceIte, k_ltT, k_ltF, k_leT, k_leF, k_eqT, k_eqF, k_m1lt, k_nm1, not_true_eq_false, not_false_eq_true]
      rw [ok_zb1]
      refine ok_mono (hfg _ (by funext k; simp (maxSteps := 3000000) (disch := omega) only [↓nx_q, zb0_s, zb1_s, zb2_s, zb3_s, zb4_s, zb5_s, zb6_s, zb7_s, zb8_s, zb9_s, zb10_s, zb11_s, zb12_s, zb13_s, zb14_s, q_lit, nI_add, pk_mul, e_cl, gi_in, gz_n0, gz_n1, e_gz, si_eq, si_ne, sa_eq, sa_ne, if_true, if_false, ↓reduceIte, k_ltT, k_ltF, k_leT, k_leF, k_eqT, k_eqF, k_m1lt, k_nm1, not_true_eq_false, not_false_eq_true])) (fun r hr => ?_)
      obtain ⟨s, rfl, s256, hF⟩ := hr
      have ht : ∀ x, tb (sa M2 41 (upd (M2 41) i (nI s)) 41) x = if x = i then s else tb (M2 41) x := fun x => by
        rw [sa_eq]
        exact tb_upd (by omega) x
      subst hl
      obtain ⟨c1, c2⟩ := ch_step (g' := tb (sa M2 41 (upd (M2 41) i (nI s)) 41)) hR c hF (fun j hj => (ht j).trans (if_neg (by omega))) ((ht i).trans (if_pos rfl))
      simp (maxSteps := 3000000) (disch := omega) only [↓nx_q, zb0_s, zb1_s, zb2_s, zb3_s, zb4_s, zb5_s, zb6_s, zb7_s, zb8_s, zb9_s, zb10_s, zb11_s, zb12_s, zb13_s, zb14_s, q_lit, nI_add, pk_mul, e_cl, gi_in, gz_n0, gz_n1, e_gz, si_eq, si_ne, sa_eq, sa_ne, if_true, if_false, ↓reduceIte, k_ltT, k_ltF, k_leT, k_leF, k_eqT, k_eqF, k_m1lt, k_nm1, not_true_eq_false, not_false_eq_true, q_andn']
      refine ⟨_, rfl, hil, rfl, fun j x => ?_, ?_, c1, fun j hj => ?_⟩
      · simp (disch := omega) only [si_eq, si_ne, sa_eq, sa_ne, upd_eq, upd_ne, updN_eq, updN_ne]; exact b j x
      · exact congrArg nI ((sb_xor (by omega) hF.1.1.2.1).symm.trans c2.symm)
      · dsimp only
        rw [ht j]
        by_cases e : j = i
        · subst e
          rw [if_pos rfl]
          simp (disch := omega) only [si_eq, si_ne, sa_eq, sa_ne, upd_eq, upd_ne, updN_eq, updN_ne]
          exact ⟨trivial, s256⟩
        · rw [if_neg e]
          simp (disch := omega) only [si_eq, si_ne, sa_eq, sa_ne, upd_eq, upd_ne, updN_eq, updN_ne]
          exact d j (by omega)
  · obtain ⟨y1, c, y2, y3, y4, y5, y6⟩ := hy
    refine ok_some.mpr ⟨fun j a1 a2 a3 a4 => ?_, ?_, c, _, hN, y2, by omega, y3, y4, y5, y6⟩
    · dsimp only
      rw [y1 j a2, fr j a1]
      simp (disch := omega) only [si_eq, si_ne, sa_eq, sa_ne, upd_eq, upd_ne, updN_eq, updN_ne]
    · dsimp only
      rw [y1 43 (by decide)]
      exact m43
theorem m_laysRides_g {M : Ob} {σ : Nat → Nat} {T L : Nat} (hW : WF σ) (hR : Rd σ T (σ 3 ^^^ T) L) (hL : L ≤ 40) (hM0 : M 0 = rw σ) (hA : Lg σ T (σ 3 ^^^ T) (σ 3 ^^^ T)) : Ok (f_X12_laysRides__g M (nI T) (nI L)) (fun r => (∀ j, j ≠ 40 → j ≠ 45 → j ≠ 43 → j ≠ 44 → r.1 j = M j) ∧ r.1 43 0 = nI (σ 3 ^^^ T) ∧ ∃ c D, (∀ l, l ≤ σ 3 ^^^ T → NdAt σ T (σ 3 ^^^ T) L D l) ∧ c = D (σ 3 ^^^ T) ∧ c ≤ 8 ∧ r.2 = nI c ∧ ChR σ T (σ 3 ^^^ T) L D (tb (r.1 45)) c ∧ lfN (σ 3 ^^^ T) (tb (r.1 45)) c = 0 ∧ ∀ i, i < c → r.1 45 i = nI (tb (r.1 45) i) ∧ tb (r.1 45) i < 256) := by
  have h256 := Rd_A hR
  have hx : T ^^^ σ 3 = σ 3 ^^^ T := Nat.xor_comm _ _
  unfold f_X12_laysRides__g
  simp (maxSteps := 3000000) (disch := omega) only [↓nx_q, q_lit, gi_in, e_cl, hM0, rw_ap, upd_rw, sa_sa, jn_l, jn_r, jn_4, jn_5, jn_6, jn_ul, jn_ur, jn_u4, jn_u5, jn_u6, q_xor, hx]
  obtain ⟨M1, e1, fr, hT, hN'⟩ := m_laysFewest (M := si (si M 43 (nI (σ 3 ^^^ T))) 44 (nI L)) hW hR hL ⟨by simp (disch := omega) only [si_eq, si_ne, sa_eq, sa_ne, upd_eq, upd_ne, updN_eq, updN_ne]; exact hM0, by simp (disch := omega) only [si_eq, si_ne, sa_eq, sa_ne, upd_eq, upd_ne, updN_eq, updN_ne], by simp (disch := omega) only [si_eq, si_ne, sa_eq, sa_ne, upd_eq, upd_ne, updN_eq, updN_ne]⟩
  rw [zb1_of e1]
  have hAl : σ 3 ^^^ T < 2 ^ σ 2 := hR.2.2.1
  have hN : ∀ l, l ≤ σ 3 ^^^ T → NdAt σ T (σ 3 ^^^ T) L (tb (M1 40)) l := fun l hl => hN' l (by omega)
  have cA := nd_le hR hN _ _ (Nat.le_refl _) hA
  have cn := cnt_le (σ 3 ^^^ T) (σ 2)
  have h8 := hR.1
  have m43 : M1 43 0 = nI (σ 3 ^^^ T) := by rw [fr 43 (by decide)]; simp (disch := omega) only [si_eq, si_ne, sa_eq, sa_ne, upd_eq, upd_ne, updN_eq, updN_ne]
  have m44 : M1 44 0 = nI L := by rw [fr 44 (by decide)]; simp (disch := omega) only [si_eq, si_ne, sa_eq, sa_ne, upd_eq, upd_ne, updN_eq, updN_ne]
  have m0 : M1 0 = rw σ := by rw [fr 0 (by decide)]; simp (disch := omega) only [si_eq, si_ne, sa_eq, sa_ne, upd_eq, upd_ne, updN_eq, updN_ne]; exact hM0
  simp (maxSteps := 3000000) (disch := omega) only [↓nx_q, m43]
  rw [ok_zb2]
  refine ok_mono (ok_zl3 (Q := fun r => (∀ j, j ≠ 45 → r.1 j = M1 j) ∧ ∃ c, c = tb (M1 40) (σ 3 ^^^ T) ∧ r.2 = nI c ∧ ChR σ T (σ 3 ^^^ T) L (tb (M1 40)) (tb (r.1 45)) c ∧ lfN (σ 3 ^^^ T) (tb (r.1 45)) c = 0 ∧ ∀ i, i < c → r.1 45 i = nI (tb (r.1 45) i) ∧ tb (r.1 45) i < 256) (fun i M' k kk => kk = nI i ∧ (∀ j, j ≠ 45 → M' j = M1 j) ∧ k = nI (lfN (σ 3 ^^^ T) (tb (M' 45)) i) ∧ ChR σ T (σ 3 ^^^ T) L (tb (M1 40)) (tb (M' 45)) i ∧ ∀ j, j < i → M' 45 j = nI (tb (M' 45) j) ∧ tb (M' 45) j < 256) (tb (M1 40) (σ 3 ^^^ T)) (fun i M2 k kk hi hI => ?_) (fu_lt (by omega)) ⟨rfl, fun _ _ => rfl, rfl, ch_0 hA, fun j hj => absurd hj (Nat.not_lt_zero _)⟩) (fun y hy => ?_)
  · obtain ⟨rfl, b, rfl, c, d⟩ := hI
    have hz := dzero hN c.2.1
    have hl3 := sb_le c.2.1.1
    by_cases q : lfN (σ 3 ^^^ T) (tb (M2 45)) i = 0
    · simp (maxSteps := 3000000) (disch := omega) only [↓nx_q, zb0_s, zb1_s, zb2_s, zb3_s, zb4_s, zb5_s, zb6_s, zb7_s, zb8_s, zb9_s, zb10_s, zb11_s, zb12_s, zb13_s, zb14_s, q_lit, nI_add, pk_mul, e_cl, gi_in, gz_n0, gz_n1, e_gz, si_eq, si_ne, sa_eq, sa_ne, if_true, if_false, ↓reduceIte, k_ltT, k_ltF, k_leT, k_leF, k_eqT, k_eqF, k_m1lt, k_nm1, not_true_eq_false, not_false_eq_true, q]
      have := hz.1 q
      have := c.1
      have e : i = tb (M1 40) (σ 3 ^^^ T) := by omega
      exact ⟨_, rfl, b, i, e, rfl, c, q, d⟩
    · obtain ⟨⟨s0, g0, e0⟩, hmin⟩ := (hN _ hl3 c.2.1).2 q
      have hs0 := sb_le g0.2.1
      have hil : i < tb (M1 40) (σ 3 ^^^ T) := by
        have := hz.2 q
        have := c.1
        omega
      have hM2 : RdM M2 σ (σ 3 ^^^ T) L := ⟨by rw [b 0 (by decide)]; exact m0, by rw [b 43 (by decide)]; exact m43, by rw [b 44 (by decide)]; exact m44⟩
      have h40 : M2 40 = M1 40 := b 40 (by decide)
      obtain ⟨tl, tl2⟩ := hT (lfN (σ 3 ^^^ T) (tb (M2 45)) i) (by omega)
      have cL : Lg σ T (σ 3 ^^^ T) (lfN (σ 3 ^^^ T) (tb (M2 45)) i) := c.2.1
      generalize hl : lfN (σ 3 ^^^ T) (tb (M2 45)) i = l at *
      have hfg : ∀ B : Int32 → Option (Int32 ⊕ Int32), (B = fun k55 => zb1 (f_X12_isRide M2 (nI l) k55) fun (r63 : Int32) =>
        if r63 = 0 then (
        nx (k55 + (1 : Int32)) fun x65 =>
        some (.inl x65)
        ) else (
        gi (nI l &&& (k55 ^^^ (-1 : Int32))) 256 <|
        gi (nI l) 256 <|
        if M2 40 (Int32.toNatClampNeg (nI l &&& (k55 ^^^ (-1 : Int32)))) = (M2 40 (Int32.toNatClampNeg (nI l))) - (1 : Int32) then (
        some (.inr k55)
        ) else (
        nx (k55 + (1 : Int32)) fun x68 =>
        some (.inl x68)
        )
        )) → Ok (zl1 B FU (nI 1)) (fun r => ∃ s, r = nI s ∧ s < 256 ∧ FG σ T L (tb (M1 40)) l s) := by
        intro B hB
        subst hB
        refine ok_zl1 (fun i k => k = nI (i + 1) ∧ ∀ t, t < i + 1 → ¬ (goP σ T L l t ∧ tb (M1 40) (l ^^^ t) + 1 = tb (M1 40) l)) l (fun i k hi hI => ?_) (fu_lt (by omega)) ⟨rfl, fun t ht g => g.1.1 (by omega)⟩
        obtain ⟨rfl, hno⟩ := hI
        have hil : i < l := by
          refine Classical.byContradiction fun y => hno s0 (by omega) ⟨g0, e0.symm⟩
        have hcg := m_isRide (s := i + 1) hW hR hL hM2 cL.1 (by omega) (by omega)
        by_cases q : goP σ T L l (i + 1)
        · have hcg := hcg.1 q
          have g1 := go_lg hR cL q
          have ea : andn l (i + 1) = l ^^^ (i + 1) := (sb_xor (by omega) q.2.1).symm
          obtain ⟨t1, t2⟩ := hT (l ^^^ (i + 1)) (by omega)
          by_cases q2 : tb (M1 40) (l ^^^ (i + 1)) + 1 = tb (M1 40) l
          · simp (maxSteps := 3000000) (disch := omega) only [↓nx_q, zb0_s, zb1_s, zb2_s, zb3_s, zb4_s, zb5_s, zb6_s, zb7_s, zb8_s, zb9_s, zb10_s, zb11_s, zb12_s, zb13_s, zb14_s, q_lit, nI_add, pk_mul, e_cl, gi_in, gz_n0, gz_n1, e_gz, si_eq, si_ne, sa_eq, sa_ne, if_true, if_false, ↓reduceIte, k_ltT, k_ltF, k_leT, k_leF, k_eqT, k_eqF, k_m1lt, k_nm1, not_true_eq_false, not_false_eq_true, hcg, q_andn', ea, h40, t1, tl, e_sub]
            exact ⟨_, rfl, i + 1, rfl, by omega, ⟨q, q2⟩, hno⟩
          · simp (maxSteps := 3000000) (disch := omega) only [↓nx_q, zb0_s, zb1_s, zb2_s, zb3_s, zb4_s, zb5_s, zb6_s, zb7_s, zb8_s, zb9_s, zb10_s, zb11_s, zb12_s, zb13_s, zb14_s, q_lit, nI_add, pk_mul, e_cl, gi_in, gz_n0, gz_n1, e_gz, si_eq, si_ne, sa_eq, sa_ne, if_true, if_false, ↓reduceIte, k_ltT, k_ltF, k_leT, k_leF, k_eqT, k_eqF, k_m1lt, k_nm1, not_true_eq_false, not_false_eq_true, hcg, q_andn', ea, h40, t1, tl, e_sub]
            refine ⟨_, rfl, hil, rfl, fun t ht g => ?_⟩
            by_cases e : t = i + 1
            · subst e; exact q2 g.2
            · exact hno t (by omega) g
        · have hcg := hcg.2 q
          simp (maxSteps := 3000000) (disch := omega) only [↓nx_q, zb0_s, zb1_s, zb2_s, zb3_s, zb4_s, zb5_s, zb6_s, zb7_s, zb8_s, zb9_s, zb10_s, zb11_s, zb12_s, zb13_s, zb14_s, q_lit, nI_add, pk_mul, e_cl, gi_in, gz_n0, gz_n1, e_gz, si_eq, si_ne, sa_eq, sa_ne, if_true, if_false, ↓reduceIte, k_ltT, k_ltF, k_leT, k_leF, k_eqT, k_eqF, k_m1lt, k_nm1, not_true_eq_false, not_false_eq_true, hcg]
          refine ⟨_, rfl, hil, rfl, fun t ht g => ?_⟩
          by_cases e : t = i + 1
          · subst e; exact q g.1
          · exact hno t (by omega) g
      simp (maxSteps := 3000000) (disch := omega) only [↓nx_q, zb0_s, zb1_s, zb2_s, zb3_s, zb4_s, zb5_s, zb6_s, zb7_s, zb8_s, zb9_s, zb10_s, zb11_s, zb12_s, zb13_s, zb14_s, q_lit, nI_add, pk_mul, e_cl, gi_in, gz_n0, gz_n1, e_gz, si_eq, si_ne, sa_eq, sa_ne, if_true, if_false, ↓reduceIte, k_ltT, k_ltF, k_leT, k_leF, k_eqT, k_eqF, k_m1lt, k_nm1, not_true_eq_false, not_false_eq_true]
      rw [ok_zb1]
      refine ok_mono (hfg _ (by funext k; simp (maxSteps := 3000000) (disch := omega) only [↓nx_q, zb0_s, zb1_s, zb2_s, zb3_s, zb4_s, zb5_s, zb6_s, zb7_s, zb8_s, zb9_s, zb10_s, zb11_s, zb12_s, zb13_s, zb14_s, q_lit, nI_add, pk_mul, e_cl, gi_in, gz_n0, gz_n1, e_gz, si_eq, si_ne, sa_eq, sa_ne, if_true, if_false, ↓reduceIte, k_ltT, k_ltF, k_leT, k_leF, k_eqT, k_eqF, k_m1lt, k_nm1, not_true_eq_false, not_false_eq_true])) (fun r hr => ?_)
      obtain ⟨s, rfl, s256, hF⟩ := hr
      have ht : ∀ x, tb (sa M2 45 (upd (M2 45) i (nI s)) 45) x = if x = i then s else tb (M2 45) x := fun x => by
        rw [sa_eq]
        exact tb_upd (by omega) x
      subst hl
      obtain ⟨c1, c2⟩ := ch_step (g' := tb (sa M2 45 (upd (M2 45) i (nI s)) 45)) hR c hF (fun j hj => (ht j).trans (if_neg (by omega))) ((ht i).trans (if_pos rfl))
      simp (maxSteps := 3000000) (disch := omega) only [↓nx_q, zb0_s, zb1_s, zb2_s, zb3_s, zb4_s, zb5_s, zb6_s, zb7_s, zb8_s, zb9_s, zb10_s, zb11_s, zb12_s, zb13_s, zb14_s, q_lit, nI_add, pk_mul, e_cl, gi_in, gz_n0, gz_n1, e_gz, si_eq, si_ne, sa_eq, sa_ne, if_true, if_false, ↓reduceIte, k_ltT, k_ltF, k_leT, k_leF, k_eqT, k_eqF, k_m1lt, k_nm1, not_true_eq_false, not_false_eq_true, q_andn']
      refine ⟨_, rfl, hil, rfl, fun j x => ?_, ?_, c1, fun j hj => ?_⟩
      · simp (disch := omega) only [si_eq, si_ne, sa_eq, sa_ne, upd_eq, upd_ne, updN_eq, updN_ne]; exact b j x
      · exact congrArg nI ((sb_xor (by omega) hF.1.1.2.1).symm.trans c2.symm)
      · dsimp only
        rw [ht j]
        by_cases e : j = i
        · subst e
          rw [if_pos rfl]
          simp (disch := omega) only [si_eq, si_ne, sa_eq, sa_ne, upd_eq, upd_ne, updN_eq, updN_ne]
          exact ⟨trivial, s256⟩
        · rw [if_neg e]
          simp (disch := omega) only [si_eq, si_ne, sa_eq, sa_ne, upd_eq, upd_ne, updN_eq, updN_ne]
          exact d j (by omega)
  · obtain ⟨y1, c, y2, y3, y4, y5, y6⟩ := hy
    refine ok_some.mpr ⟨fun j a1 a2 a3 a4 => ?_, ?_, c, _, hN, y2, by omega, y3, y4, y5, y6⟩
    · dsimp only
      rw [y1 j a2, fr j a1]
      simp (disch := omega) only [si_eq, si_ne, sa_eq, sa_ne, upd_eq, upd_ne, updN_eq, updN_ne]
    · dsimp only
      rw [y1 43 (by decide)]
      exact m43
