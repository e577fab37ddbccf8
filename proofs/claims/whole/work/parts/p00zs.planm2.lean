/-- the scratch of the model's planner -/
def FrP (M M' : Ob) : Prop := ∀ j, j ≠ 28 → j ≠ 29 → j ≠ 30 → j ≠ 31 → j ≠ 32 → j ≠ 33 → M' j = M j
theorem m_plans {M : Ob} {σ : Nat → Nat} {room al many : Nat} (hM : M 0 = rw σ) (hW : WF σ) (hm : many ≤ σ 7) (hr : room ≤ 20) (ha : al < 256) : Ok (f_X12_plans M (nI many) (nI room) (nI al)) (fun p => PR p.1 σ room al many ∧ p.1 32 0 = nI many ∧ FrP M p.1 ∧ p.2 = nI (if many = 0 then 0 else m8 (rowN σ room al many (lsN σ room (rowN σ room al many) (2 ^ σ 2))))) := by
  have h8 := hW.1.1
  have h7 := hW.2.2.1
  have hwi := hW.1.2.2.2.2.1
  have hN : 2 ^ σ 2 ≤ 256 := pw8 h8
  have hN0 : 0 < 2 ^ σ 2 := Nat.two_pow_pos _
  have hlog : ∀ i, i < σ 7 → σ (104 + i) < σ 2 := fun i hi => (hW.2.2.2.2.2.2 i hi).1
  unfold f_X12_plans
  rw [nx_eq, nx_eq, nx_eq, ok_zb1]
  refine ok_mono (ok_zl2 (Q := fun o => (∀ s, s < 2 ^ σ 2 → o 30 s = nI (prS σ s)) ∧ o 31 0 = nI room ∧ o 32 0 = nI many ∧ o 33 0 = nI al ∧ FrP M o) (fun i o kk => kk = nI i ∧ (∀ s, s < i → o 30 s = nI (prS σ s)) ∧ o 31 0 = nI room ∧ o 32 0 = nI many ∧ o 33 0 = nI al ∧ FrP M o) (2 ^ σ 2) (fun i o kk hi hI => ?_) (fu_lt (by omega)) ⟨rfl, fun s hs => absurd hs (Nat.not_lt_zero _), ?_, ?_, ?_, fun j _ _ _ a b c => ?_⟩) (fun o1 ho1 => ?_)
  · obtain ⟨rfl, hin, h31, h32, h33, hf⟩ := hI
    have hMo : o 0 = rw σ := by rw [hf 0 (by decide) (by decide) (by decide) (by decide) (by decide) (by decide)]; exact hM
    by_cases q : i = 2 ^ σ 2
    · subst q
      simp (maxSteps := 3000000) (disch := omega) only [↓nx_q, zb0_s, zb1_s, zb2_s, zb3_s, zb4_s, zb5_s, zb6_s, zb7_s, zb8_s, zb9_s, zb10_s, zb11_s, zb12_s, zb13_s, zb14_s, q_lit, nI_add, pk_mul, e_cl, gi_in, gz_n0, gz_n1, e_gz, si_eq, si_ne, sa_eq, sa_ne, if_true, if_false, ↓reduceIte, k_ltT, k_ltF, k_leT, k_leF, k_eqT, k_eqF, k_m1lt, k_nm1, not_true_eq_false, not_false_eq_true, hMo, rw_ap, upd_rw, sa_sa, jn_l, jn_r, jn_4, jn_5, jn_6, jn_ul, jn_ur, jn_u4, jn_u5, jn_u6, e_shl1]
      exact ⟨_, rfl, hin, h31, h32, h33, hf⟩
    · have hp := m_priceOf (s := i) hMo h8 (by omega)
      simp (maxSteps := 3000000) (disch := omega) only [↓nx_q, zb0_s, zb1_s, zb2_s, zb3_s, zb4_s, zb5_s, zb6_s, zb7_s, zb8_s, zb9_s, zb10_s, zb11_s, zb12_s, zb13_s, zb14_s, q_lit, nI_add, pk_mul, e_cl, gi_in, gz_n0, gz_n1, e_gz, si_eq, si_ne, sa_eq, sa_ne, if_true, if_false, ↓reduceIte, k_ltT, k_ltF, k_leT, k_leF, k_eqT, k_eqF, k_m1lt, k_nm1, not_true_eq_false, not_false_eq_true, hMo, rw_ap, upd_rw, sa_sa, jn_l, jn_r, jn_4, jn_5, jn_6, jn_ul, jn_ur, jn_u4, jn_u5, jn_u6, e_shl1, hp]
      refine ⟨_, rfl, by omega, rfl, fun s hs => ?_, ?_, ?_, ?_, fun j a b c d e f => ?_⟩
      · by_cases e : s = i
        · subst e
          simp (disch := omega) only [si_eq, si_ne, sa_eq, sa_ne, upd_eq, upd_ne, updN_eq, updN_ne]
        · simp (disch := omega) only [si_eq, si_ne, sa_eq, sa_ne, upd_eq, upd_ne, updN_eq, updN_ne]
          exact hin s (by omega)
      · simp (disch := omega) only [si_eq, si_ne, sa_eq, sa_ne, upd_eq, upd_ne, updN_eq, updN_ne]; exact h31
      · simp (disch := omega) only [si_eq, si_ne, sa_eq, sa_ne, upd_eq, upd_ne, updN_eq, updN_ne]; exact h32
      · simp (disch := omega) only [si_eq, si_ne, sa_eq, sa_ne, upd_eq, upd_ne, updN_eq, updN_ne]; exact h33
      · simp (disch := omega) only [si_eq, si_ne, sa_eq, sa_ne, upd_eq, upd_ne, updN_eq, updN_ne]
        exact hf j a b c d e f
  · simp (disch := omega) only [si_eq, si_ne, sa_eq, sa_ne, upd_eq, upd_ne, updN_eq, updN_ne]
  · simp (disch := omega) only [si_eq, si_ne, sa_eq, sa_ne, upd_eq, upd_ne, updN_eq, updN_ne]
  · simp (disch := omega) only [si_eq, si_ne, sa_eq, sa_ne, upd_eq, upd_ne, updN_eq, updN_ne]
  · simp (disch := omega) only [si_eq, si_ne, sa_eq, sa_ne, upd_eq, upd_ne, updN_eq, updN_ne]
  · obtain ⟨h30, h31, h32, h33, hf⟩ := ho1
    rw [ok_zb1]
    refine ok_mono (ok_zl2 (Q := fun o => PR o σ room al many ∧ o 32 0 = nI many ∧ FrP M o) (fun i o kk => kk = nI i ∧ PR o σ room al i ∧ (∀ s, s < 2 ^ σ 2 → o 30 s = nI (prS σ s)) ∧ o 31 0 = nI room ∧ o 32 0 = nI many ∧ o 33 0 = nI al ∧ FrP M o) many (fun i o kk hi hI => ?_) (fu_lt (by omega)) ⟨rfl, fun i s h => absurd h (Nat.not_lt_zero _), h30, h31, h32, h33, hf⟩) (fun o2 ho2 => ?_)
    · obtain ⟨rfl, hp, g30, g31, g32, g33, gf⟩ := hI
      by_cases q : i = many
      · subst q
        simp (maxSteps := 3000000) (disch := omega) only [↓nx_q, zb0_s, zb1_s, zb2_s, zb3_s, zb4_s, zb5_s, zb6_s, zb7_s, zb8_s, zb9_s, zb10_s, zb11_s, zb12_s, zb13_s, zb14_s, q_lit, nI_add, pk_mul, e_cl, gi_in, gz_n0, gz_n1, e_gz, si_eq, si_ne, sa_eq, sa_ne, if_true, if_false, ↓reduceIte, k_ltT, k_ltF, k_leT, k_leF, k_eqT, k_eqF, k_m1lt, k_nm1, not_true_eq_false, not_false_eq_true]
        exact ⟨_, rfl, hp, g32, gf⟩
      · have hi7 : i < σ 7 := by omega
        rw [if_neg (nI_ge (by omega) (by omega)), ok_zb1]
        refine ok_mono (ok_zl2 (Q := fun o' => PR o' σ room al (i + 1) ∧ (∀ s, s < 2 ^ σ 2 → o' 30 s = nI (prS σ s)) ∧ o' 31 0 = nI room ∧ o' 32 0 = nI many ∧ o' 33 0 = nI al ∧ FrP M o') (fun x o' kk => kk = nI x ∧ PR o' σ room al i ∧ (∀ s, s < x → o' 28 (256 * i + s) = nI (m8 (rowN σ room al (i + 1) s))) ∧ (∀ s, s < 2 ^ σ 2 → o' 30 s = nI (prS σ s)) ∧ o' 31 0 = nI room ∧ o' 32 0 = nI many ∧ o' 33 0 = nI al ∧ FrP M o') (2 ^ σ 2) (fun x o' kk hx hI2 => ?_) (fu_lt (by omega)) ⟨rfl, hp, fun s hs => absurd hs (Nat.not_lt_zero _), g30, g31, g32, g33, gf⟩) (fun o' ho' => ?_)
        · obtain ⟨rfl, p1, p2, k30, k31, k32, k33, kf⟩ := hI2
          have hMo : o' 0 = rw σ := by rw [kf 0 (by decide) (by decide) (by decide) (by decide) (by decide) (by decide)]; exact hM
          by_cases qx : x = 2 ^ σ 2
          · subst qx
            simp (maxSteps := 3000000) (disch := omega) only [↓nx_q, zb0_s, zb1_s, zb2_s, zb3_s, zb4_s, zb5_s, zb6_s, zb7_s, zb8_s, zb9_s, zb10_s, zb11_s, zb12_s, zb13_s, zb14_s, q_lit, nI_add, pk_mul, e_cl, gi_in, gz_n0, gz_n1, e_gz, si_eq, si_ne, sa_eq, sa_ne, if_true, if_false, ↓reduceIte, k_ltT, k_ltF, k_leT, k_leF, k_eqT, k_eqF, k_m1lt, k_nm1, not_true_eq_false, not_false_eq_true, hMo, rw_ap, upd_rw, sa_sa, jn_l, jn_r, jn_4, jn_5, jn_6, jn_ul, jn_ur, jn_u4, jn_u5, jn_u6, e_shl1]
            refine ⟨_, rfl, fun j s hj hs => ?_, k30, k31, k32, k33, kf⟩
            by_cases e : j = i
            · subst e; exact p2 s hs
            · exact p1 j s (by omega) hs
          · have hpl := m_isPlan (i := i) (s := x) hMo hW hi7 (by omega) ha hr k31 k33
            have hbe := m_bestAt (i := i) (s := x) (room := room) (al := al) hMo hW hi7 (by omega) p1 k30
            have hsucc : rowN σ room al (i + 1) x = if sumB (szN σ) x (σ 2) ≤ room ∧ x &&& al = al ∧ mnU σ room (rowN σ room al i) x (2 ^ σ 2) < 1000000 ∧ ((σ 1 = 0 ∧ σ (8 + σ (104 + i)) ≤ room) → x.testBit (σ (104 + i)) = true) then mnU σ room (rowN σ room al i) x (2 ^ σ 2) + srvN σ i x else 1000000 := rfl
            have hbd1 := row_bd h8 hwi room al (i + 1) (fun j h => hlog j (by omega)) x
            have fin : ∀ v, v = m8 (rowN σ room al (i + 1) x) → Lp (fun (y : Ob × Int32) => x < 2 ^ σ 2 ∧ y.2 = nI (x + 1) ∧ PR y.1 σ room al i ∧ (∀ s, s < x + 1 → y.1 28 (256 * i + s) = nI (m8 (rowN σ room al (i + 1) s))) ∧ (∀ s, s < 2 ^ σ 2 → y.1 30 s = nI (prS σ s)) ∧ y.1 31 0 = nI room ∧ y.1 32 0 = nI many ∧ y.1 33 0 = nI al ∧ FrP M y.1) (fun (o' : Ob) => PR o' σ room al (i + 1) ∧ (∀ s, s < 2 ^ σ 2 → o' 30 s = nI (prS σ s)) ∧ o' 31 0 = nI room ∧ o' 32 0 = nI many ∧ o' 33 0 = nI al ∧ FrP M o') (Sum.inl (sa o' 28 (upd (o' 28) (256 * i + x) (nI v)), nI (x + 1))) := by
              intro v hv
              refine ⟨by omega, rfl, fun j s hj hs => ?_, fun s hs => ?_, fun s hs => ?_, ?_, ?_, ?_, fun j a b c d e f => ?_⟩
              · simp (disch := omega) only [si_eq, si_ne, sa_eq, sa_ne, upd_eq, upd_ne, updN_eq, updN_ne]
                exact p1 j s hj hs
              · by_cases e : s = x
                · subst e
                  simp (disch := omega) only [si_eq, si_ne, sa_eq, sa_ne, upd_eq, upd_ne, updN_eq, updN_ne]
                  rw [hv]
                · simp (disch := omega) only [si_eq, si_ne, sa_eq, sa_ne, upd_eq, upd_ne, updN_eq, updN_ne]
                  exact p2 s (by omega)
              · simp (disch := omega) only [si_eq, si_ne, sa_eq, sa_ne, upd_eq, upd_ne, updN_eq, updN_ne]; exact k30 s hs
              · simp (disch := omega) only [si_eq, si_ne, sa_eq, sa_ne, upd_eq, upd_ne, updN_eq, updN_ne]; exact k31
              · simp (disch := omega) only [si_eq, si_ne, sa_eq, sa_ne, upd_eq, upd_ne, updN_eq, updN_ne]; exact k32
              · simp (disch := omega) only [si_eq, si_ne, sa_eq, sa_ne, upd_eq, upd_ne, updN_eq, updN_ne]; exact k33
              · simp (disch := omega) only [si_eq, si_ne, sa_eq, sa_ne, upd_eq, upd_ne, updN_eq, updN_ne]
                exact kf j a b c d e f
            by_cases may : mayN σ room al i x
            · have hy := hpl.1 may
              have hv : (if mnU σ room (rowN σ room al i) x (2 ^ σ 2) < 1000000 then mnU σ room (rowN σ room al i) x (2 ^ σ 2) + srvN σ i x else 100000000) = m8 (rowN σ room al (i + 1) x) := by
                by_cases c : mnU σ room (rowN σ room al i) x (2 ^ σ 2) < 1000000
                · rw [if_pos ⟨may.1, may.2.1, c, may.2.2⟩] at hsucc
                  rw [if_pos c, ← hsucc]
                  rcases hbd1 with h | h
                  · have hsl := srv_le h8 hwi (hlog i hi7) x
                    exfalso
                    rcases mnU_at (σ := σ) (room := room) (C := rowN σ room al i) (s := x) (2 ^ σ 2) with g | ⟨u, a, b, c', d⟩
                    · omega
                    · have := prS_le h8 hwi (andn x u)
                      rcases row_bd h8 hwi room al i (fun j h => hlog j (by omega)) u with g | g <;> omega
                  · rw [m8_lt (by omega)]
                · rw [if_neg (fun z => c z.2.2.1)] at hsucc
                  rw [if_neg c, hsucc]
                  rfl
              rw [hv] at hbe
              simp (maxSteps := 3000000) (disch := omega) only [↓nx_q, zb0_s, zb1_s, zb2_s, zb3_s, zb4_s, zb5_s, zb6_s, zb7_s, zb8_s, zb9_s, zb10_s, zb11_s, zb12_s, zb13_s, zb14_s, q_lit, nI_add, pk_mul, e_cl, gi_in, gz_n0, gz_n1, e_gz, si_eq, si_ne, sa_eq, sa_ne, if_true, if_false, ↓reduceIte, k_ltT, k_ltF, k_leT, k_leF, k_eqT, k_eqF, k_m1lt, k_nm1, not_true_eq_false, not_false_eq_true, hMo, rw_ap, upd_rw, sa_sa, jn_l, jn_r, jn_4, jn_5, jn_6, jn_ul, jn_ur, jn_u4, jn_u5, jn_u6, e_shl1, hy, hbe]
              exact ⟨_, rfl, fin _ rfl⟩
            · have hy := hpl.2 may
              have hv : 100000000 = m8 (rowN σ room al (i + 1) x) := by
                rw [if_neg (fun z => may ⟨z.1, z.2.1, z.2.2.2⟩)] at hsucc
                rw [hsucc]
                rfl
              simp (maxSteps := 3000000) (disch := omega) only [↓nx_q, zb0_s, zb1_s, zb2_s, zb3_s, zb4_s, zb5_s, zb6_s, zb7_s, zb8_s, zb9_s, zb10_s, zb11_s, zb12_s, zb13_s, zb14_s, q_lit, nI_add, pk_mul, e_cl, gi_in, gz_n0, gz_n1, e_gz, si_eq, si_ne, sa_eq, sa_ne, if_true, if_false, ↓reduceIte, k_ltT, k_ltF, k_leT, k_leF, k_eqT, k_eqF, k_m1lt, k_nm1, not_true_eq_false, not_false_eq_true, hMo, rw_ap, upd_rw, sa_sa, jn_l, jn_r, jn_4, jn_5, jn_6, jn_ul, jn_ur, jn_u4, jn_u5, jn_u6, e_shl1, hy]
              exact ⟨_, rfl, fin _ hv⟩
        · exact ⟨_, rfl, by omega, nI_1 i, ho'⟩
    · obtain ⟨hp, g32, gf⟩ := ho2
      have hMo : o2 0 = rw σ := by rw [gf 0 (by decide) (by decide) (by decide) (by decide) (by decide) (by decide)]; exact hM
      by_cases q : many = 0
      · subst q
        rw [nx_eq, ok_zb1]
        refine ⟨nI 100000000, zl2_fo (fun _ => nI 100000000) (fun _ => nI 0) 0 _ (fu_lt (by decide)) rfl rfl (fun j hj => by omega) ?_, ?_⟩
        · simp (maxSteps := 3000000) (disch := omega) only [↓nx_q, zb0_s, zb1_s, zb2_s, zb3_s, zb4_s, zb5_s, zb6_s, zb7_s, zb8_s, zb9_s, zb10_s, zb11_s, zb12_s, zb13_s, zb14_s, q_lit, nI_add, pk_mul, e_cl, gi_in, gz_n0, gz_n1, e_gz, si_eq, si_ne, sa_eq, sa_ne, if_true, if_false, ↓reduceIte, k_ltT, k_ltF, k_leT, k_leF, k_eqT, k_eqF, k_m1lt, k_nm1, not_true_eq_false, not_false_eq_true, hMo, rw_ap, upd_rw, sa_sa, jn_l, jn_r, jn_4, jn_5, jn_6, jn_ul, jn_ur, jn_u4, jn_u5, jn_u6, e_shl1]
        · rw [if_pos rfl]
          exact ok_some.mpr ⟨hp, g32, gf, rfl⟩
      · rw [if_neg q, nx_eq, ok_zb1]
        have hbd := row_bd h8 hwi room al many (fun j h => hlog j (by omega))
        have hrow : ∀ s, s < 2 ^ σ 2 → o2 28 (256 * (many - 1) + s) = nI (m8 (rowN σ room al many s)) := fun s hs => by
          have := hp (many - 1) s (by omega) hs
          rw [show many - 1 + 1 = many by omega] at this
          exact this
        have hm8 : ∀ s, m8 (rowN σ room al many s) ≤ 100000000 := fun s => by
          unfold m8
          split <;> omega
        refine ok_mono (ok_zl2 (Q := fun r => r = nI (m8 (rowN σ room al many (lsN σ room (rowN σ room al many) (2 ^ σ 2))))) (fun t k70 k71 => k71 = nI t ∧ ∃ v, k70 = nI v ∧ v ≤ 100000000 ∧ (∀ s, s < t → v ≤ m8 (rowN σ room al many s)) ∧ (v = 100000000 ∨ ∃ s, s < t ∧ rowN σ room al many s < 1000000 ∧ v = rowN σ room al many s)) (2 ^ σ 2) (fun t k70 k71 ht hI => ?_) (fu_lt (by omega)) ⟨rfl, 100000000, rfl, Nat.le_refl _, fun s hs => absurd hs (Nat.not_lt_zero _), Or.inl rfl⟩) (fun y hy => ?_)
        · obtain ⟨rfl, v, rfl, hv, h1, h2⟩ := hI
          by_cases qt : t = 2 ^ σ 2
          · subst qt
            simp (maxSteps := 3000000) (disch := omega) only [↓nx_q, zb0_s, zb1_s, zb2_s, zb3_s, zb4_s, zb5_s, zb6_s, zb7_s, zb8_s, zb9_s, zb10_s, zb11_s, zb12_s, zb13_s, zb14_s, q_lit, nI_add, pk_mul, e_cl, gi_in, gz_n0, gz_n1, e_gz, si_eq, si_ne, sa_eq, sa_ne, if_true, if_false, ↓reduceIte, k_ltT, k_ltF, k_leT, k_leF, k_eqT, k_eqF, k_m1lt, k_nm1, not_true_eq_false, not_false_eq_true, hMo, rw_ap, upd_rw, sa_sa, jn_l, jn_r, jn_4, jn_5, jn_6, jn_ul, jn_ur, jn_u4, jn_u5, jn_u6, e_shl1]
            refine ⟨_, rfl, congrArg nI ?_⟩
            have hls := ls_lt (σ := σ) (room := room) (C := rowN σ room al many)
            obtain ⟨s1, s2, s3, s4⟩ := ls_spec (σ := σ) (room := room) (C := rowN σ room al many) (2 ^ σ 2)
            have hge := h1 _ hls
            rcases h2 with h2 | ⟨s, a, b, c⟩
            · have := hm8 (lsN σ room (rowN σ room al many) (2 ^ σ 2))
              omega
            · have := s2 s a (row_fit b)
              rw [m8_lt (show rowN σ room al many (lsN σ room (rowN σ room al many) (2 ^ σ 2)) < 1000000 by omega)] at hge ⊢
              omega
          · have hr := hrow t (by omega)
            have hmt := hm8 t
            by_cases z : v ≤ m8 (rowN σ room al many t)
            · simp (maxSteps := 3000000) (disch := omega) only [↓nx_q, zb0_s, zb1_s, zb2_s, zb3_s, zb4_s, zb5_s, zb6_s, zb7_s, zb8_s, zb9_s, zb10_s, zb11_s, zb12_s, zb13_s, zb14_s, q_lit, nI_add, pk_mul, e_cl, gi_in, gz_n0, gz_n1, e_gz, si_eq, si_ne, sa_eq, sa_ne, if_true, if_false, ↓reduceIte, k_ltT, k_ltF, k_leT, k_leF, k_eqT, k_eqF, k_m1lt, k_nm1, not_true_eq_false, not_false_eq_true, hMo, rw_ap, upd_rw, sa_sa, jn_l, jn_r, jn_4, jn_5, jn_6, jn_ul, jn_ur, jn_u4, jn_u5, jn_u6, e_shl1, e_sub, hr]
              refine ⟨_, rfl, by omega, rfl, v, rfl, hv, fun s hs => ?_, ?_⟩
              · by_cases e : s = t
                · subst e; exact z
                · exact h1 s (by omega)
              · rcases h2 with h2 | ⟨s, a, b⟩
                · exact Or.inl h2
                · exact Or.inr ⟨s, by omega, b⟩
            · simp (maxSteps := 3000000) (disch := omega) only [↓nx_q, zb0_s, zb1_s, zb2_s, zb3_s, zb4_s, zb5_s, zb6_s, zb7_s, zb8_s, zb9_s, zb10_s, zb11_s, zb12_s, zb13_s, zb14_s, q_lit, nI_add, pk_mul, e_cl, gi_in, gz_n0, gz_n1, e_gz, si_eq, si_ne, sa_eq, sa_ne, if_true, if_false, ↓reduceIte, k_ltT, k_ltF, k_leT, k_leF, k_eqT, k_eqF, k_m1lt, k_nm1, not_true_eq_false, not_false_eq_true, hMo, rw_ap, upd_rw, sa_sa, jn_l, jn_r, jn_4, jn_5, jn_6, jn_ul, jn_ur, jn_u4, jn_u5, jn_u6, e_shl1, e_sub, hr]
              have hlt : rowN σ room al many t < 1000000 := by
                apply Nat.lt_of_not_le
                intro y
                rw [m8_ge (by omega)] at z
                omega
              refine ⟨_, rfl, by omega, rfl, m8 (rowN σ room al many t), rfl, hmt, fun s hs => ?_, Or.inr ⟨t, by omega, hlt, m8_lt hlt⟩⟩
              by_cases e : s = t
              · subst e; exact Nat.le_refl _
              · have := h1 s (by omega)
                omega
        · rw [hy, if_neg (show ¬ nI many = 0 from nI_ne0 (by omega) (by omega))]
          exact ok_some.mpr ⟨hp, g32, gf, rfl⟩
/-! there always is a PLAN -/
theorem row_ex {σ : Nat → Nat} {room : Nat} (hW : WF σ) : ∀ n, n ≤ σ 7 → ∃ s, s < 2 ^ σ 2 ∧ rowN σ room 0 n s < 1000000
  | 0, _ => ⟨0, Nat.two_pow_pos _, by show (if 0 = 0 then 0 else 1000000) < 1000000; decide⟩
  | n + 1, hn => by
    have h8 := hW.1.1
    have h7 := hW.2.2.1
    have hwi := hW.1.2.2.2.2.1
    have hN0 : 0 < 2 ^ σ 2 := Nat.two_pow_pos _
    have hlog : ∀ i, i < σ 7 → σ (104 + i) < σ 2 := fun i hi => (hW.2.2.2.2.2.2 i hi).1
    obtain ⟨t, ht, hc⟩ := row_ex hW (room := room) n (by omega)
    have hk := hlog n (by omega)
    have hbt : rowN σ room 0 n t ≤ 500 * n := by
      rcases row_bd h8 hwi room 0 n (fun j h => hlog j (by omega)) t with h | h <;> omega
    have hU : ∀ s, mnU σ room (rowN σ room 0 n) s (2 ^ σ 2) < 900000 := fun s => by
      have h1 := mnU_low (s := s) ht (row_fit hc) hc
      have h2 := prS_le h8 hwi (andn s t)
      omega
    by_cases q : σ (8 + σ (104 + n)) ≤ room
    · refine ⟨2 ^ σ (104 + n), pw_lt hk, ?_⟩
      have h1 := hU (2 ^ σ (104 + n))
      have h2 := srv_le h8 hwi hk (2 ^ σ (104 + n))
      unfold rowN
      rw [if_pos ⟨by rw [sumB_single hk]; exact q, by rw [Nat.and_zero], by omega, fun _ => by rw [tb_pow]; simp⟩]
      omega
    · refine ⟨0, hN0, ?_⟩
      have h1 := hU 0
      have h2 := srv_le h8 hwi hk 0
      unfold rowN
      rw [if_pos ⟨by rw [sumB_0]; exact Nat.zero_le _, by rw [Nat.and_zero], by omega, fun z => absurd z.2 q⟩]
      omega
theorem best_fin {σ : Nat → Nat} {room n : Nat} (hW : WF σ) (hn : n ≤ σ 7) : rowN σ room 0 n (lsN σ room (rowN σ room 0 n) (2 ^ σ 2)) < 1000000 := by
  obtain ⟨s, a, b⟩ := row_ex (room := room) hW n hn
  have := (ls_spec (σ := σ) (room := room) (C := rowN σ room 0 n) (2 ^ σ 2)).2.1 s a (row_fit b)
  omega
theorem fa_ex {σ : Nat → Nat} {room t d : Nat} (hW : WF σ) (ht : t ≤ σ 7) (hd : d + 1 < t) (h : rowN σ room 0 (t - d) (chN σ room t d) < 1000000) : ∃ u, faN σ room (rowN σ room 0 (t - 1 - d)) (chN σ room t d) (rowN σ room 0 (t - d) (chN σ room t d) - srvN σ (t - 1 - d) (chN σ room t d)) (2 ^ σ 2) = some u := by
    obtain ⟨n, hn⟩ : ∃ n, t - d = n + 1 := ⟨t - d - 1, by omega⟩
    have en : t - 1 - d = n := by omega
    rw [hn] at h
    rw [hn, en]
    have hsucc : rowN σ room 0 (n + 1) (chN σ room t d) = mnU σ room (rowN σ room 0 n) (chN σ room t d) (2 ^ σ 2) + srvN σ n (chN σ room t d) ∧ mnU σ room (rowN σ room 0 n) (chN σ room t d) (2 ^ σ 2) < 1000000 := by
      unfold rowN at h ⊢
      split at h
      · rename_i q
        rw [if_pos q]
        exact ⟨rfl, q.2.2.1⟩
      · omega
    rw [hsucc.1, Nat.add_sub_cancel]
    rcases mnU_at (σ := σ) (room := room) (C := rowN σ room 0 n) (s := chN σ room t d) (2 ^ σ 2) with g | ⟨u, a, b, c', e⟩
    · omega
    · cases y : faN σ room (rowN σ room 0 n) (chN σ room t d) (mnU σ room (rowN σ room 0 n) (chN σ room t d) (2 ^ σ 2)) (2 ^ σ 2) with
      | none => exact absurd e.symm (fa_none y u a b)
      | some v => exact ⟨v, rfl⟩
theorem ch_ok {σ : Nat → Nat} {room t : Nat} (hW : WF σ) (ht : t ≤ σ 7) : ∀ d, d < t → rowN σ room 0 (t - d) (chN σ room t d) < 1000000
  | 0, h => best_fin hW ht
  | d + 1, h => by
    have ih := ch_ok (room := room) hW ht d (by omega)
    obtain ⟨u, hu⟩ := fa_ex hW ht (by omega) ih
    obtain ⟨a, b, c, e⟩ := fa_some hu
    have h8 := hW.1.1
    have h7 := hW.2.2.1
    have hwi := hW.1.2.2.2.2.1
    have hlog : ∀ i, i < σ 7 → σ (104 + i) < σ 2 := fun i hi => (hW.2.2.2.2.2.2 i hi).1
    unfold chN
    rw [hu]
    show rowN σ room 0 (t - (d + 1)) u < 1000000
    rw [show t - (d + 1) = t - 1 - d by omega]
    have hb := row_bd h8 hwi room 0 (t - d) (fun j h => hlog j (by omega)) (chN σ room t d)
    omega
