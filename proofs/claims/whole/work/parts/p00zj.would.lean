theorem cb_loop {w l M0 : Ob} {σ0 : Nat → Nat} {n : Nat} (hn : n ≤ 40) (l0 : l 0 0 = nI n) (hl : ∀ i, i < n → l 1 i = nI (σ0 (104 + i)) ∧ σ0 (104 + i) < σ0 2) (h8 : σ0 2 ≤ 8) : ∀ (m i : Nat) (F : Nat) (d s M : Ob) (σ : Nat → Nat) (x : PQ) (sum : Nat), i + m = n → m < F → TI s w M σ0 σ i x → FrM M0 M → ∃ (d' s' M' : Ob) (τ : Nat → Nat) (x' : PQ) (sum' : Nat), zl4 (cbC w l) F d s (nI sum) (nI i) = some (d', s', nI sum') ∧ zl3 (cbM (nI n)) F M (nI sum) (nI i) = some (M', nI sum') ∧ MS M' τ x' ∧ FrM M0 M' := by
  intro m
  induction m with
  | zero =>
    intro i F d s M σ x sum hi hF hI hf
    obtain ⟨F', rfl⟩ : ∃ F', F = F' + 1 := ⟨F - 1, by omega⟩
    refine ⟨d, s, M, σ, x, sum, zl4_o ?_, zl3_o ?_, hI.2.2.2.2.2.2.2, hf⟩
    · unfold cbC
      simp (maxSteps := 3000000) (disch := omega) only [↓nx_q, zb0_s, zb1_s, zb2_s, zb3_s, zb4_s, zb5_s, zb6_s, zb7_s, zb8_s, zb9_s, zb10_s, zb11_s, zb12_s, zb13_s, zb14_s, q_lit, nI_add, pk_mul, e_cl, gi_in, gz_n0, gz_n1, e_gz, si_eq, si_ne, sa_eq, sa_ne, if_true, if_false, ↓reduceIte, k_ltT, k_ltF, k_leT, k_leF, k_eqT, k_eqF, k_m1lt, k_nm1, not_true_eq_false, not_false_eq_true, l0]
    · unfold cbM
      simp (maxSteps := 3000000) (disch := omega) only [↓nx_q, zb0_s, zb1_s, zb2_s, zb3_s, zb4_s, zb5_s, zb6_s, zb7_s, zb8_s, zb9_s, zb10_s, zb11_s, zb12_s, zb13_s, zb14_s, q_lit, nI_add, pk_mul, e_cl, gi_in, gz_n0, gz_n1, e_gz, si_eq, si_ne, sa_eq, sa_ne, if_true, if_false, ↓reduceIte, k_ltT, k_ltF, k_leT, k_leF, k_eqT, k_eqF, k_m1lt, k_nm1, not_true_eq_false, not_false_eq_true]
  | succ m ih =>
    intro i F d s M σ x sum hi hF hI hf
    obtain ⟨F', rfl⟩ : ∃ F', F = F' + 1 := ⟨F - 1, by omega⟩
    have hI0 := hI
    obtain ⟨hv, h1, hh, hq, hfS, hs, hw, hM⟩ := hI0
    have hli := hl i (by omega)
    have e2 : σ 2 = σ0 2 := hfS 2 (by decide) (by omega)
    have e104 : σ (104 + i) = σ0 (104 + i) := hfS _ (by omega) (by omega)
    have hM' := hM.1
    obtain ⟨s', d', M1, σ', x1, v, ec, em, hF1, hI'⟩ := TI_step hI (k := σ0 (104 + i)) (by omega) (by omega) d
    obtain ⟨d2, s2, M2, τ, x2, sum', r1, r2, r3⟩ := ih (i + 1) F' d' s' M1 σ' x1 (sum + v) (by omega) (by omega) hI' (FrM_trans hf hF1)
    refine ⟨d2, s2, M2, τ, x2, sum', ?_, ?_, r3⟩
    · rw [zl4_i (b0 := d') (b1 := s') (b2 := nI (sum + v)) (b3 := nI (i + 1)) (by
        unfold cbC
        simp (maxSteps := 3000000) (disch := omega) only [↓nx_q, zb0_s, zb1_s, zb2_s, zb3_s, zb4_s, zb5_s, zb6_s, zb7_s, zb8_s, zb9_s, zb10_s, zb11_s, zb12_s, zb13_s, zb14_s, q_lit, nI_add, pk_mul, e_cl, gi_in, gz_n0, gz_n1, e_gz, si_eq, si_ne, sa_eq, sa_ne, if_true, if_false, ↓reduceIte, k_ltT, k_ltF, k_leT, k_leF, k_eqT, k_eqF, k_m1lt, k_nm1, not_true_eq_false, not_false_eq_true, l0, hli.1, ec])]
      exact r1
    · rw [zl3_i (b0 := M1) (b1 := nI (sum + v)) (b2 := nI (i + 1)) (by
        unfold cbM
        simp (maxSteps := 3000000) (disch := omega) only [↓nx_q, zb0_s, zb1_s, zb2_s, zb3_s, zb4_s, zb5_s, zb6_s, zb7_s, zb8_s, zb9_s, zb10_s, zb11_s, zb12_s, zb13_s, zb14_s, q_lit, nI_add, pk_mul, e_cl, gi_in, gz_n0, gz_n1, e_gz, si_eq, si_ne, sa_eq, sa_ne, if_true, if_false, ↓reduceIte, k_ltT, k_ltF, k_leT, k_leF, k_eqT, k_eqF, k_m1lt, k_nm1, not_true_eq_false, not_false_eq_true, hM', rw_ap, upd_rw, sa_sa, jn_l, jn_r, jn_4, jn_5, jn_6, jn_ul, jn_ur, jn_u4, jn_u5, jn_u6, e104, em])]
      exact r2
theorem cost_both {V : Nat → Ob} {PK PI : PV} {M : Ob} {σ : Nat → Nat} {g : Nat} {fc fm : Bool} {room rule : Nat} (hR : RelS V PK PI M σ g fc fm) (hr : 1 ≤ room ∧ room ≤ 20) (hq : rule ≤ 2) : ∃ (o12 o13 M3 : Ob) (v : Nat), f_X11_costBy (V 4) (V 6) (V 12) (V 13) (nI room) (nI rule) = some (o12, o13, nI v) ∧ f_X12_replays M (nI room) (nI rule) = some (M3, nI v) ∧ Rel (vu (vu V 12 o12) 13 o13) PK PI M3 := by
  have hR0 := hR
  obtain ⟨⟨hM0, hW, hRC⟩, hGC, hGM, hHi, hPl, hO⟩ := hR0
  have h8 := hW.1.1
  have h7 := hW.2.2.1
  have h3 := Wv_3 hW.1
  obtain ⟨o5, e5, b0, b1, b2, b3, b4⟩ := c_begin (V 13) (nI room) (nI rule)
  obtain ⟨M1, eb, hM1, -⟩ := trial_both hR (V 12) (V 13)
  have hM1' : M1 0 = rw σ := by
    have := hM1.1
    rw [jn_self] at this
    exact this
  -- the row from which it is replayed
  have hem := m_empties hM1' (by omega)
  have t0 : updN (updN (emN σ) 0 room) 1 rule 0 = room := by rw [updN_ne (by decide), updN_eq]
  have t1 : updN (updN (emN σ) 0 room) 1 rule 1 = rule := updN_eq _ _ _
  have te : ∀ j, 2 ≤ j → updN (updN (emN σ) 0 room) 1 rule j = emN σ j := fun j hj => by rw [updN_ne (by omega), updN_ne (by omega)]
  have hWτ : WF (updN (updN (emN σ) 0 room) 1 rule) := WF_em hW (by rw [t0]; exact hr) (by rw [t1]; exact hq) te
  have hM2 : MS (sa M1 0 (rw (updN (updN (emN σ) 0 room) 1 rule))) (updN (updN (emN σ) 0 room) 1 rule) (updN (updN (emN σ) 0 room) 1 rule, g, fm) := by
    refine ⟨by rw [jn_self]; exact sa_eq _ _ _, GM_fr hM1.2.1 (sa_ne (by decide)) (sa_ne (by decide)) (sa_ne (by decide)), fun b hb => BW_congr (hM1.2.2 b hb) (fun j a c => ?_)⟩
    dsimp only
    rw [te j (by omega), em_fr (by omega) (by omega) (by omega)]
  generalize hτ : updN (updN (emN σ) 0 room) 1 rule = τ at *
  have e2 : τ 2 = σ 2 := by rw [te 2 (by decide), em_fr (by decide) (by decide) (by omega)]
  have e3 : τ 3 = 0 := by rw [te 3 (by decide), em_3]
  have e7 : τ 7 = 0 := by rw [te 7 (by decide), em_7]
  have ef : ∀ j, j = 2 ∨ (8 ≤ j ∧ j < 32) ∨ 56 ≤ j → τ j = σ j := fun j hj => by rw [te j (by omega), em_fr (by omega) (by omega) (by omega)]
  have hs : RCh o5 τ := by
    refine ⟨by rw [t0]; exact b0, by rw [t1]; exact b1, by rw [e3]; exact b2, by rw [lies_e e3]; exact b3, fun k hk => ?_⟩
    have z := em_z σ hk
    rw [te (32 + k) (by omega), te (48 + k) (by omega), te (40 + k) (by omega), z.1, z.2.1, z.2.2]
    exact ⟨(b4 k hk).1, (b4 k hk).2.2, fun _ => (b4 k hk).2.1⟩
  have hh0 : WFhc 0 τ := by
    have := hWτ.2.2.2.1
    rw [e7] at this
    exact this
  have hTI : TI o5 (V 4) (sa M1 0 (rw τ)) τ τ 0 (τ, g, fm) := ⟨hWτ.1, hWτ.2.1, hh0, hWτ.2.2.2.2.1, FrS_refl τ, hs, RCw_congr hRC.2.1 h8 (fun j _ hj => ef j (by omega)), hM2⟩
  have l0 : V 6 0 0 = nI (σ 7) := hRC.2.2.2.1.1
  obtain ⟨d', s', M', ρ, x', v, r1, r2, hMρ, hF⟩ := cb_loop (w := V 4) (l := V 6) (M0 := sa M1 0 (rw τ)) (n := σ 7) h7 l0 (fun i hi => by
    rw [ef (104 + i) (by omega), e2]
    exact ⟨(hRC.2.2.2.1.2 i hi).1, (hW.2.2.2.2.2.2 i hi).1⟩) (by omega) (σ 7) 0 FU (V 12) o5 (sa M1 0 (rw τ)) τ (τ, g, fm) 0 (by omega) (show σ 7 < 20000 by omega) hTI (FrM_refl _)
  obtain ⟨M1', eb', -, hend⟩ := trial_both hR d' s'
  have : M1' = M1 := by
    rw [eb] at eb'
    exact (Option.some.inj eb').symm
  subst this
  obtain ⟨M3, em3, hRel⟩ := hend M' _ hMρ.1 (FrM_trans (Fr_set _ _) hF)
  refine ⟨d', s', M3, v, ?_, ?_, hRel⟩
  · unfold f_X11_costBy
    rw [zb1_of e5]
    exact zb3_of r1
  · unfold f_X12_replays
    rw [zb1_of eb, show (7 : Int32) = nI 7 from rfl, gi_in (by decide) (by decide), nx_eq, e_cl (by decide), hM1', rw_ap, hem, zb2_s, show (0 : Int32) = nI 0 from rfl, gi_in (by decide) (by decide), nx_eq, e_cl (by decide), sa_eq, upd_rw, show (1 : Int32) = nI 1 from rfl, gi_in (by decide) (by decide), nx_eq, e_cl (by decide), sa_eq, upd_rw, sa_sa, sa_sa, hτ]
    refine (zb2_of r2).trans ?_
    rw [zb1_of em3]
theorem R_would : St_would Rel := by
  intro V PK PI M v1 hR
  obtain ⟨σ, g, fc, fm, hR⟩ := hR
  have hR0 := hR
  obtain ⟨⟨hM0, hW, hRC⟩, hGC, hGM, hHi, hPl, hO⟩ := hR0
  have s0 : V 5 0 0 = nI (σ 0) := hRC.2.2.1.1
  rcases q_rng v1 (n := 3) (by decide) with ⟨k, hk, rfl⟩ | ho
  · have e1 := m_isInN (a := 0) (b := 2) (k := k) (by omega) (by decide) (by decide)
    rw [if_pos (by omega)] at e1
    obtain ⟨o12, o13, M3, v, ec, em, hRel⟩ := cost_both (room := σ 0) (rule := k) hR hW.1.2.2.1 (by omega)
    refine ⟨_, PK, PI, M3, nI v, ?_, ?_, hRel⟩
    · unfold g_would f_X11_would
      simp (maxSteps := 3000000) (disch := omega) only [↓nx_q, zb0_s, zb1_s, zb2_s, zb3_s, zb4_s, zb5_s, zb6_s, zb7_s, zb8_s, zb9_s, zb10_s, zb11_s, zb12_s, zb13_s, zb14_s, q_lit, nI_add, pk_mul, e_cl, gi_in, gz_n0, gz_n1, e_gz, si_eq, si_ne, sa_eq, sa_ne, if_true, if_false, ↓reduceIte, k_ltT, k_ltF, k_leT, k_leF, k_eqT, k_eqF, k_m1lt, k_nm1, not_true_eq_false, not_false_eq_true, s0, ec]
    · unfold h_would f_X12_would
      simp (maxSteps := 3000000) (disch := omega) only [↓nx_q, zb0_s, zb1_s, zb2_s, zb3_s, zb4_s, zb5_s, zb6_s, zb7_s, zb8_s, zb9_s, zb10_s, zb11_s, zb12_s, zb13_s, zb14_s, q_lit, nI_add, pk_mul, e_cl, gi_in, gz_n0, gz_n1, e_gz, si_eq, si_ne, sa_eq, sa_ne, if_true, if_false, ↓reduceIte, k_ltT, k_ltF, k_leT, k_leF, k_eqT, k_eqF, k_m1lt, k_nm1, not_true_eq_false, not_false_eq_true, e1, hM0, rw_ap, upd_rw, sa_sa, jn_l, jn_r, jn_4, jn_5, jn_6, jn_ul, jn_ur, jn_u4, jn_u5, jn_u6, em]
  · have e1 := m_isInO (a := 0) (b := 2) (by decide) ho (by decide)
    refine ⟨V, PK, PI, M, -1, ?_, ?_, σ, g, fc, fm, hR⟩
    · unfold g_would f_X11_would
      rcases ho with h | h
      · simp (maxSteps := 3000000) (disch := omega) only [↓nx_q, zb0_s, zb1_s, zb2_s, zb3_s, zb4_s, zb5_s, zb6_s, zb7_s, zb8_s, zb9_s, zb10_s, zb11_s, zb12_s, zb13_s, zb14_s, q_lit, nI_add, pk_mul, e_cl, gi_in, gz_n0, gz_n1, e_gz, si_eq, si_ne, sa_eq, sa_ne, if_true, if_false, ↓reduceIte, k_ltT, k_ltF, k_leT, k_leF, k_eqT, k_eqF, k_m1lt, k_nm1, not_true_eq_false, not_false_eq_true, o_neg h, vu_self]
      · have := o_big2 (b := 2) (by decide) h
        simp (maxSteps := 3000000) (disch := omega) only [↓nx_q, zb0_s, zb1_s, zb2_s, zb3_s, zb4_s, zb5_s, zb6_s, zb7_s, zb8_s, zb9_s, zb10_s, zb11_s, zb12_s, zb13_s, zb14_s, q_lit, nI_add, pk_mul, e_cl, gi_in, gz_n0, gz_n1, e_gz, si_eq, si_ne, sa_eq, sa_ne, if_true, if_false, ↓reduceIte, k_ltT, k_ltF, k_leT, k_leF, k_eqT, k_eqF, k_m1lt, k_nm1, not_true_eq_false, not_false_eq_true, this.2.2.1, this.2.2.2, vu_self]
    · unfold h_would f_X12_would
      simp (maxSteps := 3000000) (disch := omega) only [↓nx_q, zb0_s, zb1_s, zb2_s, zb3_s, zb4_s, zb5_s, zb6_s, zb7_s, zb8_s, zb9_s, zb10_s, zb11_s, zb12_s, zb13_s, zb14_s, q_lit, nI_add, pk_mul, e_cl, gi_in, gz_n0, gz_n1, e_gz, si_eq, si_ne, sa_eq, sa_ne, if_true, if_false, ↓reduceIte, k_ltT, k_ltF, k_leT, k_leF, k_eqT, k_eqF, k_m1lt, k_nm1, not_true_eq_false, not_false_eq_true, e1]
