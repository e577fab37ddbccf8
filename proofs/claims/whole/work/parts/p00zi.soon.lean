/-- a trial's state -/
def TI (s w M : Ob) (σ0 σ : Nat → Nat) (c : Nat) (x : PQ) : Prop := Wv σ ∧ σ 1 ≤ 2 ∧ WFhc c σ ∧ WFk σ ∧ FrS σ0 σ ∧ RCh s σ ∧ RCw w σ ∧ MS M σ x
theorem TI_step {s w M : Ob} {σ0 σ : Nat → Nat} {c : Nat} {x : PQ} {k : Nat} (h : TI s w M σ0 σ c x) (hk : k < σ 2) (hc : c ≤ 99) (d : Ob) : ∃ (s' d' M' : Ob) (σ' : Nat → Nat) (x' : PQ) (v : Nat), f_X8_serve s w (si d 0 (nI 0)) (nI k) = some (s', d', nI v) ∧ f_X12_asks M (nI k) = some (M', nI v) ∧ FrM M M' ∧ TI s' w M' σ0 σ' (c + 1) x' := by
  obtain ⟨hv, h1, hh, hq, hf, hs, hw, hM⟩ := h
  obtain ⟨τ, D, hv', hh', hq', hf', hp, hdk, hdl, hC, hMo⟩ := serve_both hv h1 hk hc hh hq
  obtain ⟨p, ep, hp1, hp2, hp3⟩ := hC s w _ hs hw (DD_0 d)
  obtain ⟨y, ey, hy1, hy2, hy3⟩ := hMo M x hM
  obtain ⟨p1, p2, p3⟩ := p
  obtain ⟨M', r⟩ := y
  dsimp only at hp1 hp2 hp3 hy1 hy2 hy3
  subst hp3 hy3
  exact ⟨p1, p2, M', τ, D.foldl pst x, payD D, ep, ey, hy2, hv', by rw [hf' 1 (by decide) (by omega)]; exact h1, hh', hq', fun j a b => (hf' j a b).trans (hf j a b), hp1, RCw_fr hw hv.1 hf', hy1⟩
theorem sn_loop {w M0 : Ob} {σ0 : Nat → Nat} {k c0 : Nat} (hk : k < σ0 2) (hc : c0 ≤ 40) : ∀ (m i : Nat) (F : Nat) (d s M : Ob) (σ : Nat → Nat) (x : PQ), i + m = 40 → m + 2 < F → TI s w M σ0 σ (c0 + i) x → FrM M0 M → ∃ (d' s' : Ob) (r : Int32) (M' : Ob) (τ : Nat → Nat) (x' : PQ) (n : Nat), (ze2 (zl3 (snC w (nI k)) F d s (nI i)) (fun r => some r) fun (o37 : Ob) (o38 : Ob) => some (o37, o38, (-1 : Int32))) = some (d', s', r) ∧ zl2 (snM (nI k)) F M (nI i) = some (M', nI n) ∧ Wv τ ∧ MS M' τ x' ∧ FrM M0 M' ∧ (((τ 3).testBit k = true ∧ r = nI n) ∨ (¬ (τ 3).testBit k = true ∧ r = -1)) := by
  intro m
  induction m with
  | zero =>
    intro i F d s M σ x hi hF hI hf
    have hi40 : i = 40 := by omega
    subst hi40
    obtain ⟨F', rfl⟩ : ∃ F', F = F' + 1 := ⟨F - 1, by omega⟩
    have hI0 := hI
    obtain ⟨hv, h1, hh, hq, hfS, hs, hw, hM⟩ := hI0
    have h3 := Wv_3 hv
    have h8 := hv.1
    have e2 : σ 2 = σ0 2 := hfS 2 (by decide) (by omega)
    have s2 := hs.2.2.1
    have hM' := hM.1
    have eM : zl2 (snM (nI k)) (F' + 1) M (nI 40) = some (M, nI 40) := by
      refine zl2_o ?_
      unfold snM
      simp (maxSteps := 3000000) (disch := omega) only [↓nx_q, zb0_s, zb1_s, zb2_s, zb3_s, zb4_s, zb5_s, zb6_s, zb7_s, zb8_s, zb9_s, zb10_s, zb11_s, zb12_s, zb13_s, zb14_s, q_lit, nI_add, pk_mul, e_cl, gi_in, gz_n0, gz_n1, e_gz, si_eq, si_ne, sa_eq, sa_ne, if_true, if_false, ↓reduceIte, k_ltT, k_ltF, k_leT, k_leF, k_eqT, k_eqF, k_m1lt, k_nm1, not_true_eq_false, not_false_eq_true]
    by_cases hb : (σ 3).testBit k = true
    · refine ⟨d, s, nI 40, M, σ, x, 40, ?_, eM, hv, hM, hf, Or.inl ⟨hb, rfl⟩⟩
      rw [zl3_o (x := Sum.inr (d, s, nI 40)) (by
        unfold snC
        simp (maxSteps := 3000000) (disch := omega) only [↓nx_q, zb0_s, zb1_s, zb2_s, zb3_s, zb4_s, zb5_s, zb6_s, zb7_s, zb8_s, zb9_s, zb10_s, zb11_s, zb12_s, zb13_s, zb14_s, q_lit, nI_add, pk_mul, e_cl, gi_in, gz_n0, gz_n1, e_gz, si_eq, si_ne, sa_eq, sa_ne, if_true, if_false, ↓reduceIte, k_ltT, k_ltF, k_leT, k_leF, k_eqT, k_eqF, k_m1lt, k_nm1, not_true_eq_false, not_false_eq_true, c_holds s2, if_pos hb])]
      rfl
    · obtain ⟨s', d', M1, σ', x1, v, ec, em, hF1, hI'⟩ := TI_step hI (k := k) (by omega) (by omega) d
      obtain ⟨F'', rfl⟩ : ∃ F'', F' = F'' + 1 := ⟨F' - 1, by omega⟩
      refine ⟨d', s', -1, M, σ, x, 40, ?_, eM, hv, hM, hf, Or.inr ⟨hb, rfl⟩⟩
      rw [zl3_i (b0 := d') (b1 := s') (b2 := nI 41) (by
        unfold snC
        simp (maxSteps := 3000000) (disch := omega) only [↓nx_q, zb0_s, zb1_s, zb2_s, zb3_s, zb4_s, zb5_s, zb6_s, zb7_s, zb8_s, zb9_s, zb10_s, zb11_s, zb12_s, zb13_s, zb14_s, q_lit, nI_add, pk_mul, e_cl, gi_in, gz_n0, gz_n1, e_gz, si_eq, si_ne, sa_eq, sa_ne, if_true, if_false, ↓reduceIte, k_ltT, k_ltF, k_leT, k_leF, k_eqT, k_eqF, k_m1lt, k_nm1, not_true_eq_false, not_false_eq_true, c_holds s2, if_neg hb, ec]), zl3_o (x := Sum.inl (d', s')) (by
        unfold snC
        simp (maxSteps := 3000000) (disch := omega) only [↓nx_q, zb0_s, zb1_s, zb2_s, zb3_s, zb4_s, zb5_s, zb6_s, zb7_s, zb8_s, zb9_s, zb10_s, zb11_s, zb12_s, zb13_s, zb14_s, q_lit, nI_add, pk_mul, e_cl, gi_in, gz_n0, gz_n1, e_gz, si_eq, si_ne, sa_eq, sa_ne, if_true, if_false, ↓reduceIte, k_ltT, k_ltF, k_leT, k_leF, k_eqT, k_eqF, k_m1lt, k_nm1, not_true_eq_false, not_false_eq_true])]
      rfl
  | succ m ih =>
    intro i F d s M σ x hi hF hI hf
    obtain ⟨F', rfl⟩ : ∃ F', F = F' + 1 := ⟨F - 1, by omega⟩
    have hI0 := hI
    obtain ⟨hv, h1, hh, hq, hfS, hs, hw, hM⟩ := hI0
    have h3 := Wv_3 hv
    have h8 := hv.1
    have e2 : σ 2 = σ0 2 := hfS 2 (by decide) (by omega)
    have s2 := hs.2.2.1
    have hM' := hM.1
    by_cases hb : (σ 3).testBit k = true
    · refine ⟨d, s, nI i, M, σ, x, i, ?_, ?_, hv, hM, hf, Or.inl ⟨hb, rfl⟩⟩
      · rw [zl3_o (x := Sum.inr (d, s, nI i)) (by
          unfold snC
          simp (maxSteps := 3000000) (disch := omega) only [↓nx_q, zb0_s, zb1_s, zb2_s, zb3_s, zb4_s, zb5_s, zb6_s, zb7_s, zb8_s, zb9_s, zb10_s, zb11_s, zb12_s, zb13_s, zb14_s, q_lit, nI_add, pk_mul, e_cl, gi_in, gz_n0, gz_n1, e_gz, si_eq, si_ne, sa_eq, sa_ne, if_true, if_false, ↓reduceIte, k_ltT, k_ltF, k_leT, k_leF, k_eqT, k_eqF, k_m1lt, k_nm1, not_true_eq_false, not_false_eq_true, c_holds s2, if_pos hb])]
        rfl
      · refine zl2_o ?_
        unfold snM
        simp (maxSteps := 3000000) (disch := omega) only [↓nx_q, zb0_s, zb1_s, zb2_s, zb3_s, zb4_s, zb5_s, zb6_s, zb7_s, zb8_s, zb9_s, zb10_s, zb11_s, zb12_s, zb13_s, zb14_s, q_lit, nI_add, pk_mul, e_cl, gi_in, gz_n0, gz_n1, e_gz, si_eq, si_ne, sa_eq, sa_ne, if_true, if_false, ↓reduceIte, k_ltT, k_ltF, k_leT, k_leF, k_eqT, k_eqF, k_m1lt, k_nm1, not_true_eq_false, not_false_eq_true, hM', rw_ap, upd_rw, sa_sa, jn_l, jn_r, jn_4, jn_5, jn_6, jn_ul, jn_ur, jn_u4, jn_u5, jn_u6, m_bitOf, if_pos hb]
    · obtain ⟨s', d', M1, σ', x1, v, ec, em, hF1, hI'⟩ := TI_step hI (k := k) (by omega) (by omega) d
      obtain ⟨d2, s2', r, M2, τ, x2, n, r1, r2, r3⟩ := ih (i + 1) F' d' s' M1 σ' x1 (by omega) (by omega) hI' (FrM_trans hf hF1)
      refine ⟨d2, s2', r, M2, τ, x2, n, ?_, ?_, r3⟩
      · rw [zl3_i (b0 := d') (b1 := s') (b2 := nI (i + 1)) (by
          unfold snC
          simp (maxSteps := 3000000) (disch := omega) only [↓nx_q, zb0_s, zb1_s, zb2_s, zb3_s, zb4_s, zb5_s, zb6_s, zb7_s, zb8_s, zb9_s, zb10_s, zb11_s, zb12_s, zb13_s, zb14_s, q_lit, nI_add, pk_mul, e_cl, gi_in, gz_n0, gz_n1, e_gz, si_eq, si_ne, sa_eq, sa_ne, if_true, if_false, ↓reduceIte, k_ltT, k_ltF, k_leT, k_leF, k_eqT, k_eqF, k_m1lt, k_nm1, not_true_eq_false, not_false_eq_true, c_holds s2, if_neg hb, ec])]
        exact r1
      · rw [zl2_i (b0 := M1) (b1 := nI (i + 1)) (by
          unfold snM
          simp (maxSteps := 3000000) (disch := omega) only [↓nx_q, zb0_s, zb1_s, zb2_s, zb3_s, zb4_s, zb5_s, zb6_s, zb7_s, zb8_s, zb9_s, zb10_s, zb11_s, zb12_s, zb13_s, zb14_s, q_lit, nI_add, pk_mul, e_cl, gi_in, gz_n0, gz_n1, e_gz, si_eq, si_ne, sa_eq, sa_ne, if_true, if_false, ↓reduceIte, k_ltT, k_ltF, k_leT, k_leF, k_eqT, k_eqF, k_m1lt, k_nm1, not_true_eq_false, not_false_eq_true, hM', rw_ap, upd_rw, sa_sa, jn_l, jn_r, jn_4, jn_5, jn_6, jn_ul, jn_ur, jn_u4, jn_u5, jn_u6, m_bitOf, if_neg hb, em])]
        exact r2
theorem TI_of {V : Nat → Ob} {PK PI : PV} {M M1 : Ob} {σ : Nat → Nat} {g : Nat} {fc fm : Bool} (hR : RelS V PK PI M σ g fc fm) {s : Ob} (hs : RCh s σ) (hM1 : MS M1 σ (σ, g, fm)) : TI s (V 4) M1 σ σ (σ 7) (σ, g, fm) := by
  obtain ⟨⟨hM0, hW, hRC⟩, -⟩ := hR
  exact ⟨hW.1, hW.2.1, hW.2.2.2.1, hW.2.2.2.2.1, FrS_refl σ, hs, hRC.2.1, hM1⟩
theorem R_soon : St_soon Rel := by
  intro V PK PI M v1 hR
  obtain ⟨σ, g, fc, fm, hR⟩ := hR
  have hR0 := hR
  obtain ⟨⟨hM0, hW, hRC⟩, hGC, hGM, hHi, hPl, hO⟩ := hR0
  have h8 := hW.1.1
  have w0 : V 4 0 0 = nI (σ 2) := hRC.2.1.1
  have hs : MR (M 0) σ := fun j _ => by rw [hM0]; rfl
  rcases q_rng v1 (n := σ 2) (by omega) with ⟨k, hk, rfl⟩ | ho
  · have e1 := c_hasIn w0 (by omega) hk
    have e2 := m_isItemIn hs (by omega) hk
    obtain ⟨o6, e6, h6⟩ := c_cpH (o := V 13) hRC.2.2.1
    have e6' : f_X8_copyFrom (V 13) (V 5) = some o6 := e6
    obtain ⟨M1, eb, hM1, -⟩ := trial_both hR (V 12) (V 13)
    obtain ⟨d', s', r, M2, τ, x', n, r1, r2, hvτ, hM2, hF2, hans⟩ := sn_loop (M0 := M1) hk hW.2.2.1 40 0 FU (V 12) o6 M1 σ (σ, g, fm) rfl (by decide) (TI_of hR h6 hM1) (FrM_refl M1)
    obtain ⟨M1', eb', -, hend⟩ := trial_both hR d' s'
    have : M1' = M1 := by
      rw [eb] at eb'
      exact (Option.some.inj eb').symm
    subst this
    obtain ⟨M3, e3, hRel⟩ := hend M2 _ hM2.1 hF2
    have h3τ := Wv_3 hvτ
    have hM2' := hM2.1
    refine ⟨_, PK, PI, M3, r, ?_, ?_, hRel⟩
    · unfold g_soon
      refine zb3_of ?_
      unfold f_X11_soon
      rw [e1, zb1_s, if_neg (by decide), zb1_of e6']
      exact r1
    · unfold h_soon
      refine zb2_of ?_
      unfold f_X12_soon
      rw [e2, zb1_s, if_neg (by decide), zb1_of eb]
      refine (zb2_of r2).trans ?_
      rcases hans with ⟨hb, rfl⟩ | ⟨hb, rfl⟩
      · simp (maxSteps := 3000000) (disch := omega) only [↓nx_q, zb0_s, zb1_s, zb2_s, zb3_s, zb4_s, zb5_s, zb6_s, zb7_s, zb8_s, zb9_s, zb10_s, zb11_s, zb12_s, zb13_s, zb14_s, q_lit, nI_add, pk_mul, e_cl, gi_in, gz_n0, gz_n1, e_gz, si_eq, si_ne, sa_eq, sa_ne, if_true, if_false, ↓reduceIte, k_ltT, k_ltF, k_leT, k_leF, k_eqT, k_eqF, k_m1lt, k_nm1, not_true_eq_false, not_false_eq_true, hM2', rw_ap, upd_rw, sa_sa, jn_l, jn_r, jn_4, jn_5, jn_6, jn_ul, jn_ur, jn_u4, jn_u5, jn_u6, m_bitOf, if_pos hb, e3]
      · simp (maxSteps := 3000000) (disch := omega) only [↓nx_q, zb0_s, zb1_s, zb2_s, zb3_s, zb4_s, zb5_s, zb6_s, zb7_s, zb8_s, zb9_s, zb10_s, zb11_s, zb12_s, zb13_s, zb14_s, q_lit, nI_add, pk_mul, e_cl, gi_in, gz_n0, gz_n1, e_gz, si_eq, si_ne, sa_eq, sa_ne, if_true, if_false, ↓reduceIte, k_ltT, k_ltF, k_leT, k_leF, k_eqT, k_eqF, k_m1lt, k_nm1, not_true_eq_false, not_false_eq_true, hM2', rw_ap, upd_rw, sa_sa, jn_l, jn_r, jn_4, jn_5, jn_6, jn_ul, jn_ur, jn_u4, jn_u5, jn_u6, m_bitOf, if_neg hb, e3]
  · have e1 := c_hasOut w0 ho
    have e2 := m_isItemOut hs (by omega) ho
    refine ⟨V, PK, PI, M, -1, ?_, ?_, σ, g, fc, fm, hR⟩
    · unfold g_soon f_X11_soon
      rw [e1]
      simp (maxSteps := 3000000) (disch := omega) only [↓nx_q, zb0_s, zb1_s, zb2_s, zb3_s, zb4_s, zb5_s, zb6_s, zb7_s, zb8_s, zb9_s, zb10_s, zb11_s, zb12_s, zb13_s, zb14_s, q_lit, nI_add, pk_mul, e_cl, gi_in, gz_n0, gz_n1, e_gz, si_eq, si_ne, sa_eq, sa_ne, if_true, if_false, ↓reduceIte, k_ltT, k_ltF, k_leT, k_leF, k_eqT, k_eqF, k_m1lt, k_nm1, not_true_eq_false, not_false_eq_true, vu_self]
    · unfold h_soon f_X12_soon
      rw [e2]
      simp (maxSteps := 3000000) (disch := omega) only [↓nx_q, zb0_s, zb1_s, zb2_s, zb3_s, zb4_s, zb5_s, zb6_s, zb7_s, zb8_s, zb9_s, zb10_s, zb11_s, zb12_s, zb13_s, zb14_s, q_lit, nI_add, pk_mul, e_cl, gi_in, gz_n0, gz_n1, e_gz, si_eq, si_ne, sa_eq, sa_ne, if_true, if_false, ↓reduceIte, k_ltT, k_ltF, k_leT, k_leF, k_eqT, k_eqF, k_m1lt, k_nm1, not_true_eq_false, not_false_eq_true]
