/-! ===== what would be ===== -/
theorem m_begins {M : Ob} {g : Nat} {fl : Bool} (hg : GM M g fl) : Ok (f_X12_begins M) (fun M1 => (∀ i, i < 835 → M1 34 i = M 0 i) ∧ M1 36 0 = M 20 0 ∧ M1 37 0 = M 21 0 ∧ (∀ i, i < 60 → M1 35 i = M 19 i) ∧ ∀ j, j ≠ 34 → j ≠ 35 → j ≠ 36 → j ≠ 37 → M1 j = M j) := by
  have hz : M 21 0 = nI 0 ∨ M 21 0 = nI 1 := by
    rw [hg.2.2.1]
    cases fl
    · exact Or.inr rfl
    · exact Or.inl rfl
  have hgz : ∀ {β : Type} (x : Option β), gz (M 21 0) x = x := fun x => gz_or hz
  have hcp := m_copies (f0 := M 0) (f2 := M 34) (show 0 + 835 ≤ 835 by decide) (show 0 + 835 ≤ 835 by decide) (by decide) (by decide)
  unfold f_X12_begins
  simp (maxSteps := 3000000) (disch := omega) only [↓nx_q, zb0_s, zb1_s, zb2_s, zb3_s, zb4_s, zb5_s, zb6_s, zb7_s, zb8_s, zb9_s, zb10_s, zb11_s, zb12_s, zb13_s, zb14_s, q_lit, nI_add, pk_mul, e_cl, gi_in, gz_n0, gz_n1, e_gz, si_eq, si_ne, sa_eq, sa_ne, if_true, if_false, ↓reduceIte, k_ltT, k_ltF, k_leT, k_leF, k_eqT, k_eqF, k_m1lt, k_nm1, not_true_eq_false, not_false_eq_true, hcp, hgz]
  rw [ok_zb1]
  refine ⟨sa (si (si (sa M 34 (cpF (M 0) (M 34) 0 0)) 36 (M 20 0)) 37 (M 21 0)) 35 (fun j => if j < 60 then M 19 j else M 35 j), zl2_fo (fun i => sa (si (si (sa M 34 (cpF (M 0) (M 34) 0 0)) 36 (M 20 0)) 37 (M 21 0)) 35 (fun j => if j < i then M 19 j else M 35 j)) (fun i => nI i) 60 _ (fu_lt (by decide)) ?_ rfl (fun i hi => ?_) ?_, ?_⟩
  · have : (fun j => if j < 0 then M 19 j else M 35 j) = (si (si (sa M 34 (cpF (M 0) (M 34) 0 0)) 36 (M 20 0)) 37 (M 21 0)) 35 := by
      simp (disch := omega) only [si_eq, si_ne, sa_eq, sa_ne, upd_eq, upd_ne, updN_eq, updN_ne]
      funext j
      rw [if_neg (by omega)]
    rw [this, sa_self]
  · simp (maxSteps := 3000000) (disch := omega) only [↓nx_q, zb0_s, zb1_s, zb2_s, zb3_s, zb4_s, zb5_s, zb6_s, zb7_s, zb8_s, zb9_s, zb10_s, zb11_s, zb12_s, zb13_s, zb14_s, q_lit, nI_add, pk_mul, e_cl, gi_in, gz_n0, gz_n1, e_gz, si_eq, si_ne, sa_eq, sa_ne, if_true, if_false, ↓reduceIte, k_ltT, k_ltF, k_leT, k_leF, k_eqT, k_eqF, k_m1lt, k_nm1, not_true_eq_false, not_false_eq_true, sa_sa]
    refine congrArg some (congrArg Sum.inl (Prod.ext (congrArg (sa _ 35) ?_) rfl))
    funext j
    by_cases e : j = i
    · subst e
      rw [upd_eq, if_pos (by omega)]
    · rw [upd_ne e]
      by_cases q : j < i
      · rw [if_pos q, if_pos (by omega)]
      · rw [if_neg q, if_neg (by omega)]
  · simp (maxSteps := 3000000) (disch := omega) only [↓nx_q, zb0_s, zb1_s, zb2_s, zb3_s, zb4_s, zb5_s, zb6_s, zb7_s, zb8_s, zb9_s, zb10_s, zb11_s, zb12_s, zb13_s, zb14_s, q_lit, nI_add, pk_mul, e_cl, gi_in, gz_n0, gz_n1, e_gz, si_eq, si_ne, sa_eq, sa_ne, if_true, if_false, ↓reduceIte, k_ltT, k_ltF, k_leT, k_leF, k_eqT, k_eqF, k_m1lt, k_nm1, not_true_eq_false, not_false_eq_true]
  · refine ok_some.mpr ⟨fun i hi => ?_, ?_, ?_, fun i hi => ?_, fun j a b c d => ?_⟩
    · simp (disch := omega) only [si_eq, si_ne, sa_eq, sa_ne, upd_eq, upd_ne, updN_eq, updN_ne]
      have := cpF_in (f0 := M 0) (f2 := M 34) (a := 0) (b := 0) hi
      rw [Nat.zero_add] at this
      exact this
    · simp (disch := omega) only [si_eq, si_ne, sa_eq, sa_ne, upd_eq, upd_ne, updN_eq, updN_ne]
    · simp (disch := omega) only [si_eq, si_ne, sa_eq, sa_ne, upd_eq, upd_ne, updN_eq, updN_ne]
    · simp (disch := omega) only [si_eq, si_ne, sa_eq, sa_ne, upd_eq, upd_ne, updN_eq, updN_ne]
      rw [if_pos hi]
    · simp (disch := omega) only [si_eq, si_ne, sa_eq, sa_ne, upd_eq, upd_ne, updN_eq, updN_ne]
theorem m_ends {M : Ob} (hz : M 37 0 = nI 0 ∨ M 37 0 = nI 1) : Ok (f_X12_ends M) (fun M1 => (∀ i, M1 0 i = if i < 835 then M 34 i else M 0 i) ∧ M1 20 0 = M 36 0 ∧ M1 21 0 = M 37 0 ∧ (∀ i, i < 60 → M1 19 i = M 35 i) ∧ ∀ j, j ≠ 0 → j ≠ 19 → j ≠ 20 → j ≠ 21 → M1 j = M j) := by
  have hgz : ∀ {β : Type} (x : Option β), gz (M 37 0) x = x := fun x => gz_or hz
  have hcp := m_copies (f0 := M 34) (f2 := M 0) (show 0 + 835 ≤ 835 by decide) (show 0 + 835 ≤ 835 by decide) (by decide) (by decide)
  unfold f_X12_ends
  simp (maxSteps := 3000000) (disch := omega) only [↓nx_q, zb0_s, zb1_s, zb2_s, zb3_s, zb4_s, zb5_s, zb6_s, zb7_s, zb8_s, zb9_s, zb10_s, zb11_s, zb12_s, zb13_s, zb14_s, q_lit, nI_add, pk_mul, e_cl, gi_in, gz_n0, gz_n1, e_gz, si_eq, si_ne, sa_eq, sa_ne, if_true, if_false, ↓reduceIte, k_ltT, k_ltF, k_leT, k_leF, k_eqT, k_eqF, k_m1lt, k_nm1, not_true_eq_false, not_false_eq_true, hcp, hgz]
  rw [ok_zb1]
  refine ⟨sa (si (si (sa M 0 (cpF (M 34) (M 0) 0 0)) 20 (M 36 0)) 21 (M 37 0)) 19 (fun j => if j < 60 then M 35 j else M 19 j), zl2_fo (fun i => sa (si (si (sa M 0 (cpF (M 34) (M 0) 0 0)) 20 (M 36 0)) 21 (M 37 0)) 19 (fun j => if j < i then M 35 j else M 19 j)) (fun i => nI i) 60 _ (fu_lt (by decide)) ?_ rfl (fun i hi => ?_) ?_, ?_⟩
  · have : (fun j => if j < 0 then M 35 j else M 19 j) = (si (si (sa M 0 (cpF (M 34) (M 0) 0 0)) 20 (M 36 0)) 21 (M 37 0)) 19 := by
      simp (disch := omega) only [si_eq, si_ne, sa_eq, sa_ne, upd_eq, upd_ne, updN_eq, updN_ne]
      funext j
      rw [if_neg (by omega)]
    rw [this, sa_self]
  · simp (maxSteps := 3000000) (disch := omega) only [↓nx_q, zb0_s, zb1_s, zb2_s, zb3_s, zb4_s, zb5_s, zb6_s, zb7_s, zb8_s, zb9_s, zb10_s, zb11_s, zb12_s, zb13_s, zb14_s, q_lit, nI_add, pk_mul, e_cl, gi_in, gz_n0, gz_n1, e_gz, si_eq, si_ne, sa_eq, sa_ne, if_true, if_false, ↓reduceIte, k_ltT, k_ltF, k_leT, k_leF, k_eqT, k_eqF, k_m1lt, k_nm1, not_true_eq_false, not_false_eq_true, sa_sa]
    refine congrArg some (congrArg Sum.inl (Prod.ext (congrArg (sa _ 19) ?_) rfl))
    funext j
    by_cases e : j = i
    · subst e
      rw [upd_eq, if_pos (by omega)]
    · rw [upd_ne e]
      by_cases q : j < i
      · rw [if_pos q, if_pos (by omega)]
      · rw [if_neg q, if_neg (by omega)]
  · simp (maxSteps := 3000000) (disch := omega) only [↓nx_q, zb0_s, zb1_s, zb2_s, zb3_s, zb4_s, zb5_s, zb6_s, zb7_s, zb8_s, zb9_s, zb10_s, zb11_s, zb12_s, zb13_s, zb14_s, q_lit, nI_add, pk_mul, e_cl, gi_in, gz_n0, gz_n1, e_gz, si_eq, si_ne, sa_eq, sa_ne, if_true, if_false, ↓reduceIte, k_ltT, k_ltF, k_leT, k_leF, k_eqT, k_eqF, k_m1lt, k_nm1, not_true_eq_false, not_false_eq_true]
  · refine ok_some.mpr ⟨fun i => ?_, ?_, ?_, fun i hi => ?_, fun j a b c d => ?_⟩
    · simp (disch := omega) only [si_eq, si_ne, sa_eq, sa_ne, upd_eq, upd_ne, updN_eq, updN_ne]
      by_cases q : i < 835
      · have := cpF_in (f0 := M 34) (f2 := M 0) (a := 0) (b := 0) q
        rw [Nat.zero_add] at this
        rw [if_pos q]
        exact this
      · rw [if_neg q, cpF_out (by omega)]
    · simp (disch := omega) only [si_eq, si_ne, sa_eq, sa_ne, upd_eq, upd_ne, updN_eq, updN_ne]
    · simp (disch := omega) only [si_eq, si_ne, sa_eq, sa_ne, upd_eq, upd_ne, updN_eq, updN_ne]
    · simp (disch := omega) only [si_eq, si_ne, sa_eq, sa_ne, upd_eq, upd_ne, updN_eq, updN_ne]
      rw [if_pos hi]
    · simp (disch := omega) only [si_eq, si_ne, sa_eq, sa_ne, upd_eq, upd_ne, updN_eq, updN_ne]
/-- a trial: begins, something, ends -/
theorem trial_both {V : Nat → Ob} {PK PI : PV} {M : Ob} {σ : Nat → Nat} {g : Nat} {fc fm : Bool} (hR : RelS V PK PI M σ g fc fm) (o12 o13 : Ob) : ∃ M1, f_X12_begins M = some M1 ∧ MS M1 σ (σ, g, fm) ∧ ∀ (M2 : Ob) (τ : Nat → Nat), M2 0 = rw τ → FrM M1 M2 → ∃ M3, f_X12_ends M2 = some M3 ∧ Rel (vu (vu V 12 o12) 13 o13) PK PI M3 := by
  obtain ⟨⟨hM0, hW, hRC⟩, hGC, hGM, hHi, hPl, hO⟩ := hR
  obtain ⟨M1, e1, b1, b2, b3, b4, b5⟩ := m_begins hGM
  have hM1 : M1 0 = rw σ := by rw [b5 0 (by decide) (by decide) (by decide) (by decide)]; exact hM0
  have hG1 : GM M1 g fm := GM_fr hGM (b5 19 (by decide) (by decide) (by decide) (by decide)) (b5 20 (by decide) (by decide) (by decide) (by decide)) (b5 21 (by decide) (by decide) (by decide) (by decide))
  refine ⟨M1, e1, MS_of hM1 hRC hG1, fun M2 τ hM2 hF => ?_⟩
  have f34 := hF 34 (by decide) (by decide) (by decide) (by decide)
  have f35 := hF 35 (by decide) (by decide) (by decide) (by decide)
  have f36 := hF 36 (by decide) (by decide) (by decide) (by decide)
  have f37 := hF 37 (by decide) (by decide) (by decide) (by decide)
  have hz : M2 37 0 = nI 0 ∨ M2 37 0 = nI 1 := by
    rw [f37, b3, hGM.2.2.1]
    cases fm
    · exact Or.inr rfl
    · exact Or.inl rfl
  obtain ⟨M3, e3, c1, c2, c3, c4, c5⟩ := m_ends hz
  refine ⟨M3, e3, fun i => if i < 835 then σ i else τ i, g, fc, fm, ⟨?_, ?_, ?_⟩, ?_, ?_, ?_, ?_, ?_⟩
  · funext i
    rw [c1 i, f34, hM2]
    show _ = nI (if i < 835 then σ i else τ i)
    by_cases q : i < 835
    · rw [if_pos q, if_pos q, b1 i q, hM0]
      rfl
    · rw [if_neg q, if_neg q]
      rfl
  · exact WF_al hW (fun j _ _ _ hj => if_pos (by omega))
  · refine RC_un (V := vu (vu V 12 o12) 13 o13) (RC_all hRC hW (fun j hj => if_pos hj)) ?_ ?_ ?_ ?_ ?_ ?_ ?_ <;> simp (disch := omega) only [vu_ne] <;> rfl
  · simp (disch := omega) only [vu_ne]
    exact hGC
  · obtain ⟨g1, g2, g3, g4⟩ := hGM
    refine ⟨g1, ?_, ?_, fun i hi => ?_⟩
    · rw [c2, f36, b2]; exact g2
    · rw [c3, f37, b3]; exact g3
    · rw [c4 i (by omega), f35, b4 i (by omega)]; exact g4 i hi
  · simp (disch := omega) only [vu_ne]
    refine RHist_fr hHi ?_ ?_
    · rw [c5 2 (by decide) (by decide) (by decide) (by decide), hF 2 (by decide) (by decide) (by decide) (by decide), b5 2 (by decide) (by decide) (by decide) (by decide)]
    · rw [c5 5 (by decide) (by decide) (by decide) (by decide), hF 5 (by decide) (by decide) (by decide) (by decide), b5 5 (by decide) (by decide) (by decide) (by decide)]
  · simp (disch := omega) only [vu_ne]
    refine RPlan_gr hPl ⟨?_, fun j hj => if_pos (by omega), fun i hi => if_pos (by have := hW.2.2.1; omega)⟩ hW
    show σ 7 ≤ (if 7 < 835 then σ 7 else τ 7)
    rw [if_pos (by decide)]
    exact Nat.le_refl _
  · refine RelO_fr hO ?_ ?_ ?_ ?_ ?_ (fun j hj => ?_)
    · simp (disch := omega) only [vu_ne]
    · simp (disch := omega) only [vu_ne]
    · simp (disch := omega) only [vu_ne]
    · simp (disch := omega) only [vu_ne]
    · simp (disch := omega) only [vu_ne]
    · rw [c5 j (by omega) (by omega) (by omega) (by omega), hF j (by omega) (by omega) (by omega) (by omega), b5 j (by omega) (by omega) (by omega) (by omega)]
theorem xor_sub {a b : Nat} (ha : a < 256) (h : ∀ k, a.testBit k = false → b.testBit k = false) : a ^^^ b = andn a b := by
  apply tb_ext
  intro j
  rw [Nat.testBit_xor, tb_andn (by omega)]
  have := h j
  cases q : a.testBit j
  · rw [this q]
    rfl
  · cases b.testBit j <;> rfl
theorem R_victims : St_victims Rel := by
  intro V PK PI M v1 hR
  obtain ⟨σ, g, fc, fm, hR⟩ := hR
  have hR0 := hR
  obtain ⟨⟨hM0, hW, hRC⟩, hGC, hGM, hHi, hPl, hO⟩ := hR0
  have h8 := hW.1.1
  have h3 := Wv_3 hW.1
  have w0 : V 4 0 0 = nI (σ 2) := hRC.2.1.1
  have s0 : V 5 0 0 = nI (σ 0) := hRC.2.2.1.1
  have s2 : V 5 2 0 = nI (σ 3) := hRC.2.2.1.2.2.1
  have hr := hW.1.2.2.1
  have hs : MR (M 0) σ := fun j _ => by rw [hM0]; rfl
  have same : f_X11_victims (V 4) (V 5) (V 12) (V 13) v1 = some (V 12, V 13, -1) → f_X12_victims M v1 = some (M, -1) → ∃ (V' : Nat → Ob) (PK' PI' : PV) (M' : Ob) (r : Int32), g_victims V PK PI v1 = some (V', PK', PI', r) ∧ h_victims M v1 = some (M', r) ∧ Rel V' PK' PI' M' := by
    intro e1 e2
    refine ⟨V, PK, PI, M, -1, ?_, ?_, σ, g, fc, fm, hR⟩
    · unfold g_victims
      rw [zb3_of e1]
      simp only [vu_self]
    · unfold h_victims
      rw [zb2_of e2]
  rcases q_rng v1 (n := σ 2) (by omega) with ⟨k, hk, rfl⟩ | ho
  · have e1 := c_hasIn w0 (by omega) hk
    have e2 := m_isItemIn hs (by omega) hk
    have hi := hW.1.2.2.2.2.1 k hk
    have w1 : V 4 1 k = nI (σ (8 + k)) := (hRC.2.1.2 k hk).1
    by_cases hb : (σ 3).testBit k = true
    · refine same ?_ ?_
      · unfold f_X11_victims
        simp (maxSteps := 3000000) (disch := omega) only [↓nx_q, zb0_s, zb1_s, zb2_s, zb3_s, zb4_s, zb5_s, zb6_s, zb7_s, zb8_s, zb9_s, zb10_s, zb11_s, zb12_s, zb13_s, zb14_s, q_lit, nI_add, pk_mul, e_cl, gi_in, gz_n0, gz_n1, e_gz, si_eq, si_ne, sa_eq, sa_ne, if_true, if_false, ↓reduceIte, k_ltT, k_ltF, k_leT, k_leF, k_eqT, k_eqF, k_m1lt, k_nm1, not_true_eq_false, not_false_eq_true, e1, c_holds s2, if_pos hb]
      · unfold f_X12_victims
        simp (maxSteps := 3000000) (disch := omega) only [↓nx_q, zb0_s, zb1_s, zb2_s, zb3_s, zb4_s, zb5_s, zb6_s, zb7_s, zb8_s, zb9_s, zb10_s, zb11_s, zb12_s, zb13_s, zb14_s, q_lit, nI_add, pk_mul, e_cl, gi_in, gz_n0, gz_n1, e_gz, si_eq, si_ne, sa_eq, sa_ne, if_true, if_false, ↓reduceIte, k_ltT, k_ltF, k_leT, k_leF, k_eqT, k_eqF, k_m1lt, k_nm1, not_true_eq_false, not_false_eq_true, e2, hM0, rw_ap, upd_rw, sa_sa, jn_l, jn_r, jn_4, jn_5, jn_6, jn_ul, jn_ur, jn_u4, jn_u5, jn_u6, m_bitOf, if_pos hb]
    · by_cases q : σ (8 + k) ≤ σ 0
      · obtain ⟨m, hm, hst, hl⟩ := way_ends hW.1 q
        obtain ⟨o6, e6, h6⟩ := c_cpH (o := V 13) hRC.2.2.1
        have e6' : f_X8_copyFrom (V 13) (V 5) = some o6 := e6
        have hcnt : cntB (σ 3) (σ 2) ≤ 8 := Nat.le_trans (cnt_le _ _) h8
        obtain ⟨p, ep, hp1, hp2⟩ := c_makeWay h6 hRC.2.1 (DD_0 (V 12)) hW.1 q hm hst hl (by show 0 + _ ≤ 8; omega)
        obtain ⟨p1, p2⟩ := p
        dsimp only at hp1 hp2
        have ep' : f_X8_makeWay o6 (V 4) (si (V 12) 0 (nI 0)) (nI (σ (8 + k))) = some (p1, p2) := ep
        obtain ⟨M1, eb, hM1, hend⟩ := trial_both hR p2 p1
        obtain ⟨M2, ew, hM2, hF2⟩ := m_way hM1 hW.1 q hm hst hl
        obtain ⟨M3, e3, hRel⟩ := hend M2 _ hM2.1 hF2
        have hM1' := hM1.1
        have hM2' := hM2.1
        have hx := xor_sub h3 (fun j hj => wy_sub hW.1 hj m)
        refine ⟨_, PK, PI, M3, nI (andn (σ 3) ((wy σ m).1 3)), ?_, ?_, hRel⟩
        · unfold g_victims f_X11_victims
          simp (maxSteps := 3000000) (disch := omega) only [↓nx_q, zb0_s, zb1_s, zb2_s, zb3_s, zb4_s, zb5_s, zb6_s, zb7_s, zb8_s, zb9_s, zb10_s, zb11_s, zb12_s, zb13_s, zb14_s, q_lit, nI_add, pk_mul, e_cl, gi_in, gz_n0, gz_n1, e_gz, si_eq, si_ne, sa_eq, sa_ne, if_true, if_false, ↓reduceIte, k_ltT, k_ltF, k_leT, k_leF, k_eqT, k_eqF, k_m1lt, k_nm1, not_true_eq_false, not_false_eq_true, e1, c_holds s2, if_neg hb, w1, s0, e6', ep', s2, hp1.2.2.1, q_xor, hx]
        · unfold h_victims f_X12_victims
          simp (maxSteps := 3000000) (disch := omega) only [↓nx_q, zb0_s, zb1_s, zb2_s, zb3_s, zb4_s, zb5_s, zb6_s, zb7_s, zb8_s, zb9_s, zb10_s, zb11_s, zb12_s, zb13_s, zb14_s, q_lit, nI_add, pk_mul, e_cl, gi_in, gz_n0, gz_n1, e_gz, si_eq, si_ne, sa_eq, sa_ne, if_true, if_false, ↓reduceIte, k_ltT, k_ltF, k_leT, k_leF, k_eqT, k_eqF, k_m1lt, k_nm1, not_true_eq_false, not_false_eq_true, e2, hM0, rw_ap, upd_rw, sa_sa, jn_l, jn_r, jn_4, jn_5, jn_6, jn_ul, jn_ur, jn_u4, jn_u5, jn_u6, m_bitOf, if_neg hb, eb, hM1', ew, hM2', e3, q_andn']
      · refine same ?_ ?_
        · unfold f_X11_victims
          simp (maxSteps := 3000000) (disch := omega) only [↓nx_q, zb0_s, zb1_s, zb2_s, zb3_s, zb4_s, zb5_s, zb6_s, zb7_s, zb8_s, zb9_s, zb10_s, zb11_s, zb12_s, zb13_s, zb14_s, q_lit, nI_add, pk_mul, e_cl, gi_in, gz_n0, gz_n1, e_gz, si_eq, si_ne, sa_eq, sa_ne, if_true, if_false, ↓reduceIte, k_ltT, k_ltF, k_leT, k_leF, k_eqT, k_eqF, k_m1lt, k_nm1, not_true_eq_false, not_false_eq_true, e1, c_holds s2, if_neg hb, w1, s0]
        · unfold f_X12_victims
          simp (maxSteps := 3000000) (disch := omega) only [↓nx_q, zb0_s, zb1_s, zb2_s, zb3_s, zb4_s, zb5_s, zb6_s, zb7_s, zb8_s, zb9_s, zb10_s, zb11_s, zb12_s, zb13_s, zb14_s, q_lit, nI_add, pk_mul, e_cl, gi_in, gz_n0, gz_n1, e_gz, si_eq, si_ne, sa_eq, sa_ne, if_true, if_false, ↓reduceIte, k_ltT, k_ltF, k_leT, k_leF, k_eqT, k_eqF, k_m1lt, k_nm1, not_true_eq_false, not_false_eq_true, e2, hM0, rw_ap, upd_rw, sa_sa, jn_l, jn_r, jn_4, jn_5, jn_6, jn_ul, jn_ur, jn_u4, jn_u5, jn_u6, m_bitOf, if_neg hb]
  · have e1 := c_hasOut w0 ho
    have e2 := m_isItemOut hs (by omega) ho
    refine same ?_ ?_
    · unfold f_X11_victims
      simp (maxSteps := 3000000) (disch := omega) only [↓nx_q, zb0_s, zb1_s, zb2_s, zb3_s, zb4_s, zb5_s, zb6_s, zb7_s, zb8_s, zb9_s, zb10_s, zb11_s, zb12_s, zb13_s, zb14_s, q_lit, nI_add, pk_mul, e_cl, gi_in, gz_n0, gz_n1, e_gz, si_eq, si_ne, sa_eq, sa_ne, if_true, if_false, ↓reduceIte, k_ltT, k_ltF, k_leT, k_leF, k_eqT, k_eqF, k_m1lt, k_nm1, not_true_eq_false, not_false_eq_true, e1]
    · unfold f_X12_victims
      simp (maxSteps := 3000000) (disch := omega) only [↓nx_q, zb0_s, zb1_s, zb2_s, zb3_s, zb4_s, zb5_s, zb6_s, zb7_s, zb8_s, zb9_s, zb10_s, zb11_s, zb12_s, zb13_s, zb14_s, q_lit, nI_add, pk_mul, e_cl, gi_in, gz_n0, gz_n1, e_gz, si_eq, si_ne, sa_eq, sa_ne, if_true, if_false, ↓reduceIte, k_ltT, k_ltF, k_leT, k_leF, k_eqT, k_eqF, k_m1lt, k_nm1, not_true_eq_false, not_false_eq_true, e2]
def snC (o_t_state_wares : Ob) (v1 : Int32) : Ob → Ob → Int32 → Option ((Ob × Ob × Int32) ⊕ ((Ob × Ob) ⊕ (Ob × Ob × Int32))) := (fun (o34 : Ob) (o35 : Ob) (k36 : Int32) => (
  if (40 : Int32) < k36 then (
  some (.inr (.inl (o34, o35)))
  ) else (
  zb1 (f_X8_holds o35 v1) fun (r41 : Int32) =>
  if r41 = 0 then (
  nx (si o34 0 (0 : Int32)) fun o43 =>
  zb3 (f_X8_serve o35 o_t_state_wares o43 v1) fun (o44 : Ob) (o45 : Ob) (r46 : Int32) =>
  nx (k36 + (1 : Int32)) fun x48 =>
  some (.inl (o45, o44, x48))
  ) else (
  some (.inr (.inr (o34, o35, k36)))
  )
  )
  ))
def snM (v1 : Int32) : Ob → Int32 → Option ((Ob × Int32) ⊕ (Ob × Int32)) := (fun (o16 : Ob) (k17 : Int32) => (
  if (40 : Int32) ≤ k17 then (
  some (.inr (o16, k17))
  ) else (
  gi (3 : Int32) 835 <|
  zb1 (f_X12_bitOf (o16 0 (Int32.toNatClampNeg (3 : Int32))) v1) fun (r29 : Int32) =>
  if r29 = 0 then (
  zb2 (f_X12_asks o16 v1) fun (o31 : Ob) (r32 : Int32) =>
  nx (k17 + (1 : Int32)) fun x34 =>
  some (.inl (o31, x34))
  ) else (
  some (.inr (o16, k17))
  )
  )
  ))
def cbC (o_t_state_wares : Ob) (o_t_state_log : Ob) : Ob → Ob → Int32 → Int32 → Option ((Ob × Ob × Int32 × Int32) ⊕ (Ob × Ob × Int32)) := (fun (o32 : Ob) (o33 : Ob) (k34 : Int32) (k35 : Int32) => (
  if o_t_state_log 0 0 ≤ k35 then (
  some (.inr (o32, o33, k34))
  ) else (
  nx (si o32 0 (0 : Int32)) fun o41 =>
  gi k35 40 <|
  zb3 (f_X8_serve o33 o_t_state_wares o41 (o_t_state_log 1 (Int32.toNatClampNeg k35))) fun (o43 : Ob) (o44 : Ob) (r45 : Int32) =>
  nx (k34 + r45) fun x47 =>
  nx (k35 + (1 : Int32)) fun x48 =>
  some (.inl (o44, o43, x47, x48))
  )
  ))
def cbM (x4 : Int32) : Ob → Int32 → Int32 → Option ((Ob × Int32 × Int32) ⊕ (Ob × Int32)) := (fun (o22 : Ob) (k23 : Int32) (k24 : Int32) => (
  if x4 ≤ k24 then (
  some (.inr (o22, k23))
  ) else (
  gi ((104 : Int32) + k24) 835 <|
  zb2 (f_X12_asks o22 (o22 0 (Int32.toNatClampNeg ((104 : Int32) + k24)))) fun (o32 : Ob) (r33 : Int32) =>
  nx (k23 + r33) fun x35 =>
  nx (k24 + (1 : Int32)) fun x36 =>
  some (.inl (o32, x35, x36))
  )
  ))
