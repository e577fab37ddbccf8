/-! ===== requests ===== -/
theorem vu_self (V : Nat → Ob) (i : Nat) : vu V i (V i) = V := by
  funext j
  by_cases h : j = i
  · subst h; rw [vu_eq]
  · rw [vu_ne h]
theorem Grow_jn {σ σ' : Nat → Nat} (h : Grow σ σ') (π : Nat → Nat) (h7 : σ 7 ≤ 40) : Grow σ (jn σ' π) := by
  refine ⟨?_, fun j hj => ?_, fun i hi => ?_⟩
  · rw [jn_l (by decide) (by decide) (by decide) (by decide)]
    exact h.1
  · rw [jn_l (by omega) (by omega) (by omega) (by omega)]
    exact h.2.1 j hj
  · rw [jn_l (by omega) (by omega) (by omega) (by omega)]
    exact h.2.2 i hi
/-- the state behind a call that asked: all parts -/
theorem Rel_asked {V V' : Nat → Ob} {PK PI : PV} {M M2 M3 : Ob} {PK' : PV} {σ σ' : Nat → Nat} {g : Nat} {fc fm : Bool} {x : PQ} (hR : RelS V PK PI M σ g fc fm) (hw : WF σ') (hg : Grow σ σ') (hC : CS (V' 3) (V' 4) (V' 5) (V' 6) (V' 7) (V' 8) (V' 9) (V' 11) σ' x) (hM : MS M3 σ' x) (hH : RHist (V' 10) PK' M2) (hF : ∀ j, j ≠ 0 → j ≠ 19 → j ≠ 20 → j ≠ 21 → j ≠ 46 → M3 j = M2 j) (h2 : ∀ j, j ≠ 2 → j ≠ 5 → j ≠ 21 → M2 j = M j) (h13 : V' 0 13 = V 0 13) (h12 : V' 0 12 = V 0 12) (h1 : RTape (V' 1) M3 ∧ V' 1 2 0 = M3 13 0) (h16 : V' 16 = V 16) (h14 : V' 14 = V 14) (h15 : V' 15 = V 15) : Rel V' PK' PI M3 := by
  obtain ⟨⟨hM0, hW, hRC⟩, hGC, hGM, hHi, hPl, hO⟩ := hR
  obtain ⟨a, b, c, d, e, f, gg⟩ := hO
  have hm : ∀ j, j < 46 → j ≠ 0 → j ≠ 19 → j ≠ 20 → j ≠ 21 → j ≠ 2 → j ≠ 5 → M3 j = M j := fun j z a b c d e f => (hF j a b c d (by omega)).trans (h2 j e f d)
  refine ⟨jn σ' x.1, x.2.1, x.2.2, x.2.2, ⟨hM.1, WF_al hw (Al_jn _ _), RC_un (RC_of hC hw) rfl rfl rfl rfl rfl rfl rfl⟩, hC.2.1.2.2.2.2.1, hM.2.1, RHist_fr hH (hF 2 (by decide) (by decide) (by decide) (by decide) (by decide)) (hF 5 (by decide) (by decide) (by decide) (by decide) (by decide)), ?_, h1.1, h1.2, ?_, ?_, RImg_fr e (hm 1 (by decide) (by decide) (by decide) (by decide) (by decide) (by decide) (by decide)) (hm 4 (by decide) (by decide) (by decide) (by decide) (by decide) (by decide) (by decide)), by rw [h14]; exact f, by rw [h15]; exact gg⟩
  · rw [h14]
    exact RPlan_gr hPl (Grow_jn hg _ hW.2.2.1) hW
  · rw [h13, h12, hm 39 (by decide) (by decide) (by decide) (by decide) (by decide) (by decide) (by decide), hm 38 (by decide) (by decide) (by decide) (by decide) (by decide) (by decide) (by decide)]
    exact c
  · rw [h16, hm 42 (by decide) (by decide) (by decide) (by decide) (by decide) (by decide) (by decide), hm 41 (by decide) (by decide) (by decide) (by decide) (by decide) (by decide) (by decide)]
    exact d
theorem GC_new {o : Ob} {g : Nat} {fl : Bool} (h : GC o g fl) : f_X2_newCall o = some (si o 2 (nI 1)) ∧ GC (si o 2 (nI 1)) g true := by
  obtain ⟨a, b, c, d⟩ := h
  refine ⟨rfl, a, ?_, si_eq _ _ _ _, fun i hi => ?_⟩
  · rw [si_ne (by decide)]; exact b
  · rw [si_ne (by decide)]; exact d i hi
theorem GM_new {M : Ob} {g : Nat} {fl : Bool} (h : GM M g fl) : f_X12_call M = some (si M 21 (nI 0)) ∧ GM (si M 21 (nI 0)) g true := by
  obtain ⟨a, b, c, d⟩ := h
  refine ⟨rfl, a, ?_, si_eq _ _ _ _, fun i hi => ?_⟩
  · rw [si_ne (by decide)]; exact b
  · rw [si_ne (by decide)]; exact d i hi
theorem GM_fr2 {M M' : Ob} {g : Nat} {fl : Bool} (h : GM M g fl) (hf : ∀ j, j ≠ 2 → j ≠ 5 → M' j = M j) : GM M' g fl := GM_fr h (hf 19 (by decide) (by decide)) (hf 20 (by decide) (by decide)) (hf 21 (by decide) (by decide))
/-- a call begins: GATES, what is kept -/
theorem begin_both {V : Nat → Ob} {PK PI : PV} {M : Ob} {σ : Nat → Nat} {g : Nat} {fc fm : Bool} (hR : RelS V PK PI M σ g fc fm) : ∃ (o10 : Ob) (PK' : PV) (M2 : Ob), f_X3_keep (V 10) (V 3) (V 4) (V 5) (V 6) (V 7) (V 8) (V 9) PK = some (o10, PK') ∧ f_X2_newCall (V 11) = some (si (V 11) 2 (nI 1)) ∧ f_X12_call M = some (si M 21 (nI 0)) ∧ f_X12_keeps (si M 21 (nI 0)) = some M2 ∧ RHist o10 PK' M2 ∧ (∀ j, j ≠ 2 → j ≠ 5 → j ≠ 21 → M2 j = M j) ∧ CS (V 3) (V 4) (V 5) (V 6) (V 7) (V 8) (V 9) (si (V 11) 2 (nI 1)) σ (σ, g, true) ∧ MS M2 σ (σ, g, true) := by
  obtain ⟨⟨hM0, hW, hRC⟩, hGC, hGM, hHi, hPl, hO⟩ := hR
  have hn := GC_new hGC
  have hm := GM_new hGM
  obtain ⟨o10, PK', M2, ek, em, hH, hf⟩ := keep_both (u := fun i => V (3 + i)) (M := si M 21 (nI 0)) (RHist_fr hHi (si_ne (by decide)) (si_ne (by decide))) (by rw [si_ne (by decide)]; exact hM0) hRC hW
  have hM2 : M2 0 = rw σ := by rw [hf 0 (by decide) (by decide), si_ne (by decide)]; exact hM0
  refine ⟨o10, PK', M2, ek, hn.1, hm.1, em, hH, fun j a b c => by rw [hf j a b, si_ne c], CS_of hRC hn.2, MS_of hM2 hRC (GM_fr2 hm.2 hf)⟩
theorem R_request : St_request Rel := by
  intro V PK PI M v1 hR
  obtain ⟨σ, g, fc, fm, hR⟩ := hR
  have hR0 := hR
  obtain ⟨⟨hM0, hW, hRC⟩, hGC, hGM, hHi, hPl, hO⟩ := hR0
  have h8 := hW.1.1
  have h7 := hW.2.2.1
  have hw0 : V 4 0 0 = nI (σ 2) := hRC.2.1.1
  have hl0 : V 6 0 0 = nI (σ 7) := hRC.2.2.2.1.1
  have hs : MR (M 0) σ := fun j _ => by rw [hM0]; rfl
  rcases q_rng v1 (n := σ 2) (by omega) with ⟨k, hk, rfl⟩ | ho
  · have e1 := c_hasIn hw0 (by omega) hk
    have e2 := m_isItemIn hs (by omega) hk
    by_cases q : σ 7 = 40
    · refine ⟨V, PK, PI, M, -3, ?_, ?_, σ, g, fc, fm, hR⟩
      · unfold g_request f_X11_request f_X4_isFull
        rw [e1]
        simp (maxSteps := 3000000) (disch := omega) only [↓nx_q, zb0_s, zb1_s, zb2_s, zb3_s, zb4_s, zb5_s, zb6_s, zb7_s, zb8_s, zb9_s, zb10_s, zb11_s, zb12_s, zb13_s, zb14_s, q_lit, nI_add, pk_mul, e_cl, gi_in, gz_n0, gz_n1, e_gz, si_eq, si_ne, sa_eq, sa_ne, if_true, if_false, ↓reduceIte, k_ltT, k_ltF, k_leT, k_leF, k_eqT, k_eqF, k_m1lt, k_nm1, not_true_eq_false, not_false_eq_true, hl0, vu_self]
      · unfold h_request f_X12_request
        rw [e2]
        simp (maxSteps := 3000000) (disch := omega) only [↓nx_q, zb0_s, zb1_s, zb2_s, zb3_s, zb4_s, zb5_s, zb6_s, zb7_s, zb8_s, zb9_s, zb10_s, zb11_s, zb12_s, zb13_s, zb14_s, q_lit, nI_add, pk_mul, e_cl, gi_in, gz_n0, gz_n1, e_gz, si_eq, si_ne, sa_eq, sa_ne, if_true, if_false, ↓reduceIte, k_ltT, k_ltF, k_leT, k_leF, k_eqT, k_eqF, k_m1lt, k_nm1, not_true_eq_false, not_false_eq_true, hM0, rw_ap, upd_rw, sa_sa, jn_l, jn_r, jn_4, jn_5, jn_6, jn_ul, jn_ur, jn_u4, jn_u5, jn_u6]
    · obtain ⟨o10, PK', M2, ek, en, ec, em, hH, hf, hC, hM⟩ := begin_both hR
      obtain ⟨σ', D, v, hW', hGr, h7', hv, hCa, hMa⟩ := ask_both hW (by omega) hk
      obtain ⟨p, ep, hp⟩ := hCa _ _ _ _ _ _ _ (V 12) _ _ hC
      obtain ⟨y, ey, hy⟩ := hMa _ _ hM
      obtain ⟨p1, p2, p3, p4, p5, p6, p7, p8, p9⟩ := p
      obtain ⟨M3, r⟩ := y
      dsimp only at hp hy
      obtain ⟨hp, rfl⟩ := hp
      obtain ⟨hy1, hy2, rfl⟩ := hy
      refine ⟨vu (vu (vu (vu (vu (vu (vu (vu (vu V 3 p1) 5 p2) 6 p3) 7 p4) 8 p5) 9 p6) 10 o10) 11 p8) 12 p7, PK', PI, M3, nI v, ?_, ?_, ?_⟩
      · unfold g_request f_X11_request f_X4_isFull
        rw [e1]
        simp (maxSteps := 3000000) (disch := omega) only [↓nx_q, zb0_s, zb1_s, zb2_s, zb3_s, zb4_s, zb5_s, zb6_s, zb7_s, zb8_s, zb9_s, zb10_s, zb11_s, zb12_s, zb13_s, zb14_s, q_lit, nI_add, pk_mul, e_cl, gi_in, gz_n0, gz_n1, e_gz, si_eq, si_ne, sa_eq, sa_ne, if_true, if_false, ↓reduceIte, k_ltT, k_ltF, k_leT, k_leF, k_eqT, k_eqF, k_m1lt, k_nm1, not_true_eq_false, not_false_eq_true, hl0, ek, en, ep]
      · unfold h_request f_X12_request
        rw [e2]
        simp (maxSteps := 3000000) (disch := omega) only [↓nx_q, zb0_s, zb1_s, zb2_s, zb3_s, zb4_s, zb5_s, zb6_s, zb7_s, zb8_s, zb9_s, zb10_s, zb11_s, zb12_s, zb13_s, zb14_s, q_lit, nI_add, pk_mul, e_cl, gi_in, gz_n0, gz_n1, e_gz, si_eq, si_ne, sa_eq, sa_ne, if_true, if_false, ↓reduceIte, k_ltT, k_ltF, k_leT, k_leF, k_eqT, k_eqF, k_m1lt, k_nm1, not_true_eq_false, not_false_eq_true, hM0, rw_ap, upd_rw, sa_sa, jn_l, jn_r, jn_4, jn_5, jn_6, jn_ul, jn_ur, jn_u4, jn_u5, jn_u6, ec, em, ey]
      · refine Rel_asked (M2 := M2) hR hW' hGr (x := D.foldl pst (σ, g, true)) ?_ hy1 ?_ (fun j a b c d _ => hy2 j a b c d) hf ?_ ?_ ?_ ?_ ?_ ?_
        · simp (disch := omega) only [vu_eq, vu_ne]
          exact hp
        · simp (disch := omega) only [vu_eq, vu_ne]
          exact hH
        · simp (disch := omega) only [vu_eq, vu_ne]
        · simp (disch := omega) only [vu_eq, vu_ne]
        · simp (disch := omega) only [vu_eq, vu_ne]
          have hm : ∀ j, j = 6 ∨ j = 7 ∨ j = 13 → M3 j = M j := fun j hj => (hy2 j (by omega) (by omega) (by omega) (by omega)).trans (hf j (by omega) (by omega) (by omega))
          exact ⟨RTape_fr hO.1 (hm 6 (by omega)) (hm 7 (by omega)), by rw [hm 13 (by omega)]; exact hO.2.1⟩
        · simp (disch := omega) only [vu_eq, vu_ne]
        · simp (disch := omega) only [vu_eq, vu_ne]
        · simp (disch := omega) only [vu_eq, vu_ne]
  · have e1 := c_hasOut hw0 ho
    have e2 := m_isItemOut hs (by omega) ho
    refine ⟨V, PK, PI, M, -2, ?_, ?_, σ, g, fc, fm, hR⟩
    · unfold g_request f_X11_request
      rw [e1]
      simp (maxSteps := 3000000) (disch := omega) only [↓nx_q, zb0_s, zb1_s, zb2_s, zb3_s, zb4_s, zb5_s, zb6_s, zb7_s, zb8_s, zb9_s, zb10_s, zb11_s, zb12_s, zb13_s, zb14_s, q_lit, nI_add, pk_mul, e_cl, gi_in, gz_n0, gz_n1, e_gz, si_eq, si_ne, sa_eq, sa_ne, if_true, if_false, ↓reduceIte, k_ltT, k_ltF, k_leT, k_leF, k_eqT, k_eqF, k_m1lt, k_nm1, not_true_eq_false, not_false_eq_true, vu_self]
    · unfold h_request f_X12_request
      rw [e2]
      simp (maxSteps := 3000000) (disch := omega) only [↓nx_q, zb0_s, zb1_s, zb2_s, zb3_s, zb4_s, zb5_s, zb6_s, zb7_s, zb8_s, zb9_s, zb10_s, zb11_s, zb12_s, zb13_s, zb14_s, q_lit, nI_add, pk_mul, e_cl, gi_in, gz_n0, gz_n1, e_gz, si_eq, si_ne, sa_eq, sa_ne, if_true, if_false, ↓reduceIte, k_ltT, k_ltF, k_leT, k_leF, k_eqT, k_eqF, k_m1lt, k_nm1, not_true_eq_false, not_false_eq_true]
