/-! ===== by hand ===== -/
theorem WF_mv {σ τ : Nat → Nat} (hw : WF σ) (hv : Wv τ) (hk : WFk τ) (e : ∀ j, j ≠ 3 → (j < 32 ∨ 48 ≤ j) → τ j = σ j) : WF τ := by
  obtain ⟨w1, w2, w3, w4, w5, w6, w7⟩ := hw
  have e2 := e 2 (by decide) (by omega)
  have e7 := e 7 (by decide) (by omega)
  have h8 := w1.1
  refine ⟨hv, by rw [e 1 (by decide) (by omega)]; exact w2, by rw [e7]; exact w3, fun j hj => ?_, hk, WFn_congr w6 h8 e2 (fun j a b => e j (by omega) (by omega)), fun i hi => ?_⟩
  · rw [e7, e2, e (48 + j) (by omega) (by omega)]
    exact w4 j hj
  · rw [e7] at hi
    have hl := w7 i hi
    rw [e (104 + i) (by omega) (by omega), e (144 + i) (by omega) (by omega), e (184 + i) (by omega) (by omega), e2]
    refine ⟨hl.1, hl.2.1, hl.2.2.1, fun x hx => ?_⟩
    rw [e (224 + 8 * i + x) (by omega) (by omega)]
    exact hl.2.2.2 x hx
theorem Grow_mv {σ τ : Nat → Nat} (h7 : σ 7 ≤ 40) (e : ∀ j, j ≠ 3 → (j < 32 ∨ 48 ≤ j) → τ j = σ j) : Grow σ τ := ⟨by rw [e 7 (by decide) (by omega)]; exact Nat.le_refl _, fun j hj => e j (by omega) (by omega), fun i hi => e _ (by omega) (by omega)⟩
theorem dn_mv {σ : Nat → Nat} {k : Nat} (hk : k < 8) : ∀ j, j ≠ 3 → (j < 32 ∨ 48 ≤ j) → dnS σ k j = σ j := fun j a b => dn_fr a (by omega)
theorem up_mv {σ : Nat → Nat} {k : Nat} (hk : k < 8) : ∀ j, j ≠ 3 → (j < 32 ∨ 48 ≤ j) → upS σ k j = σ j := fun j a b => up_fr a (by omega) (by omega)
theorem WF_dn {σ : Nat → Nat} {k : Nat} (hw : WF σ) (hk : k < σ 2) (hb : (σ 3).testBit k = true) : WF (dnS σ k) := by
  have h8 := hw.1.1
  refine WF_mv hw (Wv_dn hw.1 hk hb) (fun j hj => ?_) (dn_mv (by omega))
  rw [dn_2] at hj
  rw [dn_fr (by omega) (by omega)]
  exact hw.2.2.2.2.1 j hj
theorem WF_up {σ : Nat → Nat} {k : Nat} (hw : WF σ) (hk : k < σ 2) (hb : (σ 3).testBit k = false) (hr : liesN σ + σ (8 + k) ≤ σ 0) : WF (upS σ k) := by
  have h8 := hw.1.1
  refine WF_mv hw (Wv_up hw.1 hk hb hr) (fun j hj => ?_) (up_mv (by omega))
  rw [up_2] at hj
  by_cases e : j = k
  · subst e
    rw [up_c]
    decide
  · rw [up_fr (by omega) (by omega) (by omega)]
    exact hw.2.2.2.2.1 j hj
theorem move_dn {o w s l b0 b1 b2 d g : Ob} {σ : Nat → Nat} {x : PQ} {k : Nat} (h : CS o w s l b0 b1 b2 g σ x) (hw : WF σ) (hk : k < σ 2) (hb : (σ 3).testBit k = true) : Ok (f_X9_move o w s b0 b1 b2 d g (nI k)) (fun p => CS p.1 w p.2.1 l p.2.2.1 p.2.2.2.1 p.2.2.2.2.1 p.2.2.2.2.2.2 (dnS σ k) (pst x (2, k, σ (8 + k)))) := by
  obtain ⟨c4, cp, cw, ch, cl⟩ := h
  have h8 := hw.1.1
  have h3 := Wv_3 hw.1
  have hB := cp.2.2.2.2.2
  have o2 := ch.2.2.1
  unfold f_X9_move
  simp (maxSteps := 3000000) (disch := omega) only [↓nx_q, q_lit, c_holds o2, if_pos hb, zb0_s, zb1_s, zb2_s, zb3_s, zb4_s, zb5_s, zb6_s, zb7_s, zb8_s, zb9_s, zb10_s, zb11_s, zb12_s, zb13_s, zb14_s, if_true, if_false, ↓reduceIte, k_ltT, k_ltF, k_leT, k_leF, k_eqT, k_eqF, k_m1lt, k_nm1, not_true_eq_false, not_false_eq_true]
  rw [ok_zb2]
  refine ok_mono (c_lower ch cw (DD_0 d) hw.1 hk hb (by decide)) (fun p hp => ?_)
  rw [ok_zb5]
  refine ok_mono (c_post (D := [(2, k, σ (8 + k))]) cp hp.2 (by show 1 ≤ 9; decide) (fun d hd => by rw [List.mem_singleton.mp hd]; show 2 ≤ 3; decide)) (fun y hy => ok_some.mpr ⟨?_, hy.1, RCw_congr cw h8 (fun j a b => dn_mv (by omega) j a (by omega)), hp.1, RCl_congr cl hw.2.2.1 (fun j hj => dn_mv (by omega) j (by omega) (by omega))⟩)
  show y.1 4 0 = _
  rw [hy.2 4 (by decide) (by decide), c4, pst_4 hB]
  rfl
theorem move_up {o w s l b0 b1 b2 d g : Ob} {σ : Nat → Nat} {x : PQ} {k : Nat} (h : CS o w s l b0 b1 b2 g σ x) (hw : WF σ) (hk : k < σ 2) (hb : (σ 3).testBit k = false) : Ok (f_X9_move o w s b0 b1 b2 d g (nI k)) (fun p => CS p.1 w p.2.1 l p.2.2.1 p.2.2.2.1 p.2.2.2.2.1 p.2.2.2.2.2.2 (upS σ k) (pst x (3, k, σ (16 + k)))) := by
  obtain ⟨c4, cp, cw, ch, cl⟩ := h
  have h8 := hw.1.1
  have h3 := Wv_3 hw.1
  have hB := cp.2.2.2.2.2
  have o2 := ch.2.2.1
  have hb' : ¬ (σ 3).testBit k = true := by rw [hb]; decide
  have w2 := (cw.2 k hk).2.1
  unfold f_X9_move
  simp (maxSteps := 3000000) (disch := omega) only [↓nx_q, q_lit, c_holds o2, if_neg hb', zb0_s, zb1_s, zb2_s, zb3_s, zb4_s, zb5_s, zb6_s, zb7_s, zb8_s, zb9_s, zb10_s, zb11_s, zb12_s, zb13_s, zb14_s, if_true, if_false, ↓reduceIte, k_ltT, k_ltF, k_leT, k_leF, k_eqT, k_eqF, k_m1lt, k_nm1, not_true_eq_false, not_false_eq_true]
  rw [ok_zb2]
  refine ok_mono (c_raise ch cw (DD_0 d) hw.1.2.2.2.2.1 h8 hk hb (by decide)) (fun p hp => ?_)
  simp (maxSteps := 3000000) (disch := omega) only [gi_in, e_cl, w2, c4, nI_add]
  rw [ok_zb5]
  have cp' : CP (si o 4 (nI (x.1 4 + σ (16 + k)))) b0 b1 b2 g x := by
    refine ⟨⟨?_, ?_⟩, cp.2⟩
    · rw [si_ne (by decide)]; exact cp.1.1
    · rw [si_ne (by decide)]; exact cp.1.2
  refine ok_mono (c_post (D := [(3, k, σ (16 + k))]) cp' hp.2 (by show 1 ≤ 9; decide) (fun d hd => by rw [List.mem_singleton.mp hd]; show 3 ≤ 3; decide)) (fun y hy => ok_some.mpr ⟨?_, hy.1, RCw_congr cw h8 (fun j a b => up_mv (by omega) j a (by omega)), hp.1, RCl_congr cl hw.2.2.1 (fun j hj => up_mv (by omega) j (by omega) (by omega))⟩)
  show y.1 4 0 = _
  rw [hy.2 4 (by decide) (by decide), si_eq]
  show _ = nI ((pst x (3, k, σ (16 + k))).1 4)
  rw [pst_4 hB]
  rfl
/-- may it go, and why not -/
theorem c_hind {w s : Ob} {σ : Nat → Nat} {k : Nat} (cw : RCw w σ) (ch : RCh s σ) (hv : Wv σ) (hk : k < σ 2) : ((σ 3).testBit k = true → f_X11_hindrance w s (nI k) (nI 1) = some (nI 1) ∧ f_X11_hindrance w s (nI k) (nI 0) = some (nI 0)) ∧ (¬ (σ 3).testBit k = true → f_X11_hindrance w s (nI k) (nI 0) = some (nI 1) ∧ (σ 0 < liesN σ + σ (8 + k) → f_X11_hindrance w s (nI k) (nI 1) = some (nI 2)) ∧ (liesN σ + σ (8 + k) ≤ σ 0 → f_X11_hindrance w s (nI k) (nI 1) = some (nI 0))) := by
  have h8 := hv.1
  have h3 := Wv_3 hv
  have o2 := ch.2.2.1
  have hwk := (cw.2 k hk).1
  have hl := hv.2.2.2.1
  have hr := hv.2.2.1
  have hi := hv.2.2.2.2.1 k hk
  have hfree : f_X8_free s = some (nI (σ 0 - liesN σ)) := by
    unfold f_X8_free
    rw [ch.1, ch.2.2.2.1, e_sub hl]
  unfold f_X11_hindrance
  refine ⟨fun hb => ⟨?_, ?_⟩, fun hb => ⟨?_, fun q => ?_, fun q => ?_⟩⟩
  · simp (maxSteps := 3000000) (disch := omega) only [↓nx_q, zb0_s, zb1_s, zb2_s, zb3_s, zb4_s, zb5_s, zb6_s, zb7_s, zb8_s, zb9_s, zb10_s, zb11_s, zb12_s, zb13_s, zb14_s, q_lit, nI_add, pk_mul, e_cl, gi_in, gz_n0, gz_n1, e_gz, si_eq, si_ne, sa_eq, sa_ne, if_true, if_false, ↓reduceIte, k_ltT, k_ltF, k_leT, k_leF, k_eqT, k_eqF, k_m1lt, k_nm1, not_true_eq_false, not_false_eq_true, c_holds o2, if_pos hb]
  · simp (maxSteps := 3000000) (disch := omega) only [↓nx_q, zb0_s, zb1_s, zb2_s, zb3_s, zb4_s, zb5_s, zb6_s, zb7_s, zb8_s, zb9_s, zb10_s, zb11_s, zb12_s, zb13_s, zb14_s, q_lit, nI_add, pk_mul, e_cl, gi_in, gz_n0, gz_n1, e_gz, si_eq, si_ne, sa_eq, sa_ne, if_true, if_false, ↓reduceIte, k_ltT, k_ltF, k_leT, k_leF, k_eqT, k_eqF, k_m1lt, k_nm1, not_true_eq_false, not_false_eq_true, c_holds o2, if_pos hb]
  · simp (maxSteps := 3000000) (disch := omega) only [↓nx_q, zb0_s, zb1_s, zb2_s, zb3_s, zb4_s, zb5_s, zb6_s, zb7_s, zb8_s, zb9_s, zb10_s, zb11_s, zb12_s, zb13_s, zb14_s, q_lit, nI_add, pk_mul, e_cl, gi_in, gz_n0, gz_n1, e_gz, si_eq, si_ne, sa_eq, sa_ne, if_true, if_false, ↓reduceIte, k_ltT, k_ltF, k_leT, k_leF, k_eqT, k_eqF, k_m1lt, k_nm1, not_true_eq_false, not_false_eq_true, c_holds o2, if_neg hb]
  · simp (maxSteps := 3000000) (disch := omega) only [↓nx_q, zb0_s, zb1_s, zb2_s, zb3_s, zb4_s, zb5_s, zb6_s, zb7_s, zb8_s, zb9_s, zb10_s, zb11_s, zb12_s, zb13_s, zb14_s, q_lit, nI_add, pk_mul, e_cl, gi_in, gz_n0, gz_n1, e_gz, si_eq, si_ne, sa_eq, sa_ne, if_true, if_false, ↓reduceIte, k_ltT, k_ltF, k_leT, k_leF, k_eqT, k_eqF, k_m1lt, k_nm1, not_true_eq_false, not_false_eq_true, c_holds o2, if_neg hb, hfree, hwk]
  · simp (maxSteps := 3000000) (disch := omega) only [↓nx_q, zb0_s, zb1_s, zb2_s, zb3_s, zb4_s, zb5_s, zb6_s, zb7_s, zb8_s, zb9_s, zb10_s, zb11_s, zb12_s, zb13_s, zb14_s, q_lit, nI_add, pk_mul, e_cl, gi_in, gz_n0, gz_n1, e_gz, si_eq, si_ne, sa_eq, sa_ne, if_true, if_false, ↓reduceIte, k_ltT, k_ltF, k_leT, k_leF, k_eqT, k_eqF, k_m1lt, k_nm1, not_true_eq_false, not_false_eq_true, c_holds o2, if_neg hb, hfree, hwk]
/-- a hand that carries what can't be -/
theorem R_carryNot {V : Nat → Ob} {PK PI : PV} {M : Ob} {σ : Nat → Nat} {g : Nat} {fc fm : Bool} (hR : RelS V PK PI M σ g fc fm) {k up why : Nat} (hk : k < σ 2) (e : f_X11_hindrance (V 4) (V 5) (nI k) (nI up) = some (nI why)) (hu : up ≤ 1) (hy : 0 < why) (hy2 : why < 100) (hm : ∀ M4, f_X12_gatesOpen (si M 21 (nI 0)) = some M4 → f_X12_carry M (nI k) (nI up) = some (M4, nI why)) : ∃ (V' : Nat → Ob) (PK' PI' : PV) (M' : Ob) (r : Int32), g_carry V PK PI (nI k) (nI up) = some (V', PK', PI', r) ∧ h_carry M (nI k) (nI up) = some (M', r) ∧ Rel V' PK' PI' M' := by
  have hR0 := hR
  obtain ⟨⟨hM0, hW, hRC⟩, hGC, hGM, hHi, hPl, hO⟩ := hR0
  have h8 := hW.1.1
  have hw0 : V 4 0 0 = nI (σ 2) := hRC.2.1.1
  have e1 := c_hasIn hw0 (by omega) hk
  have hn := GC_new hGC
  have hmn := GM_new hGM
  obtain ⟨o11, e11, hg11⟩ := c_pass hn.2
  obtain ⟨M4, e4, hg4, hf4⟩ := m_gatesOpen hmn.2
  refine ⟨vu (vu V 11 o11) 12 (V 12), PK, PI, M4, nI why, ?_, ?_, ?_⟩
  · unfold g_carry f_X11_carry
    rw [e1]
    simp (maxSteps := 3000000) (disch := omega) only [↓nx_q, zb0_s, zb1_s, zb2_s, zb3_s, zb4_s, zb5_s, zb6_s, zb7_s, zb8_s, zb9_s, zb10_s, zb11_s, zb12_s, zb13_s, zb14_s, q_lit, nI_add, pk_mul, e_cl, gi_in, gz_n0, gz_n1, e_gz, si_eq, si_ne, sa_eq, sa_ne, if_true, if_false, ↓reduceIte, k_ltT, k_ltF, k_leT, k_leF, k_eqT, k_eqF, k_m1lt, k_nm1, not_true_eq_false, not_false_eq_true, hn.1, e, e11, vu_self]
  · unfold h_carry
    rw [hm M4 e4]
    rfl
  · have hf : ∀ j, j ≠ 19 → j ≠ 20 → j ≠ 21 → M4 j = M j := fun j a b c => by rw [hf4 j a b c, si_ne c]
    refine ⟨σ, psg g true, false, false, ⟨by rw [hf 0 (by decide) (by decide) (by decide)]; exact hM0, hW, ?_⟩, ?_, hg4, ?_, ?_, RelO_fr hO ?_ ?_ ?_ ?_ ?_ (fun j hj => hf j (by omega) (by omega) (by omega))⟩
    · refine RC_un (V := vu (vu V 11 o11) 12 (V 12)) hRC ?_ ?_ ?_ ?_ ?_ ?_ ?_ <;> simp (disch := omega) only [vu_ne] <;> rfl
    · rw [vu_ne (by decide), vu_eq]
      exact hg11
    · rw [vu_ne (by decide), vu_ne (by decide)]
      exact RHist_fr hHi (hf 2 (by decide) (by decide) (by decide)) (hf 5 (by decide) (by decide) (by decide))
    · rw [vu_ne (by decide), vu_ne (by decide)]
      exact hPl
    · rw [vu_ne (by decide), vu_ne (by decide)]
    · rw [vu_ne (by decide), vu_ne (by decide)]
    · rw [vu_ne (by decide), vu_ne (by decide)]
    · rw [vu_ne (by decide), vu_ne (by decide)]
    · rw [vu_ne (by decide), vu_ne (by decide)]
/-- it goes -/
theorem R_carryGo {V : Nat → Ob} {PK PI : PV} {M : Ob} {σ σ' : Nat → Nat} {g : Nat} {fc fm : Bool} {d : Nat × Nat × Nat} (hR : RelS V PK PI M σ g fc fm) {k up : Nat} (hk : k < σ 2) (e : f_X11_hindrance (V 4) (V 5) (nI k) (nI up) = some (nI 0)) (hu : up ≤ 1) (hW' : WF σ') (hGr : Grow σ σ') (hC : ∀ g', CS (V 3) (V 4) (V 5) (V 6) (V 7) (V 8) (V 9) g' σ (σ, g, true) → Ok (f_X9_move (V 3) (V 4) (V 5) (V 7) (V 8) (V 9) (V 12) g' (nI k)) (fun p => CS p.1 (V 4) p.2.1 (V 6) p.2.2.1 p.2.2.2.1 p.2.2.2.2.1 p.2.2.2.2.2.2 σ' (pst (σ, g, true) d))) (hm : ∀ M2, f_X12_keeps (si M 21 (nI 0)) = some M2 → MS M2 σ (σ, g, true) → ∃ M3, f_X12_carry M (nI k) (nI up) = some (M3, nI 0) ∧ MS M3 σ' (pst (σ, g, true) d) ∧ FrM M2 M3) : ∃ (V' : Nat → Ob) (PK' PI' : PV) (M' : Ob) (r : Int32), g_carry V PK PI (nI k) (nI up) = some (V', PK', PI', r) ∧ h_carry M (nI k) (nI up) = some (M', r) ∧ Rel V' PK' PI' M' := by
  have hR0 := hR
  obtain ⟨⟨hM0, hW, hRC⟩, hGC, hGM, hHi, hPl, hO⟩ := hR0
  have h8 := hW.1.1
  have hw0 : V 4 0 0 = nI (σ 2) := hRC.2.1.1
  have e1 := c_hasIn hw0 (by omega) hk
  obtain ⟨o10, PK', M2, ek, en, ec, em, hH, hf, hCS, hMS⟩ := begin_both hR
  obtain ⟨p, ep, hp⟩ := hC _ hCS
  obtain ⟨M3, e3, hM3, hF3⟩ := hm M2 em hMS
  obtain ⟨p1, p2, p3, p4, p5, p6, p7⟩ := p
  dsimp only at hp
  refine ⟨vu (vu (vu (vu (vu (vu (vu (vu V 3 p1) 5 p2) 7 p3) 8 p4) 9 p5) 10 o10) 11 p7) 12 p6, PK', PI, M3, nI 0, ?_, ?_, ?_⟩
  · unfold g_carry f_X11_carry
    rw [e1]
    simp (maxSteps := 3000000) (disch := omega) only [↓nx_q, zb0_s, zb1_s, zb2_s, zb3_s, zb4_s, zb5_s, zb6_s, zb7_s, zb8_s, zb9_s, zb10_s, zb11_s, zb12_s, zb13_s, zb14_s, q_lit, nI_add, pk_mul, e_cl, gi_in, gz_n0, gz_n1, e_gz, si_eq, si_ne, sa_eq, sa_ne, if_true, if_false, ↓reduceIte, k_ltT, k_ltF, k_leT, k_leF, k_eqT, k_eqF, k_m1lt, k_nm1, not_true_eq_false, not_false_eq_true, ek, en, e, ep]
  · unfold h_carry
    rw [e3]
    rfl
  · refine Rel_asked (M2 := M2) hR hW' hGr (x := pst (σ, g, true) d) ?_ hM3 ?_ (fun j a b c d _ => hF3 j a b c d) hf ?_ ?_ ?_ ?_ ?_ ?_
    · simp (disch := omega) only [vu_eq, vu_ne]
      exact hp
    · simp (disch := omega) only [vu_eq, vu_ne]
      exact hH
    · simp (disch := omega) only [vu_eq, vu_ne]
    · simp (disch := omega) only [vu_eq, vu_ne]
    · simp (disch := omega) only [vu_eq, vu_ne]
      have hm : ∀ j, j = 6 ∨ j = 7 ∨ j = 13 → M3 j = M j := fun j hj => (hF3 j (by omega) (by omega) (by omega) (by omega)).trans (hf j (by omega) (by omega) (by omega))
      exact ⟨RTape_fr hO.1 (hm 6 (by omega)) (hm 7 (by omega)), by rw [hm 13 (by omega)]; exact hO.2.1⟩
    · simp (disch := omega) only [vu_eq, vu_ne]
    · simp (disch := omega) only [vu_eq, vu_ne]
    · simp (disch := omega) only [vu_eq, vu_ne]
theorem R_carry : St_carry Rel := by
  intro V PK PI M v1 v2 hR
  obtain ⟨σ, g, fc, fm, hR⟩ := hR
  have hR0 := hR
  obtain ⟨⟨hM0, hW, hRC⟩, hGC, hGM, hHi, hPl, hO⟩ := hR0
  have h8 := hW.1.1
  have h7 := hW.2.2.1
  have h3 := Wv_3 hW.1
  have hw0 : V 4 0 0 = nI (σ 2) := hRC.2.1.1
  have hs : MR (M 0) σ := fun j _ => by rw [hM0]; rfl
  have hmn := GM_new hGM
  have hM1 : (si M 21 (nI 0)) 0 = rw (jn σ σ) := by rw [si_ne (by decide), jn_self]; exact hM0
  have hlies := m_lies hM1 h8 (by omega)
  have hl := hW.1.2.2.2.1
  have hr := hW.1.2.2.1
  rcases q_rng v1 (n := σ 2) (by omega) with ⟨k, hk, rfl⟩ | ho
  · have e1 := c_hasIn hw0 (by omega) hk
    have e2 := m_isItemIn hs (by omega) hk
    have hi := hW.1.2.2.2.2.1 k hk
    have hh := c_hind hRC.2.1 hRC.2.2.1 hW.1 hk
    rcases q_rng v2 (n := 2) (by decide) with ⟨up, hu, rfl⟩ | ho2
    · have e3 : f_X12_isIn (nI up) (0 : Int32) (1 : Int32) = some 1 := by
        rw [m_isIn]
        refine congrArg some (if_pos ⟨nI_pos' (by omega), nI_le (a := up) (b := 1) (by omega) (by decide)⟩)
      by_cases hb : (σ 3).testBit k = true
      · by_cases q : up = 1
        · subst q
          refine R_carryNot hR hk (hh.1 hb).1 (by decide) (by decide) (by decide) (fun M4 e4 => ?_)
          unfold f_X12_carry
          rw [e2, e3, hmn.1]
          simp (maxSteps := 3000000) (disch := omega) only [↓nx_q, zb0_s, zb1_s, zb2_s, zb3_s, zb4_s, zb5_s, zb6_s, zb7_s, zb8_s, zb9_s, zb10_s, zb11_s, zb12_s, zb13_s, zb14_s, q_lit, nI_add, pk_mul, e_cl, gi_in, gz_n0, gz_n1, e_gz, si_eq, si_ne, sa_eq, sa_ne, if_true, if_false, ↓reduceIte, k_ltT, k_ltF, k_leT, k_leF, k_eqT, k_eqF, k_m1lt, k_nm1, not_true_eq_false, not_false_eq_true, hM0, rw_ap, upd_rw, sa_sa, jn_l, jn_r, jn_4, jn_5, jn_6, jn_ul, jn_ur, jn_u4, jn_u5, jn_u6, m_bitOf, if_pos hb, e4]
        · have : up = 0 := by omega
          subst this
          refine R_carryGo (d := (2, k, σ (8 + k))) hR hk (hh.1 hb).2 (by decide) (WF_dn hW hk hb) (Grow_mv h7 (dn_mv (by omega))) (fun g' hc => move_dn hc hW hk hb) (fun M2 em hM2 => ?_)
          obtain ⟨M3, e3', hM3, hF3⟩ := m_down hM2 (k := k) (by omega)
          refine ⟨M3, ?_, hM3, hF3⟩
          unfold f_X12_carry
          rw [e2, e3, hmn.1]
          simp (maxSteps := 3000000) (disch := omega) only [↓nx_q, zb0_s, zb1_s, zb2_s, zb3_s, zb4_s, zb5_s, zb6_s, zb7_s, zb8_s, zb9_s, zb10_s, zb11_s, zb12_s, zb13_s, zb14_s, q_lit, nI_add, pk_mul, e_cl, gi_in, gz_n0, gz_n1, e_gz, si_eq, si_ne, sa_eq, sa_ne, if_true, if_false, ↓reduceIte, k_ltT, k_ltF, k_leT, k_leF, k_eqT, k_eqF, k_m1lt, k_nm1, not_true_eq_false, not_false_eq_true, hM0, rw_ap, upd_rw, sa_sa, jn_l, jn_r, jn_4, jn_5, jn_6, jn_ul, jn_ur, jn_u4, jn_u5, jn_u6, m_bitOf, if_pos hb, em, e3']
      · by_cases q : up = 1
        · subst q
          by_cases q2 : σ 0 < liesN σ + σ (8 + k)
          · refine R_carryNot hR hk ((hh.2 hb).2.1 q2) (by decide) (by decide) (by decide) (fun M4 e4 => ?_)
            unfold f_X12_carry
            rw [e2, e3, hmn.1]
            simp (maxSteps := 3000000) (disch := omega) only [↓nx_q, zb0_s, zb1_s, zb2_s, zb3_s, zb4_s, zb5_s, zb6_s, zb7_s, zb8_s, zb9_s, zb10_s, zb11_s, zb12_s, zb13_s, zb14_s, q_lit, nI_add, pk_mul, e_cl, gi_in, gz_n0, gz_n1, e_gz, si_eq, si_ne, sa_eq, sa_ne, if_true, if_false, ↓reduceIte, k_ltT, k_ltF, k_leT, k_leF, k_eqT, k_eqF, k_m1lt, k_nm1, not_true_eq_false, not_false_eq_true, hM0, rw_ap, upd_rw, sa_sa, jn_l, jn_r, jn_4, jn_5, jn_6, jn_ul, jn_ur, jn_u4, jn_u5, jn_u6, m_bitOf, if_neg hb, e4, hlies, e_sub]
          · refine R_carryGo (d := (3, k, σ (16 + k))) hR hk ((hh.2 hb).2.2 (by omega)) (by decide) (WF_up hW hk (by simpa using hb) (by omega)) (Grow_mv h7 (up_mv (by omega))) (fun g' hc => move_up hc hW hk (by simpa using hb)) (fun M2 em hM2 => ?_)
            obtain ⟨M3, e3', hM3, hF3⟩ := m_up hM2 (k := k) (by omega) hi.1 hi.2.1.2
            refine ⟨M3, ?_, hM3, hF3⟩
            unfold f_X12_carry
            rw [e2, e3, hmn.1]
            simp (maxSteps := 3000000) (disch := omega) only [↓nx_q, zb0_s, zb1_s, zb2_s, zb3_s, zb4_s, zb5_s, zb6_s, zb7_s, zb8_s, zb9_s, zb10_s, zb11_s, zb12_s, zb13_s, zb14_s, q_lit, nI_add, pk_mul, e_cl, gi_in, gz_n0, gz_n1, e_gz, si_eq, si_ne, sa_eq, sa_ne, if_true, if_false, ↓reduceIte, k_ltT, k_ltF, k_leT, k_leF, k_eqT, k_eqF, k_m1lt, k_nm1, not_true_eq_false, not_false_eq_true, hM0, rw_ap, upd_rw, sa_sa, jn_l, jn_r, jn_4, jn_5, jn_6, jn_ul, jn_ur, jn_u4, jn_u5, jn_u6, m_bitOf, if_neg hb, em, e3', hlies, e_sub]
        · have : up = 0 := by omega
          subst this
          refine R_carryNot hR hk (hh.2 hb).1 (by decide) (by decide) (by decide) (fun M4 e4 => ?_)
          unfold f_X12_carry
          rw [e2, e3, hmn.1]
          simp (maxSteps := 3000000) (disch := omega) only [↓nx_q, zb0_s, zb1_s, zb2_s, zb3_s, zb4_s, zb5_s, zb6_s, zb7_s, zb8_s, zb9_s, zb10_s, zb11_s, zb12_s, zb13_s, zb14_s, q_lit, nI_add, pk_mul, e_cl, gi_in, gz_n0, gz_n1, e_gz, si_eq, si_ne, sa_eq, sa_ne, if_true, if_false, ↓reduceIte, k_ltT, k_ltF, k_leT, k_leF, k_eqT, k_eqF, k_m1lt, k_nm1, not_true_eq_false, not_false_eq_true, hM0, rw_ap, upd_rw, sa_sa, jn_l, jn_r, jn_4, jn_5, jn_6, jn_ul, jn_ur, jn_u4, jn_u5, jn_u6, m_bitOf, if_neg hb, e4]
    · have e3 : f_X12_isIn v2 (0 : Int32) (1 : Int32) = some 0 := by
        rw [m_isIn]
        refine congrArg some (if_neg (fun h => ?_))
        rcases ho2 with h2 | h2
        · exact absurd h2 (Int32.not_lt.mpr h.1)
        · exact absurd (Int32.le_trans h2 h.2) (by decide)
      refine ⟨V, PK, PI, M, -2, ?_, ?_, σ, g, fc, fm, hR⟩
      · unfold g_carry f_X11_carry
        rw [e1]
        rcases ho2 with h2 | h2
        · simp (maxSteps := 3000000) (disch := omega) only [↓nx_q, zb0_s, zb1_s, zb2_s, zb3_s, zb4_s, zb5_s, zb6_s, zb7_s, zb8_s, zb9_s, zb10_s, zb11_s, zb12_s, zb13_s, zb14_s, q_lit, nI_add, pk_mul, e_cl, gi_in, gz_n0, gz_n1, e_gz, si_eq, si_ne, sa_eq, sa_ne, if_true, if_false, ↓reduceIte, k_ltT, k_ltF, k_leT, k_leF, k_eqT, k_eqF, k_m1lt, k_nm1, not_true_eq_false, not_false_eq_true, eq_true (show v2 < nI 0 from h2), vu_self]
        · have n0 : ¬ v2 < nI 0 := Int32.not_lt.mpr (Int32.le_trans (show nI 0 ≤ nI 2 by decide) h2)
          have n1 : ¬ v2 ≤ nI 1 := fun h => absurd (Int32.le_trans h2 h) (by decide)
          simp (maxSteps := 3000000) (disch := omega) only [↓nx_q, zb0_s, zb1_s, zb2_s, zb3_s, zb4_s, zb5_s, zb6_s, zb7_s, zb8_s, zb9_s, zb10_s, zb11_s, zb12_s, zb13_s, zb14_s, q_lit, nI_add, pk_mul, e_cl, gi_in, gz_n0, gz_n1, e_gz, si_eq, si_ne, sa_eq, sa_ne, if_true, if_false, ↓reduceIte, k_ltT, k_ltF, k_leT, k_leF, k_eqT, k_eqF, k_m1lt, k_nm1, not_true_eq_false, not_false_eq_true, eq_false n0, eq_false n1, vu_self]
      · unfold h_carry f_X12_carry
        rw [e2, e3]
        simp (maxSteps := 3000000) (disch := omega) only [↓nx_q, zb0_s, zb1_s, zb2_s, zb3_s, zb4_s, zb5_s, zb6_s, zb7_s, zb8_s, zb9_s, zb10_s, zb11_s, zb12_s, zb13_s, zb14_s, q_lit, nI_add, pk_mul, e_cl, gi_in, gz_n0, gz_n1, e_gz, si_eq, si_ne, sa_eq, sa_ne, if_true, if_false, ↓reduceIte, k_ltT, k_ltF, k_leT, k_leF, k_eqT, k_eqF, k_m1lt, k_nm1, not_true_eq_false, not_false_eq_true]
  · have e1 := c_hasOut hw0 ho
    have e2 := m_isItemOut hs (by omega) ho
    refine ⟨V, PK, PI, M, -2, ?_, ?_, σ, g, fc, fm, hR⟩
    · unfold g_carry f_X11_carry
      rw [e1]
      simp (maxSteps := 3000000) (disch := omega) only [↓nx_q, zb0_s, zb1_s, zb2_s, zb3_s, zb4_s, zb5_s, zb6_s, zb7_s, zb8_s, zb9_s, zb10_s, zb11_s, zb12_s, zb13_s, zb14_s, q_lit, nI_add, pk_mul, e_cl, gi_in, gz_n0, gz_n1, e_gz, si_eq, si_ne, sa_eq, sa_ne, if_true, if_false, ↓reduceIte, k_ltT, k_ltF, k_leT, k_leF, k_eqT, k_eqF, k_m1lt, k_nm1, not_true_eq_false, not_false_eq_true, vu_self]
    · unfold h_carry f_X12_carry
      rw [e2]
      simp (maxSteps := 3000000) (disch := omega) only [↓nx_q, zb0_s, zb1_s, zb2_s, zb3_s, zb4_s, zb5_s, zb6_s, zb7_s, zb8_s, zb9_s, zb10_s, zb11_s, zb12_s, zb13_s, zb14_s, q_lit, nI_add, pk_mul, e_cl, gi_in, gz_n0, gz_n1, e_gz, si_eq, si_ne, sa_eq, sa_ne, if_true, if_false, ↓reduceIte, k_ltT, k_ltF, k_leT, k_leF, k_eqT, k_eqF, k_m1lt, k_nm1, not_true_eq_false, not_false_eq_true]
