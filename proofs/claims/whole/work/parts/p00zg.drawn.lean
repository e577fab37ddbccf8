def dwC (o_t_state_wares : Ob) (v1 : Int32) : Ob → Ob → Ob → Ob → Ob → Ob → Ob → Ob → Ob → Int32 → Int32 → Option ((Ob × Ob × Ob × Ob × Ob × Ob × Ob × Ob × Ob × Int32 × Int32) ⊕ (Ob × Ob × Ob × Ob × Ob × Ob × Ob × Ob × Ob × Int32)) := (fun (o48 : Ob) (o49 : Ob) (o50 : Ob) (o51 : Ob) (o52 : Ob) (o53 : Ob) (o54 : Ob) (o55 : Ob) (o56 : Ob) (k57 : Int32) (k58 : Int32) => (
  if v1 ≤ k58 then (
  some (.inr (o48, o49, o50, o51, o52, o53, o54, o55, o56, k57))
  ) else (
  zb1 (f_X4_isFull o51) fun (r71 : Int32) =>
  if r71 = 0 then (
  zb2 (f_X11_drawItem o48 o_t_state_wares) fun (o73 : Ob) (r74 : Int32) =>
  zb9 (f_X9_ask o49 o_t_state_wares o50 o51 o52 o53 o54 o56 o55 r74) fun (o76 : Ob) (o77 : Ob) (o78 : Ob) (o79 : Ob) (o80 : Ob) (o81 : Ob) (o82 : Ob) (o83 : Ob) (r84 : Int32) =>
  nx (k57 + r84) fun x86 =>
  nx (k58 + (1 : Int32)) fun x87 =>
  some (.inl (o73, o76, o77, o78, o79, o80, o81, o83, o82, x86, x87))
  ) else (
  some (.inr (o48, o49, o50, o51, o52, o53, o54, o55, o56, k57))
  )
  )
  ))
def dwM (v1 : Int32) : Ob → Int32 → Int32 → Option ((Ob × Int32 × Int32) ⊕ (Ob × Int32)) := (fun (o42 : Ob) (k43 : Int32) (k44 : Int32) => (
  if v1 ≤ k44 then (
  some (.inr (o42, k43))
  ) else (
  gi (7 : Int32) 835 <|
  if (40 : Int32) ≤ o42 0 (Int32.toNatClampNeg (7 : Int32)) then (
  some (.inr (o42, k43))
  ) else (
  zb2 (f_X12_draw o42 (3 : Int32)) fun (o50 : Ob) (r51 : Int32) =>
  nx (fun (j54 : Int32) => (
  gi (2 : Int32) 835 <|
  zb2 (f_X12_draw o50 (o50 0 (Int32.toNatClampNeg (2 : Int32)))) fun (o57 : Ob) (r58 : Int32) =>
  nx (fun (j64 : Int32) (q65 : Ob) => (
  zb2 (f_X12_logs q65 j64) fun (o67 : Ob) (r68 : Int32) =>
  nx (k43 + r68) fun x70 =>
  nx (k44 + (1 : Int32)) fun x71 =>
  some (.inl (o67, x70, x71))
  )) fun K66 =>
  if j54 = 0 then (
  zb2 (f_X12_draw o57 (r58 + (1 : Int32))) fun (o72 : Ob) (r73 : Int32) =>
  K66 r73 o72
  ) else (
  K66 r58 o57
  )
  )) fun K55 =>
  if r51 = 0 then (
  K55 (1 : Int32)
  ) else (
  K55 (0 : Int32)
  )
  )
  )
  ))
/-- the state of both within drawn() -/
def DI (t s l b0 b1 b2 g st : Ob) (w t0 : Ob) (M M0 : Ob) (σ0 σ : Nat → Nat) (x : PQ) : Prop := WF σ ∧ Grow σ0 σ ∧ CS st w s l b0 b1 b2 g σ x ∧ MS M σ x ∧ t 14 0 = M 46 0 ∧ (∀ j, j ≠ 14 → t j = t0 j) ∧ ∀ j, j ≠ 0 → j ≠ 19 → j ≠ 20 → j ≠ 21 → j ≠ 46 → M j = M0 j
theorem MS_46 {M : Ob} {σ : Nat → Nat} {x : PQ} {v : Int32} (h : MS M σ x) : MS (si M 46 v) σ x := ⟨by rw [si_ne (by decide)]; exact h.1, GM_fr h.2.1 (si_ne (by decide)) (si_ne (by decide)) (si_ne (by decide)), h.2.2⟩
theorem dw_loop {ns : Int32 → Int32} {dw : Int32 → Nat → Nat} (hD : DrS ns dw) {w t0 M0 : Ob} {σ0 : Nat → Nat} {n : Nat} (hn : n ≤ 40) (h2 : 0 < σ0 2) (h8 : σ0 2 ≤ 8) : ∀ (m i : Nat) (F : Nat) (t st s l b0 b1 b2 g d : Ob) (M : Ob) (σ : Nat → Nat) (x : PQ) (sum : Nat), i + m = n → m < F → DI t s l b0 b1 b2 g st w t0 M M0 σ0 σ x → ∃ (t' st' s' l' b0' b1' b2' g' d' : Ob) (M' : Ob) (σ' : Nat → Nat) (x' : PQ) (sum' : Nat), zl11 (dwC w (nI n)) F t st s l b0 b1 b2 g d (nI sum) (nI i) = some (t', st', s', l', b0', b1', b2', g', d', nI sum') ∧ zl3 (dwM (nI n)) F M (nI sum) (nI i) = some (M', nI sum') ∧ DI t' s' l' b0' b1' b2' g' st' w t0 M' M0 σ0 σ' x' := by
  intro m
  induction m with
  | zero =>
    intro i F t st s l b0 b1 b2 g d M σ x sum hi hF hI
    obtain ⟨F', rfl⟩ : ∃ F', F = F' + 1 := ⟨F - 1, by omega⟩
    refine ⟨t, st, s, l, b0, b1, b2, g, d, M, σ, x, sum, zl11_o ?_, zl3_o ?_, hI⟩
    · unfold dwC
      simp (maxSteps := 3000000) (disch := omega) only [↓nx_q, zb0_s, zb1_s, zb2_s, zb3_s, zb4_s, zb5_s, zb6_s, zb7_s, zb8_s, zb9_s, zb10_s, zb11_s, zb12_s, zb13_s, zb14_s, q_lit, nI_add, pk_mul, e_cl, gi_in, gz_n0, gz_n1, e_gz, si_eq, si_ne, sa_eq, sa_ne, if_true, if_false, ↓reduceIte, k_ltT, k_ltF, k_leT, k_leF, k_eqT, k_eqF, k_m1lt, k_nm1, not_true_eq_false, not_false_eq_true]
    · unfold dwM
      simp (maxSteps := 3000000) (disch := omega) only [↓nx_q, zb0_s, zb1_s, zb2_s, zb3_s, zb4_s, zb5_s, zb6_s, zb7_s, zb8_s, zb9_s, zb10_s, zb11_s, zb12_s, zb13_s, zb14_s, q_lit, nI_add, pk_mul, e_cl, gi_in, gz_n0, gz_n1, e_gz, si_eq, si_ne, sa_eq, sa_ne, if_true, if_false, ↓reduceIte, k_ltT, k_ltF, k_leT, k_leF, k_eqT, k_eqF, k_m1lt, k_nm1, not_true_eq_false, not_false_eq_true]
  | succ m ih =>
    intro i F t st s l b0 b1 b2 g d M σ x sum hi hF hI
    obtain ⟨F', rfl⟩ : ∃ F', F = F' + 1 := ⟨F - 1, by omega⟩
    have hI0 := hI
    obtain ⟨hW, hG, hC, hM, hs, ht, hf⟩ := hI0
    have l0 : l 0 0 = nI (σ 7) := hC.2.2.2.2.1
    have h7 := hW.2.2.1
    have hM0 := hM.1
    by_cases q : σ 7 = 40
    · refine ⟨t, st, s, l, b0, b1, b2, g, d, M, σ, x, sum, zl11_o ?_, zl3_o ?_, hI⟩
      · unfold dwC f_X4_isFull
        simp (maxSteps := 3000000) (disch := omega) only [↓nx_q, zb0_s, zb1_s, zb2_s, zb3_s, zb4_s, zb5_s, zb6_s, zb7_s, zb8_s, zb9_s, zb10_s, zb11_s, zb12_s, zb13_s, zb14_s, q_lit, nI_add, pk_mul, e_cl, gi_in, gz_n0, gz_n1, e_gz, si_eq, si_ne, sa_eq, sa_ne, if_true, if_false, ↓reduceIte, k_ltT, k_ltF, k_leT, k_leF, k_eqT, k_eqF, k_m1lt, k_nm1, not_true_eq_false, not_false_eq_true, l0]
      · unfold dwM
        simp (maxSteps := 3000000) (disch := omega) only [↓nx_q, zb0_s, zb1_s, zb2_s, zb3_s, zb4_s, zb5_s, zb6_s, zb7_s, zb8_s, zb9_s, zb10_s, zb11_s, zb12_s, zb13_s, zb14_s, q_lit, nI_add, pk_mul, e_cl, gi_in, gz_n0, gz_n1, e_gz, si_eq, si_ne, sa_eq, sa_ne, if_true, if_false, ↓reduceIte, k_ltT, k_ltF, k_leT, k_leF, k_eqT, k_eqF, k_m1lt, k_nm1, not_true_eq_false, not_false_eq_true, hM0, rw_ap, upd_rw, sa_sa, jn_l, jn_r, jn_4, jn_5, jn_6, jn_ul, jn_ur, jn_u4, jn_u5, jn_u6]
    · have e2 : σ 2 = σ0 2 := hG.2.1 2 (by omega)
      have w0 : w 0 0 = nI (σ 2) := hC.2.2.1.1
      obtain ⟨t1, et, es1, ef1⟩ := c_drawItem hD (o := t) w0 (by omega) (by omega)
      have hk := di_lt hD (t 14 0) (n := σ 2) (by omega)
      obtain ⟨σ', D, v, hW', hGr, h7', hv, hCa, hMa⟩ := ask_both hW (by omega) hk
      obtain ⟨p, ep, hp⟩ := hCa st w s l b0 b1 b2 d g x hC
      obtain ⟨p1, p2, p3, p4, p5, p6, p7, p8, p9⟩ := p
      dsimp only at hp
      obtain ⟨hp, rfl⟩ := hp
      -- the model's draws
      have d3 := hD.2.2 M 3 (by decide) (by decide)
      have dn := hD.2.2 (si M 46 (ns (M 46 0))) (σ 2) (by omega) (by omega)
      rw [si_eq] at dn
      have hkb := hD.1 (ns (ns (M 46 0))) (σ 2) (by omega)
      have dk := hD.2.2 (si (si M 46 (ns (M 46 0))) 46 (ns (ns (M 46 0)))) (dw (ns (ns (M 46 0))) (σ 2) + 1) (by omega) (by omega)
      rw [si_eq] at dk
      have h3 := hD.1 (ns (M 46 0)) 3 (by decide)
      obtain ⟨M1, em, hM1, hs1, hf1⟩ : ∃ M1, dwM (nI n) M (nI sum) (nI i) = (zb2 (f_X12_logs M1 (nI (diK ns dw (M 46 0) (σ 2)))) fun o67 r68 => some (.inl (o67, nI sum + r68, nI (i + 1)))) ∧ MS M1 σ x ∧ M1 46 0 = diS ns dw (M 46 0) ∧ ∀ j, j ≠ 46 → M1 j = M j := by
        unfold dwM diK diS
        by_cases qa : dw (ns (M 46 0)) 3 = 0
        · rw [if_pos qa, if_pos qa]
          refine ⟨si (si M 46 (ns (M 46 0))) 46 (ns (ns (M 46 0))), ?_, MS_46 (MS_46 hM), si_eq _ _ _ _, fun j hj => by rw [si_ne hj, si_ne hj]⟩
          simp (maxSteps := 3000000) (disch := omega) only [↓nx_q, zb0_s, zb1_s, zb2_s, zb3_s, zb4_s, zb5_s, zb6_s, zb7_s, zb8_s, zb9_s, zb10_s, zb11_s, zb12_s, zb13_s, zb14_s, q_lit, nI_add, pk_mul, e_cl, gi_in, gz_n0, gz_n1, e_gz, si_eq, si_ne, sa_eq, sa_ne, if_true, if_false, ↓reduceIte, k_ltT, k_ltF, k_leT, k_leF, k_eqT, k_eqF, k_m1lt, k_nm1, not_true_eq_false, not_false_eq_true, hM0, rw_ap, upd_rw, sa_sa, jn_l, jn_r, jn_4, jn_5, jn_6, jn_ul, jn_ur, jn_u4, jn_u5, jn_u6, d3, dn]
        · rw [if_neg qa, if_neg qa]
          refine ⟨si (si (si M 46 (ns (M 46 0))) 46 (ns (ns (M 46 0)))) 46 (ns (ns (ns (M 46 0)))), ?_, MS_46 (MS_46 (MS_46 hM)), si_eq _ _ _ _, fun j hj => by rw [si_ne hj, si_ne hj, si_ne hj]⟩
          simp (maxSteps := 3000000) (disch := omega) only [↓nx_q, zb0_s, zb1_s, zb2_s, zb3_s, zb4_s, zb5_s, zb6_s, zb7_s, zb8_s, zb9_s, zb10_s, zb11_s, zb12_s, zb13_s, zb14_s, q_lit, nI_add, pk_mul, e_cl, gi_in, gz_n0, gz_n1, e_gz, si_eq, si_ne, sa_eq, sa_ne, if_true, if_false, ↓reduceIte, k_ltT, k_ltF, k_leT, k_leF, k_eqT, k_eqF, k_m1lt, k_nm1, not_true_eq_false, not_false_eq_true, hM0, rw_ap, upd_rw, sa_sa, jn_l, jn_r, jn_4, jn_5, jn_6, jn_ul, jn_ur, jn_u4, jn_u5, jn_u6, d3, dn, dk]
      obtain ⟨y, ey, hy1, hy2, hy3⟩ := hMa M1 x hM1
      obtain ⟨M2, r2⟩ := y
      dsimp only at hy1 hy2 hy3
      subst hy3
      rw [← hs, ey, zb2_s, nI_add] at em
      have ec : dwC w (nI n) t st s l b0 b1 b2 g d (nI sum) (nI i) = some (.inl (t1, p1, p2, p3, p4, p5, p6, p8, p7, nI (sum + v), nI (i + 1))) := by
        unfold dwC f_X4_isFull
        simp (maxSteps := 3000000) (disch := omega) only [↓nx_q, zb0_s, zb1_s, zb2_s, zb3_s, zb4_s, zb5_s, zb6_s, zb7_s, zb8_s, zb9_s, zb10_s, zb11_s, zb12_s, zb13_s, zb14_s, q_lit, nI_add, pk_mul, e_cl, gi_in, gz_n0, gz_n1, e_gz, si_eq, si_ne, sa_eq, sa_ne, if_true, if_false, ↓reduceIte, k_ltT, k_ltF, k_leT, k_leF, k_eqT, k_eqF, k_m1lt, k_nm1, not_true_eq_false, not_false_eq_true, l0, et, ep]
      have hIn : DI t1 p2 p3 p4 p5 p6 p8 p1 w t0 M2 M0 σ0 σ' (D.foldl pst x) := by
        refine ⟨hW', Grow_trans hG hGr, hp, hy1, ?_, fun j hj => by rw [ef1 j hj, ht j hj], fun j a b c d e => by rw [hy2 j a b c d, hf1 j e, hf j a b c d e]⟩
        rw [es1, hy2 46 (by decide) (by decide) (by decide) (by decide), hs1, hs]
      obtain ⟨t', st', s', l', b0', b1', b2', g', d', M', σ'', x', sum', r1, r2, r3⟩ := ih (i + 1) F' t1 p1 p2 p3 p4 p5 p6 p8 p7 M2 σ' (D.foldl pst x) (sum + v) (by omega) (by omega) hIn
      exact ⟨t', st', s', l', b0', b1', b2', g', d', M', σ'', x', sum', (zl11_i ec).trans r1, (zl3_i em).trans r2, r3⟩
theorem R_drawn : St_drawn Rel := by
  intro V PK PI M v1 v2 hR
  obtain ⟨σ, g, fc, fm, hR⟩ := hR
  have hR0 := hR
  obtain ⟨⟨hM0, hW, hRC⟩, hGC, hGM, hHi, hPl, hO⟩ := hR0
  have h8 := hW.1.1
  have w0 : V 4 0 0 = nI (σ 2) := hRC.2.1.1
  have same : f_X11_drawn (V 0) (V 3) (V 4) (V 5) (V 6) (V 7) (V 8) (V 9) (V 10) (V 11) (V 12) PK v1 v2 = some (V 0, V 3, V 5, V 6, V 7, V 8, V 9, V 10, V 11, V 12, PK, -1) → f_X12_drawn M v1 v2 = some (M, -1) → ∃ (V' : Nat → Ob) (PK' PI' : PV) (M' : Ob) (r : Int32), g_drawn V PK PI v1 v2 = some (V', PK', PI', r) ∧ h_drawn M v1 v2 = some (M', r) ∧ Rel V' PK' PI' M' := by
    intro e1 e2
    refine ⟨V, PK, PI, M, -1, ?_, ?_, σ, g, fc, fm, hR⟩
    · unfold g_drawn
      rw [zb12_of e1]
      simp only [vu_self]
    · unfold h_drawn
      rw [zb2_of e2]
  rcases q_rng v1 (n := 41) (by decide) with ⟨k, hk, rfl⟩ | ho
  · have e1 := m_isInN (a := 1) (b := 40) (k := k) (by omega) (by decide) (by decide)
    by_cases q0 : k = 0
    · subst q0
      rw [if_neg (by omega)] at e1
      refine same ?_ ?_
      · unfold f_X11_drawn
        simp (maxSteps := 3000000) (disch := omega) only [↓nx_q, zb0_s, zb1_s, zb2_s, zb3_s, zb4_s, zb5_s, zb6_s, zb7_s, zb8_s, zb9_s, zb10_s, zb11_s, zb12_s, zb13_s, zb14_s, q_lit, nI_add, pk_mul, e_cl, gi_in, gz_n0, gz_n1, e_gz, si_eq, si_ne, sa_eq, sa_ne, if_true, if_false, ↓reduceIte, k_ltT, k_ltF, k_leT, k_leF, k_eqT, k_eqF, k_m1lt, k_nm1, not_true_eq_false, not_false_eq_true]
      · unfold f_X12_drawn
        simp (maxSteps := 3000000) (disch := omega) only [↓nx_q, zb0_s, zb1_s, zb2_s, zb3_s, zb4_s, zb5_s, zb6_s, zb7_s, zb8_s, zb9_s, zb10_s, zb11_s, zb12_s, zb13_s, zb14_s, q_lit, nI_add, pk_mul, e_cl, gi_in, gz_n0, gz_n1, e_gz, si_eq, si_ne, sa_eq, sa_ne, if_true, if_false, ↓reduceIte, k_ltT, k_ltF, k_leT, k_leF, k_eqT, k_eqF, k_m1lt, k_nm1, not_true_eq_false, not_false_eq_true, e1]
    · rw [if_pos (by omega)] at e1
      by_cases q2 : σ 2 = 0
      · refine same ?_ ?_
        · unfold f_X11_drawn
          simp (maxSteps := 3000000) (disch := omega) only [↓nx_q, zb0_s, zb1_s, zb2_s, zb3_s, zb4_s, zb5_s, zb6_s, zb7_s, zb8_s, zb9_s, zb10_s, zb11_s, zb12_s, zb13_s, zb14_s, q_lit, nI_add, pk_mul, e_cl, gi_in, gz_n0, gz_n1, e_gz, si_eq, si_ne, sa_eq, sa_ne, if_true, if_false, ↓reduceIte, k_ltT, k_ltF, k_leT, k_leF, k_eqT, k_eqF, k_m1lt, k_nm1, not_true_eq_false, not_false_eq_true, w0, q2]
        · unfold f_X12_drawn
          simp (maxSteps := 3000000) (disch := omega) only [↓nx_q, zb0_s, zb1_s, zb2_s, zb3_s, zb4_s, zb5_s, zb6_s, zb7_s, zb8_s, zb9_s, zb10_s, zb11_s, zb12_s, zb13_s, zb14_s, q_lit, nI_add, pk_mul, e_cl, gi_in, gz_n0, gz_n1, e_gz, si_eq, si_ne, sa_eq, sa_ne, if_true, if_false, ↓reduceIte, k_ltT, k_ltF, k_leT, k_leF, k_eqT, k_eqF, k_m1lt, k_nm1, not_true_eq_false, not_false_eq_true, e1, hM0, rw_ap, upd_rw, sa_sa, jn_l, jn_r, jn_4, jn_5, jn_6, jn_ul, jn_ur, jn_u4, jn_u5, jn_u6, q2]
      · obtain ⟨ns, dw, hD⟩ := draw_ex
        obtain ⟨o10, PK', M2, ek, en, ec, em, hH, hf, hC, hM⟩ := begin_both hR
        have hI : DI (si (V 0) 14 v2) (V 5) (V 6) (V 7) (V 8) (V 9) (si (V 11) 2 (nI 1)) (V 3) (V 4) (V 0) (si M2 46 v2) M2 σ σ (σ, g, true) := ⟨hW, Grow_refl σ, hC, MS_46 hM, by rw [si_eq, si_eq], fun j hj => si_ne hj, fun j _ _ _ _ h => si_ne h⟩
        obtain ⟨t', st', s', l', b0', b1', b2', g', d', M', σ', x', sum', r1, r2, hI'⟩ := dw_loop hD (w := V 4) (n := k) (by omega) (by omega) h8 k 0 FU _ _ _ _ _ _ _ _ (V 12) _ _ _ 0 (by omega) (show k < 20000 by omega) hI
        obtain ⟨hW', hG', hC', hM', hs', ht', hf'⟩ := hI'
        refine ⟨vu (vu (vu (vu (vu (vu (vu (vu (vu (vu V 0 t') 3 st') 5 s') 6 l') 7 b0') 8 b1') 9 b2') 10 o10) 11 g') 12 d', PK', PI, M', nI sum', ?_, ?_, ?_⟩
        · unfold g_drawn
          refine zb12_of ?_
          unfold f_X11_drawn
          rw [if_neg (show ¬ nI k < (1 : Int32) from nI_nlt (b := 1) (by omega) (by omega)), if_neg (show ¬ (40 : Int32) < nI k from nI_nlt (a := 40) (by omega) (by decide)), w0, if_neg (show ¬ nI (σ 2) = 0 from nI_ne0 (by omega) (by omega)), zb2_of ek, zb1_of en, nx_eq]
          exact zb10_of r1
        · unfold h_drawn
          refine zb2_of ?_
          unfold f_X12_drawn
          rw [show f_X12_isIn (nI k) (1 : Int32) (40 : Int32) = some (nI 1) from e1, zb1_s, if_neg (show ¬ nI 1 = 0 by decide), show (2 : Int32) = nI 2 from rfl, gi_in (by decide) (by decide), e_cl (by decide), hM0, rw_ap, if_neg (show ¬ nI (σ 2) = 0 from nI_ne0 (by omega) (by omega)), zb1_of ec, zb1_of em, nx_eq]
          exact zb2_of r2
        · have hfm : ∀ j, j ≠ 0 → j ≠ 19 → j ≠ 20 → j ≠ 21 → j ≠ 46 → M' j = M2 j := hf'
          refine Rel_asked (M2 := M2) (M3 := M') hR hW' hG' (x := x') ?_ hM' ?_ hfm hf ?_ ?_ ?_ ?_ ?_ ?_
          · simp (disch := omega) only [vu_eq, vu_ne]
            exact hC'
          · simp (disch := omega) only [vu_eq, vu_ne]
            exact hH
          · simp (disch := omega) only [vu_eq, vu_ne]
            exact ht' 13 (by decide)
          · simp (disch := omega) only [vu_eq, vu_ne]
            exact ht' 12 (by decide)
          · simp (disch := omega) only [vu_eq, vu_ne]
            have hm : ∀ j, j = 6 ∨ j = 7 ∨ j = 13 → M' j = M j := fun j hj => (hfm j (by omega) (by omega) (by omega) (by omega) (by omega)).trans (hf j (by omega) (by omega) (by omega))
            exact ⟨RTape_fr hO.1 (hm 6 (by omega)) (hm 7 (by omega)), by rw [hm 13 (by omega)]; exact hO.2.1⟩
          · simp (disch := omega) only [vu_eq, vu_ne]
          · simp (disch := omega) only [vu_eq, vu_ne]
          · simp (disch := omega) only [vu_eq, vu_ne]
  · have e1 := m_isInO (a := 1) (b := 40) (by decide) ho (by decide)
    refine same ?_ ?_
    · unfold f_X11_drawn
      rcases ho with h | h
      · simp (maxSteps := 3000000) (disch := omega) only [↓nx_q, zb0_s, zb1_s, zb2_s, zb3_s, zb4_s, zb5_s, zb6_s, zb7_s, zb8_s, zb9_s, zb10_s, zb11_s, zb12_s, zb13_s, zb14_s, q_lit, nI_add, pk_mul, e_cl, gi_in, gz_n0, gz_n1, e_gz, si_eq, si_ne, sa_eq, sa_ne, if_true, if_false, ↓reduceIte, k_ltT, k_ltF, k_leT, k_leF, k_eqT, k_eqF, k_m1lt, k_nm1, not_true_eq_false, not_false_eq_true, (o_neg2 h).1]
      · have := o_big2 (b := 40) (by decide) h
        simp (maxSteps := 3000000) (disch := omega) only [↓nx_q, zb0_s, zb1_s, zb2_s, zb3_s, zb4_s, zb5_s, zb6_s, zb7_s, zb8_s, zb9_s, zb10_s, zb11_s, zb12_s, zb13_s, zb14_s, q_lit, nI_add, pk_mul, e_cl, gi_in, gz_n0, gz_n1, e_gz, si_eq, si_ne, sa_eq, sa_ne, if_true, if_false, ↓reduceIte, k_ltT, k_ltF, k_leT, k_leF, k_eqT, k_eqF, k_m1lt, k_nm1, not_true_eq_false, not_false_eq_true, this.1, this.2.1]
    · unfold f_X12_drawn
      simp (maxSteps := 3000000) (disch := omega) only [↓nx_q, zb0_s, zb1_s, zb2_s, zb3_s, zb4_s, zb5_s, zb6_s, zb7_s, zb8_s, zb9_s, zb10_s, zb11_s, zb12_s, zb13_s, zb14_s, q_lit, nI_add, pk_mul, e_cl, gi_in, gz_n0, gz_n1, e_gz, si_eq, si_ne, sa_eq, sa_ne, if_true, if_false, ↓reduceIte, k_ltT, k_ltF, k_leT, k_leF, k_eqT, k_eqF, k_m1lt, k_nm1, not_true_eq_false, not_false_eq_true, e1]
