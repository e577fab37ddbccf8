/-- which rule, both -/
theorem rule_word {o M : Ob} {t : Nat → Nat} {n a x k : Nat} (h : TS o M t n a x k) : ∃ r : Nat, r ≤ 3 ∧ ((r = 0 ∧ f_X6_says__3 o = some (nI 1)) ∨ (r = 1 ∧ f_X6_says__3 o = some (nI 0) ∧ f_X6_says__4 o = some (nI 1)) ∨ (r = 2 ∧ f_X6_says__3 o = some (nI 0) ∧ f_X6_says__4 o = some (nI 0) ∧ f_X6_says__5 o = some (nI 1)) ∨ (r = 3 ∧ f_X6_says__3 o = some (nI 0) ∧ f_X6_says__4 o = some (nI 0) ∧ f_X6_says__5 o = some (nI 0))) ∧ (∀ B : Int32 → Option (Int32 ⊕ Int32), (∀ k11, B k11 = (
  if (7 : Int32) ≤ k11 then (
  some (.inr k11)
  ) else (
  zb1 (f_X12_isKnown M k11) fun (r24 : Int32) =>
  if r24 = 0 then (
  nx (k11 + (1 : Int32)) fun x26 =>
  some (.inl x26)
  ) else (
  some (.inr k11)
  )
  ))) → zl1 B FU (nI 4) = some (nI (4 + r))) := by
  have w3 := word0 h 3 4 4 (by decide)
  have w4 := word0 h 4 5 4 (by decide)
  have w5 := word0 h 5 6 4 (by decide)
  obtain ⟨a1, a2, a3, a4, a5, a6, a7⟩ := h
  have s3 := c_says3 a1 a3.2.1 a3.2.2 a4 a3.1
  have s4 := c_says4 a1 a3.2.1 a3.2.2 a4 a3.1
  have s5 := c_says5 a1 a3.2.1 a3.2.2 a4 a3.1
  have lp : ∀ (r : Nat) (B : Int32 → Option (Int32 ⊕ Int32)), r ≤ 3 → (∀ i, i < r → B (nI (4 + i)) = some (.inl (nI (4 + (i + 1))))) → B (nI (4 + r)) = some (.inr (nI (4 + r))) → zl1 B FU (nI 4) = some (nI (4 + r)) := fun r B hr h1 h2 => zl1_fo (fun i => nI (4 + i)) r _ (fu_lt (by omega)) rfl h1 h2
  by_cases q3 : WdP t a x k 3 4
  · have s3 := s3.1 q3
    have w3 := w3.1 q3
    refine ⟨0, by decide, Or.inl ⟨rfl, s3⟩, fun B hB => lp 0 B (by decide) (fun i hi => absurd hi (Nat.not_lt_zero _)) ?_⟩
    · rw [hB]; simp (maxSteps := 3000000) (disch := omega) only [↓nx_q, zb0_s, zb1_s, zb2_s, zb3_s, zb4_s, zb5_s, zb6_s, zb7_s, zb8_s, zb9_s, zb10_s, zb11_s, zb12_s, zb13_s, zb14_s, q_lit, nI_add, pk_mul, e_cl, gi_in, gz_n0, gz_n1, e_gz, si_eq, si_ne, sa_eq, sa_ne, if_true, if_false, ↓reduceIte, k_ltT, k_ltF, k_leT, k_leF, k_eqT, k_eqF, k_m1lt, k_nm1, not_true_eq_false, not_false_eq_true, w3]
  · have s3 := s3.2 q3
    have w3 := w3.2 q3
    by_cases q4 : WdP t a x k 4 4
    · have s4 := s4.1 q4
      have w4 := w4.1 q4
      refine ⟨1, by decide, Or.inr (Or.inl ⟨rfl, s3, s4⟩), fun B hB => lp 1 B (by decide) (fun i hi => ?_) ?_⟩
      · have e : i = 0 := by omega
        subst e
        rw [hB]; simp (maxSteps := 3000000) (disch := omega) only [↓nx_q, zb0_s, zb1_s, zb2_s, zb3_s, zb4_s, zb5_s, zb6_s, zb7_s, zb8_s, zb9_s, zb10_s, zb11_s, zb12_s, zb13_s, zb14_s, q_lit, nI_add, pk_mul, e_cl, gi_in, gz_n0, gz_n1, e_gz, si_eq, si_ne, sa_eq, sa_ne, if_true, if_false, ↓reduceIte, k_ltT, k_ltF, k_leT, k_leF, k_eqT, k_eqF, k_m1lt, k_nm1, not_true_eq_false, not_false_eq_true, w3]
      · rw [hB]; simp (maxSteps := 3000000) (disch := omega) only [↓nx_q, zb0_s, zb1_s, zb2_s, zb3_s, zb4_s, zb5_s, zb6_s, zb7_s, zb8_s, zb9_s, zb10_s, zb11_s, zb12_s, zb13_s, zb14_s, q_lit, nI_add, pk_mul, e_cl, gi_in, gz_n0, gz_n1, e_gz, si_eq, si_ne, sa_eq, sa_ne, if_true, if_false, ↓reduceIte, k_ltT, k_ltF, k_leT, k_leF, k_eqT, k_eqF, k_m1lt, k_nm1, not_true_eq_false, not_false_eq_true, w4]
    · have s4 := s4.2 q4
      have w4 := w4.2 q4
      by_cases q5 : WdP t a x k 5 4
      · have s5 := s5.1 q5
        have w5 := w5.1 q5
        refine ⟨2, by decide, Or.inr (Or.inr (Or.inl ⟨rfl, s3, s4, s5⟩)), fun B hB => lp 2 B (by decide) (fun i hi => ?_) ?_⟩
        · have e : i = 0 ∨ i = 1 := by omega
          rcases e with e | e <;> subst e
          · rw [hB]; simp (maxSteps := 3000000) (disch := omega) only [↓nx_q, zb0_s, zb1_s, zb2_s, zb3_s, zb4_s, zb5_s, zb6_s, zb7_s, zb8_s, zb9_s, zb10_s, zb11_s, zb12_s, zb13_s, zb14_s, q_lit, nI_add, pk_mul, e_cl, gi_in, gz_n0, gz_n1, e_gz, si_eq, si_ne, sa_eq, sa_ne, if_true, if_false, ↓reduceIte, k_ltT, k_ltF, k_leT, k_leF, k_eqT, k_eqF, k_m1lt, k_nm1, not_true_eq_false, not_false_eq_true, w3]
          · rw [hB]; simp (maxSteps := 3000000) (disch := omega) only [↓nx_q, zb0_s, zb1_s, zb2_s, zb3_s, zb4_s, zb5_s, zb6_s, zb7_s, zb8_s, zb9_s, zb10_s, zb11_s, zb12_s, zb13_s, zb14_s, q_lit, nI_add, pk_mul, e_cl, gi_in, gz_n0, gz_n1, e_gz, si_eq, si_ne, sa_eq, sa_ne, if_true, if_false, ↓reduceIte, k_ltT, k_ltF, k_leT, k_leF, k_eqT, k_eqF, k_m1lt, k_nm1, not_true_eq_false, not_false_eq_true, w4]
        · rw [hB]; simp (maxSteps := 3000000) (disch := omega) only [↓nx_q, zb0_s, zb1_s, zb2_s, zb3_s, zb4_s, zb5_s, zb6_s, zb7_s, zb8_s, zb9_s, zb10_s, zb11_s, zb12_s, zb13_s, zb14_s, q_lit, nI_add, pk_mul, e_cl, gi_in, gz_n0, gz_n1, e_gz, si_eq, si_ne, sa_eq, sa_ne, if_true, if_false, ↓reduceIte, k_ltT, k_ltF, k_leT, k_leF, k_eqT, k_eqF, k_m1lt, k_nm1, not_true_eq_false, not_false_eq_true, w5]
      · have s5 := s5.2 q5
        have w5 := w5.2 q5
        refine ⟨3, by decide, Or.inr (Or.inr (Or.inr ⟨rfl, s3, s4, s5⟩)), fun B hB => lp 3 B (by decide) (fun i hi => ?_) ?_⟩
        · have e : i = 0 ∨ i = 1 ∨ i = 2 := by omega
          rcases e with e | e | e <;> subst e
          · rw [hB]; simp (maxSteps := 3000000) (disch := omega) only [↓nx_q, zb0_s, zb1_s, zb2_s, zb3_s, zb4_s, zb5_s, zb6_s, zb7_s, zb8_s, zb9_s, zb10_s, zb11_s, zb12_s, zb13_s, zb14_s, q_lit, nI_add, pk_mul, e_cl, gi_in, gz_n0, gz_n1, e_gz, si_eq, si_ne, sa_eq, sa_ne, if_true, if_false, ↓reduceIte, k_ltT, k_ltF, k_leT, k_leF, k_eqT, k_eqF, k_m1lt, k_nm1, not_true_eq_false, not_false_eq_true, w3]
          · rw [hB]; simp (maxSteps := 3000000) (disch := omega) only [↓nx_q, zb0_s, zb1_s, zb2_s, zb3_s, zb4_s, zb5_s, zb6_s, zb7_s, zb8_s, zb9_s, zb10_s, zb11_s, zb12_s, zb13_s, zb14_s, q_lit, nI_add, pk_mul, e_cl, gi_in, gz_n0, gz_n1, e_gz, si_eq, si_ne, sa_eq, sa_ne, if_true, if_false, ↓reduceIte, k_ltT, k_ltF, k_leT, k_leF, k_eqT, k_eqF, k_m1lt, k_nm1, not_true_eq_false, not_false_eq_true, w4]
          · rw [hB]; simp (maxSteps := 3000000) (disch := omega) only [↓nx_q, zb0_s, zb1_s, zb2_s, zb3_s, zb4_s, zb5_s, zb6_s, zb7_s, zb8_s, zb9_s, zb10_s, zb11_s, zb12_s, zb13_s, zb14_s, q_lit, nI_add, pk_mul, e_cl, gi_in, gz_n0, gz_n1, e_gz, si_eq, si_ne, sa_eq, sa_ne, if_true, if_false, ↓reduceIte, k_ltT, k_ltF, k_leT, k_leF, k_eqT, k_eqF, k_m1lt, k_nm1, not_true_eq_false, not_false_eq_true, w5]
        · rw [hB]; simp (maxSteps := 3000000) (disch := omega) only [↓nx_q, zb0_s, zb1_s, zb2_s, zb3_s, zb4_s, zb5_s, zb6_s, zb7_s, zb8_s, zb9_s, zb10_s, zb11_s, zb12_s, zb13_s, zb14_s, q_lit, nI_add, pk_mul, e_cl, gi_in, gz_n0, gz_n1, e_gz, si_eq, si_ne, sa_eq, sa_ne, if_true, if_false, ↓reduceIte, k_ltT, k_ltF, k_leT, k_leF, k_eqT, k_eqF, k_m1lt, k_nm1, not_true_eq_false, not_false_eq_true]
theorem rule_both {o d M : Ob} {τ t : Nat → Nat} {n a x k : Nat} (h : TS o M t n a x k) (hD : DR o d M τ) : (∃ o' M' τ' a' x' k', f_X6_readRule o = some (o', nI 1) ∧ f_X12_ruleLine M = some (M', nI 1) ∧ TS o' M' t n a' x' k' ∧ DR o' d M' τ' ∧ x ≤ a' ∧ FrL M M') ∨ (∃ o' M', f_X6_readRule o = some (o', nI 0) ∧ f_X12_ruleLine M = some (M', nI 0) ∧ LFt M o' M') := by
  have hD0 := hD
  obtain ⟨a1, a2, a3, a4, a5, a6, a7, a8, b6, ⟨b, hb, b7, b18⟩, b2, b3⟩ := hD
  by_cases q : b = 0
  · subst q
    have h1 : TS (si o 7 (nI 1)) (si M 18 (nI 1)) t n a x k := by
      refine TS_fr h ?_ ?_ ?_ ?_ ?_ ?_ ?_ ?_ ?_ ?_ ?_ ?_ ?_ ?_ <;> simp (disch := omega) only [si_eq, si_ne, sa_eq, sa_ne, upd_eq, upd_ne, updN_eq, updN_ne]
    obtain ⟨o2, M2, a', x', k', e1, e2, f1, f2, hx, h2⟩ := adv_both h1
    have fr2 : FrL M M2 := FrL_tr (M' := si M 18 (nI 1)) (fun j a b c d e f k l m n p => by simp (disch := omega) only [si_eq, si_ne, sa_eq, sa_ne, upd_eq, upd_ne, updN_eq, updN_ne]) (FrN_L f2)
    obtain ⟨r, hr, ec, em⟩ := rule_word h2
    have z1 : ∀ {β : Type} {f : Ob → Option β}, zb1 (f_X6_advance (si o 7 (nI 1))) f = f o2 := fun {_ _} => zb1_of e1
    by_cases qr : r = 3
    · have h2' : TS (si o2 5 (-nI 1)) M2 t n a' x' k' := by
        refine TS_fr h2 ?_ ?_ ?_ ?_ ?_ ?_ rfl rfl rfl rfl rfl rfl rfl rfl <;> simp (disch := omega) only [si_eq, si_ne, sa_eq, sa_ne, upd_eq, upd_ne, updN_eq, updN_ne]
      have ec3 : f_X6_says__3 o2 = some (nI 0) ∧ f_X6_says__4 o2 = some (nI 0) ∧ f_X6_says__5 o2 = some (nI 0) := by
        rcases ec with ⟨e, _⟩ | ⟨e, _⟩ | ⟨e, _⟩ | ⟨_, e⟩
        · omega
        · omega
        · omega
        · exact e
      subst qr
      refine Or.inr ⟨FtC (si o2 5 (-nI 1)) 1, FtM M2 1, ?_, ?_, lft h2' ⟨by decide, by decide⟩ fr2⟩
      · unfold f_X6_readRule
        simp (maxSteps := 3000000) (disch := omega) only [↓nx_q, zb0_s, zb1_s, zb2_s, zb3_s, zb4_s, zb5_s, zb6_s, zb7_s, zb8_s, zb9_s, zb10_s, zb11_s, zb12_s, zb13_s, zb14_s, q_lit, nI_add, pk_mul, e_cl, gi_in, gz_n0, gz_n1, e_gz, si_eq, si_ne, sa_eq, sa_ne, if_true, if_false, ↓reduceIte, k_ltT, k_ltF, k_leT, k_leF, k_eqT, k_eqF, k_m1lt, k_nm1, not_true_eq_false, not_false_eq_true, b7, e1, ec3.1, ec3.2.1, ec3.2.2, c_fail]
      · unfold f_X12_ruleLine
        simp (maxSteps := 3000000) (disch := omega) only [↓nx_q, zb0_s, zb1_s, zb2_s, zb3_s, zb4_s, zb5_s, zb6_s, zb7_s, zb8_s, zb9_s, zb10_s, zb11_s, zb12_s, zb13_s, zb14_s, q_lit, nI_add, pk_mul, e_cl, gi_in, gz_n0, gz_n1, e_gz, si_eq, si_ne, sa_eq, sa_ne, if_true, if_false, ↓reduceIte, k_ltT, k_ltF, k_leT, k_leF, k_eqT, k_eqF, k_m1lt, k_nm1, not_true_eq_false, not_false_eq_true, b18, e2]
        rw [zb1_of (em _ (fun k => by simp (maxSteps := 3000000) (disch := omega) only [↓nx_q, zb0_s, zb1_s, zb2_s, zb3_s, zb4_s, zb5_s, zb6_s, zb7_s, zb8_s, zb9_s, zb10_s, zb11_s, zb12_s, zb13_s, zb14_s, q_lit, nI_add, pk_mul, e_cl, gi_in, gz_n0, gz_n1, e_gz, si_eq, si_ne, sa_eq, sa_ne, if_true, if_false, ↓reduceIte, k_ltT, k_ltF, k_leT, k_leF, k_eqT, k_eqF, k_m1lt, k_nm1, not_true_eq_false, not_false_eq_true]))]
        simp (maxSteps := 3000000) (disch := omega) only [↓nx_q, zb0_s, zb1_s, zb2_s, zb3_s, zb4_s, zb5_s, zb6_s, zb7_s, zb8_s, zb9_s, zb10_s, zb11_s, zb12_s, zb13_s, zb14_s, q_lit, nI_add, pk_mul, e_cl, gi_in, gz_n0, gz_n1, e_gz, si_eq, si_ne, sa_eq, sa_ne, if_true, if_false, ↓reduceIte, k_ltT, k_ltF, k_leT, k_leF, k_eqT, k_eqF, k_m1lt, k_nm1, not_true_eq_false, not_false_eq_true, m_badHere]
    · have hne : (nI r = -nI 1) = False := k_nm1 (by omega)
      have h2' : TS (si o2 5 (nI r)) (sa M2 3 (upd (M2 3) 1 (nI r))) t n a' x' k' := by
        refine TS_fr h2 ?_ ?_ ?_ ?_ ?_ ?_ ?_ ?_ ?_ ?_ ?_ ?_ ?_ ?_ <;> simp (disch := omega) only [si_eq, si_ne, sa_eq, sa_ne, upd_eq, upd_ne, updN_eq, updN_ne]
      obtain ⟨o4, M4, a4', x4, k4, e3, e4, f3, f4, hx4, h4⟩ := adv_both h2'
      have hm3 : M2 3 = rw τ := by rw [f2 3 (by decide) (by decide) (by decide) (by decide) (by decide) (by decide)]; simp (disch := omega) only [si_eq, si_ne, sa_eq, sa_ne, upd_eq, upd_ne, updN_eq, updN_ne]; exact a1
      have e44 : 4 + r - 4 = r := by omega
      refine Or.inl ⟨o4, M4, updN τ 1 r, a4', x4, k4, ?_, ?_, h4, ?_, by have := h2.2.2.1.1; omega, ?_⟩
      · unfold f_X6_readRule
        rcases ec with ⟨rfl, s3⟩ | ⟨rfl, s3, s4⟩ | ⟨rfl, s3, s4, s5⟩ | ⟨e, _⟩
        · simp (maxSteps := 3000000) (disch := omega) only [↓nx_q, zb0_s, zb1_s, zb2_s, zb3_s, zb4_s, zb5_s, zb6_s, zb7_s, zb8_s, zb9_s, zb10_s, zb11_s, zb12_s, zb13_s, zb14_s, q_lit, nI_add, pk_mul, e_cl, gi_in, gz_n0, gz_n1, e_gz, si_eq, si_ne, sa_eq, sa_ne, if_true, if_false, ↓reduceIte, k_ltT, k_ltF, k_leT, k_leF, k_eqT, k_eqF, k_m1lt, k_nm1, not_true_eq_false, not_false_eq_true, b7, e1, s3, hne, e3]
        · simp (maxSteps := 3000000) (disch := omega) only [↓nx_q, zb0_s, zb1_s, zb2_s, zb3_s, zb4_s, zb5_s, zb6_s, zb7_s, zb8_s, zb9_s, zb10_s, zb11_s, zb12_s, zb13_s, zb14_s, q_lit, nI_add, pk_mul, e_cl, gi_in, gz_n0, gz_n1, e_gz, si_eq, si_ne, sa_eq, sa_ne, if_true, if_false, ↓reduceIte, k_ltT, k_ltF, k_leT, k_leF, k_eqT, k_eqF, k_m1lt, k_nm1, not_true_eq_false, not_false_eq_true, b7, e1, s3, s4, hne, e3]
        · simp (maxSteps := 3000000) (disch := omega) only [↓nx_q, zb0_s, zb1_s, zb2_s, zb3_s, zb4_s, zb5_s, zb6_s, zb7_s, zb8_s, zb9_s, zb10_s, zb11_s, zb12_s, zb13_s, zb14_s, q_lit, nI_add, pk_mul, e_cl, gi_in, gz_n0, gz_n1, e_gz, si_eq, si_ne, sa_eq, sa_ne, if_true, if_false, ↓reduceIte, k_ltT, k_ltF, k_leT, k_leF, k_eqT, k_eqF, k_m1lt, k_nm1, not_true_eq_false, not_false_eq_true, b7, e1, s3, s4, s5, hne, e3]
        · exact absurd e qr
      · unfold f_X12_ruleLine
        simp (maxSteps := 3000000) (disch := omega) only [↓nx_q, zb0_s, zb1_s, zb2_s, zb3_s, zb4_s, zb5_s, zb6_s, zb7_s, zb8_s, zb9_s, zb10_s, zb11_s, zb12_s, zb13_s, zb14_s, q_lit, nI_add, pk_mul, e_cl, gi_in, gz_n0, gz_n1, e_gz, si_eq, si_ne, sa_eq, sa_ne, if_true, if_false, ↓reduceIte, k_ltT, k_ltF, k_leT, k_leF, k_eqT, k_eqF, k_m1lt, k_nm1, not_true_eq_false, not_false_eq_true, b18, e2]
        rw [zb1_of (em _ (fun k => by simp (maxSteps := 3000000) (disch := omega) only [↓nx_q, zb0_s, zb1_s, zb2_s, zb3_s, zb4_s, zb5_s, zb6_s, zb7_s, zb8_s, zb9_s, zb10_s, zb11_s, zb12_s, zb13_s, zb14_s, q_lit, nI_add, pk_mul, e_cl, gi_in, gz_n0, gz_n1, e_gz, si_eq, si_ne, sa_eq, sa_ne, if_true, if_false, ↓reduceIte, k_ltT, k_ltF, k_leT, k_leF, k_eqT, k_eqF, k_m1lt, k_nm1, not_true_eq_false, not_false_eq_true]))]
        simp (maxSteps := 3000000) (disch := omega) only [↓nx_q, zb0_s, zb1_s, zb2_s, zb3_s, zb4_s, zb5_s, zb6_s, zb7_s, zb8_s, zb9_s, zb10_s, zb11_s, zb12_s, zb13_s, zb14_s, q_lit, nI_add, pk_mul, e_cl, gi_in, gz_n0, gz_n1, e_gz, si_eq, si_ne, sa_eq, sa_ne, if_true, if_false, ↓reduceIte, k_ltT, k_ltF, k_leT, k_leF, k_eqT, k_eqF, k_m1lt, k_nm1, not_true_eq_false, not_false_eq_true, e_sub, e44, e4]
      · refine DR_01 hD0 (fun j x y => updN_ne y) ?_ ?_ ?_ ⟨?_, ?_⟩ ?_ ⟨1, by decide, ?_, ?_⟩ ⟨?_, ?_⟩
        · rw [f4 3 (by decide) (by decide) (by decide) (by decide) (by decide) (by decide), sa_eq, hm3, upd_rw]
        · rw [updN_ne (by decide)]; exact a6
        · rw [updN_eq]; omega
        · rw [f3 4 (by omega), si_ne (by decide), f1 4 (by omega), si_ne (by decide), updN_ne (by decide)]; exact a8.1
        · rw [f3 5 (by omega), si_eq, updN_eq]
        · obtain ⟨b', c1, c2, c3⟩ := b6
          refine ⟨b', c1, ?_, ?_⟩
          · rw [f3 6 (by omega), si_ne (by decide), f1 6 (by omega), si_ne (by decide)]; exact c2
          · rw [f4 17 (by decide) (by decide) (by decide) (by decide) (by decide) (by decide), sa_ne (by decide), f2 17 (by decide) (by decide) (by decide) (by decide) (by decide) (by decide), si_ne (by decide)]; exact c3
        · rw [f3 7 (by omega), si_ne (by decide), f1 7 (by omega), si_eq]
        · rw [f4 18 (by decide) (by decide) (by decide) (by decide) (by decide) (by decide), sa_ne (by decide), f2 18 (by decide) (by decide) (by decide) (by decide) (by decide) (by decide), si_eq]
        · rw [f3 2 (by omega), si_ne (by decide), f1 2 (by omega), si_ne (by decide)]; exact b2.1
        · rw [f4 13 (by decide) (by decide) (by decide) (by decide) (by decide) (by decide), sa_ne (by decide), f2 13 (by decide) (by decide) (by decide) (by decide) (by decide) (by decide), si_ne (by decide)]; exact b2.2
      · refine FrL_tr fr2 (FrL_tr (M' := sa M2 3 (upd (M2 3) 1 (nI r))) (fun j a b c d e f k l m n p => ?_) (FrN_L f4))
        simp (disch := omega) only [si_eq, si_ne, sa_eq, sa_ne, upd_eq, upd_ne, updN_eq, updN_ne]
  · have q1 : b = 1 := by omega
    subst q1
    refine Or.inr ⟨FtC o 3, FtM M 3, ?_, ?_, lft h ⟨by decide, by decide⟩ (fun _ _ _ _ _ _ _ _ _ _ _ _ => rfl)⟩
    · unfold f_X6_readRule
      simp (maxSteps := 3000000) (disch := omega) only [↓nx_q, zb0_s, zb1_s, zb2_s, zb3_s, zb4_s, zb5_s, zb6_s, zb7_s, zb8_s, zb9_s, zb10_s, zb11_s, zb12_s, zb13_s, zb14_s, q_lit, nI_add, pk_mul, e_cl, gi_in, gz_n0, gz_n1, e_gz, si_eq, si_ne, sa_eq, sa_ne, if_true, if_false, ↓reduceIte, k_ltT, k_ltF, k_leT, k_leF, k_eqT, k_eqF, k_m1lt, k_nm1, not_true_eq_false, not_false_eq_true, b7, c_fail]
    · unfold f_X12_ruleLine
      simp (maxSteps := 3000000) (disch := omega) only [↓nx_q, zb0_s, zb1_s, zb2_s, zb3_s, zb4_s, zb5_s, zb6_s, zb7_s, zb8_s, zb9_s, zb10_s, zb11_s, zb12_s, zb13_s, zb14_s, q_lit, nI_add, pk_mul, e_cl, gi_in, gz_n0, gz_n1, e_gz, si_eq, si_ne, sa_eq, sa_ne, if_true, if_false, ↓reduceIte, k_ltT, k_ltF, k_leT, k_leF, k_eqT, k_eqF, k_m1lt, k_nm1, not_true_eq_false, not_false_eq_true, b18, m_badHere]
