theorem m_isNm {o M : Ob} {t : Nat → Nat} {n a x k : Nat} (h : TS o M t n a x k) : (NmP t a x k → f_X12_isName M = some (nI 1)) ∧ (¬ NmP t a x k → f_X12_isName M = some (nI 0)) := by
  have e11 := h.2.2.2.2.1.2.2.1
  have hk4 := kM_le k
  have w0 := word0 h 0 0 4 (by decide)
  have w1 := word0 h 1 1 4 (by decide)
  have w2 := word0 h 2 2 4 (by decide)
  have w3 := word0 h 6 3 5 (by decide)
  let wf : Nat → Prop := fun i => if i = 0 then WdP t a x k 0 4 else if i = 1 then WdP t a x k 1 4 else if i = 2 then WdP t a x k 2 4 else WdP t a x k 6 5
  have hwf : ∀ i, i < 4 → (wf i → f_X12_isKnown M (nI i) = some (nI 1)) ∧ (¬ wf i → f_X12_isKnown M (nI i) = some (nI 0)) := by
    intro i hi
    have : i = 0 ∨ i = 1 ∨ i = 2 ∨ i = 3 := by omega
    rcases this with e | e | e | e <;> subst e
    · exact w0
    · exact w1
    · exact w2
    · exact w3
  have hall : (k = 2 ∧ ∀ i, i < 4 → ¬ wf i) ↔ NmP t a x k := by
    refine ⟨fun z => ⟨z.1, z.2 0 (by decide), z.2 1 (by decide), z.2 2 (by decide), z.2 3 (by decide)⟩, fun z => ⟨z.1, fun i hi => ?_⟩⟩
    have : i = 0 ∨ i = 1 ∨ i = 2 ∨ i = 3 := by omega
    rcases this with e | e | e | e <;> subst e
    · exact z.2.1
    · exact z.2.2.1
    · exact z.2.2.2.1
    · exact z.2.2.2.2
  have lp : ∀ (B : Int32 → Int32 → Option ((Int32 × Int32) ⊕ Int32)) (f0 : Int32), (∀ k20 k21, B k20 k21 = (
    if (4 : Int32) ≤ k21 then (
    some (.inr k20)
    ) else (
    nx (fun (_ : Unit) => (
    nx (k21 + (1 : Int32)) fun x32 =>
    some (.inl ((0 : Int32), x32))
    )) fun K31 =>
    if k20 = 0 then (
    K31 ()
    ) else (
    zb1 (f_X12_isKnown M k21) fun (r33 : Int32) =>
    if r33 = 0 then (
    nx (k21 + (1 : Int32)) fun x35 =>
    some (.inl ((1 : Int32), x35))
    ) else (
    K31 ()
    )
    )
    ))) → ((f0 = nI 1 ∧ k = 2) ∨ (f0 = nI 0 ∧ ¬ NmP t a x k)) → Ok (zb1 (zl2 B FU f0 (nI 0)) fun k22 => gz k22 (some k22)) (fun r => (NmP t a x k ∧ r = nI 1) ∨ (¬ NmP t a x k ∧ r = nI 0)) := by
    intro B f0 hB h0
    rw [ok_zb1]
    refine ok_mono (ok_zl2 (Q := fun r => (NmP t a x k ∧ r = nI 1) ∨ (¬ NmP t a x k ∧ r = nI 0)) (fun i f kk => kk = nI i ∧ ((f = nI 1 ∧ k = 2 ∧ ∀ j, j < i → ¬ wf j) ∨ (f = nI 0 ∧ ¬ NmP t a x k))) 4 (fun i f kk hi hI => ?_) (fu_lt (by decide)) ⟨rfl, ?_⟩) (fun y hy => ?_)
    · obtain ⟨rfl, h⟩ := hI
      rw [hB]
      by_cases qi : i = 4
      · subst qi
        simp (maxSteps := 3000000) (disch := omega) only [↓nx_q, zb0_s, zb1_s, zb2_s, zb3_s, zb4_s, zb5_s, zb6_s, zb7_s, zb8_s, zb9_s, zb10_s, zb11_s, zb12_s, zb13_s, zb14_s, q_lit, nI_add, pk_mul, e_cl, gi_in, gz_n0, gz_n1, e_gz, si_eq, si_ne, sa_eq, sa_ne, if_true, if_false, ↓reduceIte, k_ltT, k_ltF, k_leT, k_leF, k_eqT, k_eqF, k_m1lt, k_nm1, not_true_eq_false, not_false_eq_true]
        rcases h with ⟨rfl, h⟩ | ⟨rfl, h⟩
        · exact ⟨_, rfl, Or.inl ⟨hall.mp h, rfl⟩⟩
        · exact ⟨_, rfl, Or.inr ⟨h, rfl⟩⟩
      · rcases h with ⟨rfl, h⟩ | ⟨rfl, h⟩
        · by_cases q : wf i
          · have e := (hwf i (by omega)).1 q
            simp (maxSteps := 3000000) (disch := omega) only [↓nx_q, zb0_s, zb1_s, zb2_s, zb3_s, zb4_s, zb5_s, zb6_s, zb7_s, zb8_s, zb9_s, zb10_s, zb11_s, zb12_s, zb13_s, zb14_s, q_lit, nI_add, pk_mul, e_cl, gi_in, gz_n0, gz_n1, e_gz, si_eq, si_ne, sa_eq, sa_ne, if_true, if_false, ↓reduceIte, k_ltT, k_ltF, k_leT, k_leF, k_eqT, k_eqF, k_m1lt, k_nm1, not_true_eq_false, not_false_eq_true, e]
            exact ⟨_, rfl, by omega, rfl, Or.inr ⟨rfl, fun z => (hall.mpr z).2 i (by omega) q⟩⟩
          · have e := (hwf i (by omega)).2 q
            simp (maxSteps := 3000000) (disch := omega) only [↓nx_q, zb0_s, zb1_s, zb2_s, zb3_s, zb4_s, zb5_s, zb6_s, zb7_s, zb8_s, zb9_s, zb10_s, zb11_s, zb12_s, zb13_s, zb14_s, q_lit, nI_add, pk_mul, e_cl, gi_in, gz_n0, gz_n1, e_gz, si_eq, si_ne, sa_eq, sa_ne, if_true, if_false, ↓reduceIte, k_ltT, k_ltF, k_leT, k_leF, k_eqT, k_eqF, k_m1lt, k_nm1, not_true_eq_false, not_false_eq_true, e]
            refine ⟨_, rfl, by omega, rfl, Or.inl ⟨rfl, h.1, fun j hj => ?_⟩⟩
            by_cases z : j = i
            · subst z; exact q
            · exact h.2 j (by omega)
        · simp (maxSteps := 3000000) (disch := omega) only [↓nx_q, zb0_s, zb1_s, zb2_s, zb3_s, zb4_s, zb5_s, zb6_s, zb7_s, zb8_s, zb9_s, zb10_s, zb11_s, zb12_s, zb13_s, zb14_s, q_lit, nI_add, pk_mul, e_cl, gi_in, gz_n0, gz_n1, e_gz, si_eq, si_ne, sa_eq, sa_ne, if_true, if_false, ↓reduceIte, k_ltT, k_ltF, k_leT, k_leF, k_eqT, k_eqF, k_m1lt, k_nm1, not_true_eq_false, not_false_eq_true]
          exact ⟨_, rfl, by omega, rfl, Or.inr ⟨rfl, h⟩⟩
    · rcases h0 with ⟨e, h⟩ | ⟨e, h⟩
      · exact Or.inl ⟨e, h, fun j hj => absurd hj (Nat.not_lt_zero _)⟩
      · exact Or.inr ⟨e, h⟩
    · rcases hy with ⟨h, rfl⟩ | ⟨h, rfl⟩
      · rw [gz_n1]; exact ⟨_, rfl, Or.inl ⟨h, rfl⟩⟩
      · rw [gz_n0]; exact ⟨_, rfl, Or.inr ⟨h, rfl⟩⟩
  have key : Ok (f_X12_isName M) (fun r => (NmP t a x k ∧ r = nI 1) ∨ (¬ NmP t a x k ∧ r = nI 0)) := by
    unfold f_X12_isName
    by_cases q : k = 2
    · have e11' : M 11 0 = nI 1 := by rw [e11, kM_1.mpr q]
      simp (maxSteps := 3000000) (disch := omega) only [↓nx_q, zb0_s, zb1_s, zb2_s, zb3_s, zb4_s, zb5_s, zb6_s, zb7_s, zb8_s, zb9_s, zb10_s, zb11_s, zb12_s, zb13_s, zb14_s, q_lit, nI_add, pk_mul, e_cl, gi_in, gz_n0, gz_n1, e_gz, si_eq, si_ne, sa_eq, sa_ne, if_true, if_false, ↓reduceIte, k_ltT, k_ltF, k_leT, k_leF, k_eqT, k_eqF, k_m1lt, k_nm1, not_true_eq_false, not_false_eq_true, e11']
      exact lp _ _ (fun a b => by simp (maxSteps := 3000000) (disch := omega) only [↓nx_q, zb0_s, zb1_s, zb2_s, zb3_s, zb4_s, zb5_s, zb6_s, zb7_s, zb8_s, zb9_s, zb10_s, zb11_s, zb12_s, zb13_s, zb14_s, q_lit, nI_add, pk_mul, e_cl, gi_in, gz_n0, gz_n1, e_gz, si_eq, si_ne, sa_eq, sa_ne, if_true, if_false, ↓reduceIte, k_ltT, k_ltF, k_leT, k_leF, k_eqT, k_eqF, k_m1lt, k_nm1, not_true_eq_false, not_false_eq_true]) (Or.inl ⟨rfl, q⟩)
    · have hne : kM k ≠ 1 := fun e => q (kM_1.mp e)
      simp (maxSteps := 3000000) (disch := omega) only [↓nx_q, zb0_s, zb1_s, zb2_s, zb3_s, zb4_s, zb5_s, zb6_s, zb7_s, zb8_s, zb9_s, zb10_s, zb11_s, zb12_s, zb13_s, zb14_s, q_lit, nI_add, pk_mul, e_cl, gi_in, gz_n0, gz_n1, e_gz, si_eq, si_ne, sa_eq, sa_ne, if_true, if_false, ↓reduceIte, k_ltT, k_ltF, k_leT, k_leF, k_eqT, k_eqF, k_m1lt, k_nm1, not_true_eq_false, not_false_eq_true, e11]
      exact lp _ _ (fun a b => by simp (maxSteps := 3000000) (disch := omega) only [↓nx_q, zb0_s, zb1_s, zb2_s, zb3_s, zb4_s, zb5_s, zb6_s, zb7_s, zb8_s, zb9_s, zb10_s, zb11_s, zb12_s, zb13_s, zb14_s, q_lit, nI_add, pk_mul, e_cl, gi_in, gz_n0, gz_n1, e_gz, si_eq, si_ne, sa_eq, sa_ne, if_true, if_false, ↓reduceIte, k_ltT, k_ltF, k_leT, k_leF, k_eqT, k_eqF, k_m1lt, k_nm1, not_true_eq_false, not_false_eq_true]) (Or.inr ⟨rfl, fun z => q z.1⟩)
  obtain ⟨r, er, h⟩ := key
  rw [er]
  rcases h with ⟨h, rfl⟩ | ⟨h, rfl⟩
  · exact ⟨fun _ => rfl, fun z => absurd h z⟩
  · exact ⟨fun z => absurd z h, fun _ => rfl⟩
/-- a fault, both -/
def FtC (o : Ob) (f : Nat) : Ob := si (si o 2 (nI f)) 3 (o 14 0)
def FtM (M : Ob) (f : Nat) : Ob := si (si M 13 (nI f)) 14 (M 10 0)
theorem c_fail (o : Ob) (f : Nat) : f_X6_fail o (nI f) = some (FtC o f, nI 0) := by
  unfold f_X6_fail FtC
  simp (maxSteps := 3000000) (disch := omega) only [↓nx_q, zb0_s, zb1_s, zb2_s, zb3_s, zb4_s, zb5_s, zb6_s, zb7_s, zb8_s, zb9_s, zb10_s, zb11_s, zb12_s, zb13_s, zb14_s, q_lit, nI_add, pk_mul, e_cl, gi_in, gz_n0, gz_n1, e_gz, si_eq, si_ne, sa_eq, sa_ne, if_true, if_false, ↓reduceIte, k_ltT, k_ltF, k_leT, k_leF, k_eqT, k_eqF, k_m1lt, k_nm1, not_true_eq_false, not_false_eq_true]
theorem m_badHere (M : Ob) (f : Nat) : f_X12_badHere M (nI f) = some (FtM M f, nI 0) := by
  unfold f_X12_badHere f_X12_bad FtM
  simp (maxSteps := 3000000) (disch := omega) only [↓nx_q, zb0_s, zb1_s, zb2_s, zb3_s, zb4_s, zb5_s, zb6_s, zb7_s, zb8_s, zb9_s, zb10_s, zb11_s, zb12_s, zb13_s, zb14_s, q_lit, nI_add, pk_mul, e_cl, gi_in, gz_n0, gz_n1, e_gz, si_eq, si_ne, sa_eq, sa_ne, if_true, if_false, ↓reduceIte, k_ltT, k_ltF, k_leT, k_leF, k_eqT, k_eqF, k_m1lt, k_nm1, not_true_eq_false, not_false_eq_true]
theorem kM_2 {k : Nat} : kM k = 2 ↔ k = 3 := by
  unfold kM
  split
  · omega
  · split
    · omega
    · split
      · omega
      · split <;> omega
theorem num_both {o M : Ob} {t : Nat → Nat} {n a x k : Nat} (h : TS o M t n a x k) {lo hi : Nat} (hl : lo ≤ hi) (hh : hi < 1000) : (∃ v o' M' a' x' k', lo ≤ v ∧ v ≤ hi ∧ f_X6_takeNumber o (nI lo) (nI hi) = some (o', nI v) ∧ f_X12_number M (nI lo) (nI hi) = some (M, nI 1) ∧ M 12 0 = nI v ∧ f_X6_advance o = some o' ∧ f_X12_next M = some M' ∧ FrC o o' ∧ FrN M M' ∧ x ≤ a' ∧ TS o' M' t n a' x' k') ∨ (∃ f, 1 ≤ f ∧ f ≤ 2 ∧ f_X6_takeNumber o (nI lo) (nI hi) = some (FtC o f, -nI 1) ∧ f_X12_number M (nI lo) (nI hi) = some (FtM M f, nI 0)) := by
  have h0 := h
  obtain ⟨a1, a2, a3, a4, a5, a6, a7⟩ := h
  have e13 := a4.2.2.1
  have e11 := a5.2.2.1
  have hk := a3.2.2
  have hk4 := kM_le k
  by_cases q : k = 3
  · have e16 := a4.2.2.2.2 q
    have e12 := a5.2.2.2.2.1 q
    have hv := a7 q
    generalize nmT t a (x - a) = v at e16 e12 hv
    have e11' : M 11 0 = nI 2 := by rw [e11, kM_2.mpr q]
    have em := m_isInN (a := lo) (b := hi) (k := v) (by omega) (by omega) (by omega)
    by_cases r : lo ≤ v ∧ v ≤ hi
    · rw [if_pos r] at em
      obtain ⟨o', M', a', x', k', y1, y2, y3, y4, y5⟩ := adv_both h0
      refine Or.inl ⟨v, o', M', a', x', k', r.1, r.2, ?_, ?_, e12, y1, y2, y3, y4, y5⟩
      · unfold f_X6_takeNumber
        have := r.1
        have := r.2
        simp (maxSteps := 3000000) (disch := omega) only [↓nx_q, zb0_s, zb1_s, zb2_s, zb3_s, zb4_s, zb5_s, zb6_s, zb7_s, zb8_s, zb9_s, zb10_s, zb11_s, zb12_s, zb13_s, zb14_s, q_lit, nI_add, pk_mul, e_cl, gi_in, gz_n0, gz_n1, e_gz, si_eq, si_ne, sa_eq, sa_ne, if_true, if_false, ↓reduceIte, k_ltT, k_ltF, k_leT, k_leF, k_eqT, k_eqF, k_m1lt, k_nm1, not_true_eq_false, not_false_eq_true, e13, e16, y1]
      · unfold f_X12_number
        simp (maxSteps := 3000000) (disch := omega) only [↓nx_q, zb0_s, zb1_s, zb2_s, zb3_s, zb4_s, zb5_s, zb6_s, zb7_s, zb8_s, zb9_s, zb10_s, zb11_s, zb12_s, zb13_s, zb14_s, q_lit, nI_add, pk_mul, e_cl, gi_in, gz_n0, gz_n1, e_gz, si_eq, si_ne, sa_eq, sa_ne, if_true, if_false, ↓reduceIte, k_ltT, k_ltF, k_leT, k_leF, k_eqT, k_eqF, k_m1lt, k_nm1, not_true_eq_false, not_false_eq_true, e11', e12, em]
    · rw [if_neg r] at em
      refine Or.inr ⟨2, by decide, by decide, ?_, ?_⟩
      · unfold f_X6_takeNumber
        by_cases z : v < lo
        · simp (maxSteps := 3000000) (disch := omega) only [↓nx_q, zb0_s, zb1_s, zb2_s, zb3_s, zb4_s, zb5_s, zb6_s, zb7_s, zb8_s, zb9_s, zb10_s, zb11_s, zb12_s, zb13_s, zb14_s, q_lit, nI_add, pk_mul, e_cl, gi_in, gz_n0, gz_n1, e_gz, si_eq, si_ne, sa_eq, sa_ne, if_true, if_false, ↓reduceIte, k_ltT, k_ltF, k_leT, k_leF, k_eqT, k_eqF, k_m1lt, k_nm1, not_true_eq_false, not_false_eq_true, e13, e16, c_fail]
        · have : hi < v := by omega
          simp (maxSteps := 3000000) (disch := omega) only [↓nx_q, zb0_s, zb1_s, zb2_s, zb3_s, zb4_s, zb5_s, zb6_s, zb7_s, zb8_s, zb9_s, zb10_s, zb11_s, zb12_s, zb13_s, zb14_s, q_lit, nI_add, pk_mul, e_cl, gi_in, gz_n0, gz_n1, e_gz, si_eq, si_ne, sa_eq, sa_ne, if_true, if_false, ↓reduceIte, k_ltT, k_ltF, k_leT, k_leF, k_eqT, k_eqF, k_m1lt, k_nm1, not_true_eq_false, not_false_eq_true, e13, e16, c_fail]
      · unfold f_X12_number
        simp (maxSteps := 3000000) (disch := omega) only [↓nx_q, zb0_s, zb1_s, zb2_s, zb3_s, zb4_s, zb5_s, zb6_s, zb7_s, zb8_s, zb9_s, zb10_s, zb11_s, zb12_s, zb13_s, zb14_s, q_lit, nI_add, pk_mul, e_cl, gi_in, gz_n0, gz_n1, e_gz, si_eq, si_ne, sa_eq, sa_ne, if_true, if_false, ↓reduceIte, k_ltT, k_ltF, k_leT, k_leF, k_eqT, k_eqF, k_m1lt, k_nm1, not_true_eq_false, not_false_eq_true, e11', e12, em, m_badHere]
  · have hne : kM k ≠ 2 := fun e => q (kM_2.mp e)
    refine Or.inr ⟨1, by decide, by decide, ?_, ?_⟩
    · unfold f_X6_takeNumber
      by_cases z : o 16 0 < nI lo
      · simp (maxSteps := 3000000) (disch := omega) only [↓nx_q, zb0_s, zb1_s, zb2_s, zb3_s, zb4_s, zb5_s, zb6_s, zb7_s, zb8_s, zb9_s, zb10_s, zb11_s, zb12_s, zb13_s, zb14_s, q_lit, nI_add, pk_mul, e_cl, gi_in, gz_n0, gz_n1, e_gz, si_eq, si_ne, sa_eq, sa_ne, if_true, if_false, ↓reduceIte, k_ltT, k_ltF, k_leT, k_leF, k_eqT, k_eqF, k_m1lt, k_nm1, not_true_eq_false, not_false_eq_true, e13, eq_true z, c_fail]
      · by_cases z2 : nI hi < o 16 0
        · simp (maxSteps := 3000000) (disch := omega) only [↓nx_q, zb0_s, zb1_s, zb2_s, zb3_s, zb4_s, zb5_s, zb6_s, zb7_s, zb8_s, zb9_s, zb10_s, zb11_s, zb12_s, zb13_s, zb14_s, q_lit, nI_add, pk_mul, e_cl, gi_in, gz_n0, gz_n1, e_gz, si_eq, si_ne, sa_eq, sa_ne, if_true, if_false, ↓reduceIte, k_ltT, k_ltF, k_leT, k_leF, k_eqT, k_eqF, k_m1lt, k_nm1, not_true_eq_false, not_false_eq_true, e13, eq_false z, eq_true z2, c_fail]
        · simp (maxSteps := 3000000) (disch := omega) only [↓nx_q, zb0_s, zb1_s, zb2_s, zb3_s, zb4_s, zb5_s, zb6_s, zb7_s, zb8_s, zb9_s, zb10_s, zb11_s, zb12_s, zb13_s, zb14_s, q_lit, nI_add, pk_mul, e_cl, gi_in, gz_n0, gz_n1, e_gz, si_eq, si_ne, sa_eq, sa_ne, if_true, if_false, ↓reduceIte, k_ltT, k_ltF, k_leT, k_leF, k_eqT, k_eqF, k_m1lt, k_nm1, not_true_eq_false, not_false_eq_true, e13, eq_false z, eq_false z2, c_fail]
    · unfold f_X12_number
      simp (maxSteps := 3000000) (disch := omega) only [↓nx_q, zb0_s, zb1_s, zb2_s, zb3_s, zb4_s, zb5_s, zb6_s, zb7_s, zb8_s, zb9_s, zb10_s, zb11_s, zb12_s, zb13_s, zb14_s, q_lit, nI_add, pk_mul, e_cl, gi_in, gz_n0, gz_n1, e_gz, si_eq, si_ne, sa_eq, sa_ne, if_true, if_false, ↓reduceIte, k_ltT, k_ltF, k_leT, k_leF, k_eqT, k_eqF, k_m1lt, k_nm1, not_true_eq_false, not_false_eq_true, e11, m_badHere]
theorem kM_3 {k : Nat} : kM k = 3 ↔ 3 < k := by
  unfold kM
  split
  · omega
  · split
    · omega
    · split
      · omega
      · split <;> omega
theorem sign_both {o M : Ob} {t : Nat → Nat} {n a x k : Nat} (h : TS o M t n a x k) {c : Nat} (hc : 3 < c) (hc2 : c < 256) : (k = c ∧ f_X12_isSign M (nI c) = some (nI 1) ∧ ∃ o' M' a' x' k', f_X6_take o (nI c) = some (o', nI 1) ∧ f_X12_next M = some M' ∧ FrC o o' ∧ FrN M M' ∧ x ≤ a' ∧ TS o' M' t n a' x' k') ∨ (k ≠ c ∧ f_X12_isSign M (nI c) = some (nI 0) ∧ f_X6_take o (nI c) = some (FtC o 1, nI 0)) := by
  have h0 := h
  obtain ⟨a1, a2, a3, a4, a5, a6, a7⟩ := h
  have e13 := a4.2.2.1
  have e11 := a5.2.2.1
  have hk := a3.2.2
  have hk4 := kM_le k
  by_cases q : k = c
  · obtain ⟨o', M', a', x', k', y1, y2, y3, y4, y5⟩ := adv_both h0
    have e12 := a5.2.2.2.2.2 (by omega)
    have e11' : M 11 0 = nI 3 := by rw [e11, kM_3.mpr (by omega)]
    refine Or.inl ⟨q, ?_, o', M', a', x', k', ?_, y2, y3, y4, y5⟩
    · unfold f_X12_isSign
      simp (maxSteps := 3000000) (disch := omega) only [↓nx_q, zb0_s, zb1_s, zb2_s, zb3_s, zb4_s, zb5_s, zb6_s, zb7_s, zb8_s, zb9_s, zb10_s, zb11_s, zb12_s, zb13_s, zb14_s, q_lit, nI_add, pk_mul, e_cl, gi_in, gz_n0, gz_n1, e_gz, si_eq, si_ne, sa_eq, sa_ne, if_true, if_false, ↓reduceIte, k_ltT, k_ltF, k_leT, k_leF, k_eqT, k_eqF, k_m1lt, k_nm1, not_true_eq_false, not_false_eq_true, e11', e12]
    · unfold f_X6_take
      simp (maxSteps := 3000000) (disch := omega) only [↓nx_q, zb0_s, zb1_s, zb2_s, zb3_s, zb4_s, zb5_s, zb6_s, zb7_s, zb8_s, zb9_s, zb10_s, zb11_s, zb12_s, zb13_s, zb14_s, q_lit, nI_add, pk_mul, e_cl, gi_in, gz_n0, gz_n1, e_gz, si_eq, si_ne, sa_eq, sa_ne, if_true, if_false, ↓reduceIte, k_ltT, k_ltF, k_leT, k_leF, k_eqT, k_eqF, k_m1lt, k_nm1, not_true_eq_false, not_false_eq_true, e13, y1]
  · refine Or.inr ⟨q, ?_, ?_⟩
    · unfold f_X12_isSign
      by_cases z : 3 < k
      · have e12 := a5.2.2.2.2.2 z
        have e11' : M 11 0 = nI 3 := by rw [e11, kM_3.mpr z]
        simp (maxSteps := 3000000) (disch := omega) only [↓nx_q, zb0_s, zb1_s, zb2_s, zb3_s, zb4_s, zb5_s, zb6_s, zb7_s, zb8_s, zb9_s, zb10_s, zb11_s, zb12_s, zb13_s, zb14_s, q_lit, nI_add, pk_mul, e_cl, gi_in, gz_n0, gz_n1, e_gz, si_eq, si_ne, sa_eq, sa_ne, if_true, if_false, ↓reduceIte, k_ltT, k_ltF, k_leT, k_leF, k_eqT, k_eqF, k_m1lt, k_nm1, not_true_eq_false, not_false_eq_true, e11', e12]
      · have hne : kM k ≠ 3 := fun e => z (kM_3.mp e)
        simp (maxSteps := 3000000) (disch := omega) only [↓nx_q, zb0_s, zb1_s, zb2_s, zb3_s, zb4_s, zb5_s, zb6_s, zb7_s, zb8_s, zb9_s, zb10_s, zb11_s, zb12_s, zb13_s, zb14_s, q_lit, nI_add, pk_mul, e_cl, gi_in, gz_n0, gz_n1, e_gz, si_eq, si_ne, sa_eq, sa_ne, if_true, if_false, ↓reduceIte, k_ltT, k_ltF, k_leT, k_leF, k_eqT, k_eqF, k_m1lt, k_nm1, not_true_eq_false, not_false_eq_true, e11]
    · unfold f_X6_take
      simp (maxSteps := 3000000) (disch := omega) only [↓nx_q, zb0_s, zb1_s, zb2_s, zb3_s, zb4_s, zb5_s, zb6_s, zb7_s, zb8_s, zb9_s, zb10_s, zb11_s, zb12_s, zb13_s, zb14_s, q_lit, nI_add, pk_mul, e_cl, gi_in, gz_n0, gz_n1, e_gz, si_eq, si_ne, sa_eq, sa_ne, if_true, if_false, ↓reduceIte, k_ltT, k_ltF, k_leT, k_leF, k_eqT, k_eqF, k_m1lt, k_nm1, not_true_eq_false, not_false_eq_true, e13, c_fail]
