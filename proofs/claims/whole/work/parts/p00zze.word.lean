/-! ===== reading: words ===== -/
def wdI (c j : Nat) : Int32 := (sxB.getD c []).getD j 0
def WdP (t : Nat → Nat) (a x k c L : Nat) : Prop := k = 2 ∧ x - a = L ∧ ∀ j, j < L → nI (t (a + j)) = wdI c j
theorem kM_1 {k : Nat} : kM k = 1 ↔ k = 2 := by
  unfold kM
  split
  · omega
  · split
    · omega
    · split
      · omega
      · split <;> omega
theorem kM_le (k : Nat) : kM k ≤ 4 := by
  unfold kM
  split
  · omega
  · split
    · omega
    · split
      · omega
      · split <;> omega
theorem ofN (n : Nat) : Int32.ofNat n = nI n := rfl
theorem c_says0 {o : Ob} {t : Nat → Nat} {n a x k : Nat} (hT : TpC o t n) (hx : x ≤ n) (hk : k < 256) (hK : TkC o t a x k) (hax : a ≤ x) : (WdP t a x k 0 4 → f_X6_says__0 o = some (nI 1)) ∧ (¬ WdP t a x k 0 4 → f_X6_says__0 o = some (nI 0)) := by
  obtain ⟨e14, e15, e13, -⟩ := hK
  have hn := hT.2.1
  have l1 : sxL.getD 0 0 = 4 := rfl
  have key : Ok (f_X6_says__0 o) (fun r => (WdP t a x k 0 4 ∧ r = nI 1) ∨ (¬ WdP t a x k 0 4 ∧ r = nI 0)) := by
    unfold f_X6_says__0
    by_cases q : k = 2
    · by_cases q2 : x - a = 4
      · simp (maxSteps := 3000000) (disch := omega) only [↓nx_q, zb0_s, zb1_s, zb2_s, zb3_s, zb4_s, zb5_s, zb6_s, zb7_s, zb8_s, zb9_s, zb10_s, zb11_s, zb12_s, zb13_s, zb14_s, q_lit, nI_add, pk_mul, e_cl, gi_in, gz_n0, gz_n1, e_gz, si_eq, si_ne, sa_eq, sa_ne, if_true, if_false, ↓reduceIte, k_ltT, k_ltF, k_leT, k_leF, k_eqT, k_eqF, k_m1lt, k_nm1, not_true_eq_false, not_false_eq_true, e13, e14, e15, e_sub, l1, ofN]
        rw [ok_ze0]
        refine ok_mono (ok_zl1 (Q := fun y => (y = .inl () ∧ ∀ j, j < 4 → nI (t (a + j)) = wdI 0 j) ∨ (y = .inr (nI 0) ∧ ¬ ∀ j, j < 4 → nI (t (a + j)) = wdI 0 j)) (fun i kk => kk = nI i ∧ ∀ j, j < i → nI (t (a + j)) = wdI 0 j) 4 (fun i kk hi hI => ?_) (fu_lt (by decide)) ⟨rfl, fun j hj => absurd hj (Nat.not_lt_zero _)⟩) (fun y hy => ?_)
        · obtain ⟨rfl, h⟩ := hI
          by_cases qi : i = 4
          · subst qi
            simp (maxSteps := 3000000) (disch := omega) only [↓nx_q, zb0_s, zb1_s, zb2_s, zb3_s, zb4_s, zb5_s, zb6_s, zb7_s, zb8_s, zb9_s, zb10_s, zb11_s, zb12_s, zb13_s, zb14_s, q_lit, nI_add, pk_mul, e_cl, gi_in, gz_n0, gz_n1, e_gz, si_eq, si_ne, sa_eq, sa_ne, if_true, if_false, ↓reduceIte, k_ltT, k_ltF, k_leT, k_leF, k_eqT, k_eqF, k_m1lt, k_nm1, not_true_eq_false, not_false_eq_true]
            exact ⟨_, rfl, Or.inl ⟨rfl, h⟩⟩
          · have c2 := (hT.2.2 (a + i) (by omega)).2
            by_cases qe : nI (t (a + i)) = wdI 0 i
            · have qe' : (nI (t (a + i)) = (sxB.getD 0 []).getD i (nI 0)) = True := eq_true qe
              simp (maxSteps := 3000000) (disch := omega) only [↓nx_q, zb0_s, zb1_s, zb2_s, zb3_s, zb4_s, zb5_s, zb6_s, zb7_s, zb8_s, zb9_s, zb10_s, zb11_s, zb12_s, zb13_s, zb14_s, q_lit, nI_add, pk_mul, e_cl, gi_in, gz_n0, gz_n1, e_gz, si_eq, si_ne, sa_eq, sa_ne, if_true, if_false, ↓reduceIte, k_ltT, k_ltF, k_leT, k_leF, k_eqT, k_eqF, k_m1lt, k_nm1, not_true_eq_false, not_false_eq_true, c2, qe']
              refine ⟨_, rfl, by omega, rfl, fun j hj => ?_⟩
              by_cases e : j = i
              · subst e; exact qe
              · exact h j (by omega)
            · have qe' : (nI (t (a + i)) = (sxB.getD 0 []).getD i (nI 0)) = False := eq_false qe
              simp (maxSteps := 3000000) (disch := omega) only [↓nx_q, zb0_s, zb1_s, zb2_s, zb3_s, zb4_s, zb5_s, zb6_s, zb7_s, zb8_s, zb9_s, zb10_s, zb11_s, zb12_s, zb13_s, zb14_s, q_lit, nI_add, pk_mul, e_cl, gi_in, gz_n0, gz_n1, e_gz, si_eq, si_ne, sa_eq, sa_ne, if_true, if_false, ↓reduceIte, k_ltT, k_ltF, k_leT, k_leF, k_eqT, k_eqF, k_m1lt, k_nm1, not_true_eq_false, not_false_eq_true, c2, qe']
              exact ⟨_, rfl, Or.inr ⟨rfl, fun h => qe (h i (by omega))⟩⟩
        · rcases hy with ⟨rfl, h⟩ | ⟨rfl, h⟩
          · exact ⟨_, rfl, Or.inl ⟨⟨q, q2, h⟩, rfl⟩⟩
          · exact ⟨_, rfl, Or.inr ⟨fun w => h w.2.2, rfl⟩⟩
      · simp (maxSteps := 3000000) (disch := omega) only [↓nx_q, zb0_s, zb1_s, zb2_s, zb3_s, zb4_s, zb5_s, zb6_s, zb7_s, zb8_s, zb9_s, zb10_s, zb11_s, zb12_s, zb13_s, zb14_s, q_lit, nI_add, pk_mul, e_cl, gi_in, gz_n0, gz_n1, e_gz, si_eq, si_ne, sa_eq, sa_ne, if_true, if_false, ↓reduceIte, k_ltT, k_ltF, k_leT, k_leF, k_eqT, k_eqF, k_m1lt, k_nm1, not_true_eq_false, not_false_eq_true, e13, e14, e15, e_sub, l1, ofN]
        exact ⟨_, rfl, Or.inr ⟨fun w => q2 w.2.1, rfl⟩⟩
    · simp (maxSteps := 3000000) (disch := omega) only [↓nx_q, zb0_s, zb1_s, zb2_s, zb3_s, zb4_s, zb5_s, zb6_s, zb7_s, zb8_s, zb9_s, zb10_s, zb11_s, zb12_s, zb13_s, zb14_s, q_lit, nI_add, pk_mul, e_cl, gi_in, gz_n0, gz_n1, e_gz, si_eq, si_ne, sa_eq, sa_ne, if_true, if_false, ↓reduceIte, k_ltT, k_ltF, k_leT, k_leF, k_eqT, k_eqF, k_m1lt, k_nm1, not_true_eq_false, not_false_eq_true, e13]
      exact ⟨_, rfl, Or.inr ⟨fun w => q w.1, rfl⟩⟩
  obtain ⟨r, er, h⟩ := key
  rw [er]
  rcases h with ⟨h, rfl⟩ | ⟨h, rfl⟩
  · exact ⟨fun _ => rfl, fun z => absurd h z⟩
  · exact ⟨fun z => absurd z h, fun _ => rfl⟩
theorem c_says1 {o : Ob} {t : Nat → Nat} {n a x k : Nat} (hT : TpC o t n) (hx : x ≤ n) (hk : k < 256) (hK : TkC o t a x k) (hax : a ≤ x) : (WdP t a x k 1 4 → f_X6_says__1 o = some (nI 1)) ∧ (¬ WdP t a x k 1 4 → f_X6_says__1 o = some (nI 0)) := by
  obtain ⟨e14, e15, e13, -⟩ := hK
  have hn := hT.2.1
  have l1 : sxL.getD 1 0 = 4 := rfl
  have key : Ok (f_X6_says__1 o) (fun r => (WdP t a x k 1 4 ∧ r = nI 1) ∨ (¬ WdP t a x k 1 4 ∧ r = nI 0)) := by
    unfold f_X6_says__1
    by_cases q : k = 2
    · by_cases q2 : x - a = 4
      · simp (maxSteps := 3000000) (disch := omega) only [↓nx_q, zb0_s, zb1_s, zb2_s, zb3_s, zb4_s, zb5_s, zb6_s, zb7_s, zb8_s, zb9_s, zb10_s, zb11_s, zb12_s, zb13_s, zb14_s, q_lit, nI_add, pk_mul, e_cl, gi_in, gz_n0, gz_n1, e_gz, si_eq, si_ne, sa_eq, sa_ne, if_true, if_false, ↓reduceIte, k_ltT, k_ltF, k_leT, k_leF, k_eqT, k_eqF, k_m1lt, k_nm1, not_true_eq_false, not_false_eq_true, e13, e14, e15, e_sub, l1, ofN]
        rw [ok_ze0]
        refine ok_mono (ok_zl1 (Q := fun y => (y = .inl () ∧ ∀ j, j < 4 → nI (t (a + j)) = wdI 1 j) ∨ (y = .inr (nI 0) ∧ ¬ ∀ j, j < 4 → nI (t (a + j)) = wdI 1 j)) (fun i kk => kk = nI i ∧ ∀ j, j < i → nI (t (a + j)) = wdI 1 j) 4 (fun i kk hi hI => ?_) (fu_lt (by decide)) ⟨rfl, fun j hj => absurd hj (Nat.not_lt_zero _)⟩) (fun y hy => ?_)
        · obtain ⟨rfl, h⟩ := hI
          by_cases qi : i = 4
          · subst qi
            simp (maxSteps := 3000000) (disch := omega) only [↓nx_q, zb0_s, zb1_s, zb2_s, zb3_s, zb4_s, zb5_s, zb6_s, zb7_s, zb8_s, zb9_s, zb10_s, zb11_s, zb12_s, zb13_s, zb14_s, q_lit, nI_add, pk_mul, e_cl, gi_in, gz_n0, gz_n1, e_gz, si_eq, si_ne, sa_eq, sa_ne, if_true, if_false, ↓reduceIte, k_ltT, k_ltF, k_leT, k_leF, k_eqT, k_eqF, k_m1lt, k_nm1, not_true_eq_false, not_false_eq_true]
            exact ⟨_, rfl, Or.inl ⟨rfl, h⟩⟩
          · have c2 := (hT.2.2 (a + i) (by omega)).2
            by_cases qe : nI (t (a + i)) = wdI 1 i
            · have qe' : (nI (t (a + i)) = (sxB.getD 1 []).getD i (nI 0)) = True := eq_true qe
              simp (maxSteps := 3000000) (disch := omega) only [↓nx_q, zb0_s, zb1_s, zb2_s, zb3_s, zb4_s, zb5_s, zb6_s, zb7_s, zb8_s, zb9_s, zb10_s, zb11_s, zb12_s, zb13_s, zb14_s, q_lit, nI_add, pk_mul, e_cl, gi_in, gz_n0, gz_n1, e_gz, si_eq, si_ne, sa_eq, sa_ne, if_true, if_false, ↓reduceIte, k_ltT, k_ltF, k_leT, k_leF, k_eqT, k_eqF, k_m1lt, k_nm1, not_true_eq_false, not_false_eq_true, c2, qe']
              refine ⟨_, rfl, by omega, rfl, fun j hj => ?_⟩
              by_cases e : j = i
              · subst e; exact qe
              · exact h j (by omega)
            · have qe' : (nI (t (a + i)) = (sxB.getD 1 []).getD i (nI 0)) = False := eq_false qe
              simp (maxSteps := 3000000) (disch := omega) only [↓nx_q, zb0_s, zb1_s, zb2_s, zb3_s, zb4_s, zb5_s, zb6_s, zb7_s, zb8_s, zb9_s, zb10_s, zb11_s, zb12_s, zb13_s, zb14_s, q_lit, nI_add, pk_mul, e_cl, gi_in, gz_n0, gz_n1, e_gz, si_eq, si_ne, sa_eq, sa_ne, if_true, if_false, ↓reduceIte, k_ltT, k_ltF, k_leT, k_leF, k_eqT, k_eqF, k_m1lt, k_nm1, not_true_eq_false, not_false_eq_true, c2, qe']
              exact ⟨_, rfl, Or.inr ⟨rfl, fun h => qe (h i (by omega))⟩⟩
        · rcases hy with ⟨rfl, h⟩ | ⟨rfl, h⟩
          · exact ⟨_, rfl, Or.inl ⟨⟨q, q2, h⟩, rfl⟩⟩
          · exact ⟨_, rfl, Or.inr ⟨fun w => h w.2.2, rfl⟩⟩
      · simp (maxSteps := 3000000) (disch := omega) only [↓nx_q, zb0_s, zb1_s, zb2_s, zb3_s, zb4_s, zb5_s, zb6_s, zb7_s, zb8_s, zb9_s, zb10_s, zb11_s, zb12_s, zb13_s, zb14_s, q_lit, nI_add, pk_mul, e_cl, gi_in, gz_n0, gz_n1, e_gz, si_eq, si_ne, sa_eq, sa_ne, if_true, if_false, ↓reduceIte, k_ltT, k_ltF, k_leT, k_leF, k_eqT, k_eqF, k_m1lt, k_nm1, not_true_eq_false, not_false_eq_true, e13, e14, e15, e_sub, l1, ofN]
        exact ⟨_, rfl, Or.inr ⟨fun w => q2 w.2.1, rfl⟩⟩
    · simp (maxSteps := 3000000) (disch := omega) only [↓nx_q, zb0_s, zb1_s, zb2_s, zb3_s, zb4_s, zb5_s, zb6_s, zb7_s, zb8_s, zb9_s, zb10_s, zb11_s, zb12_s, zb13_s, zb14_s, q_lit, nI_add, pk_mul, e_cl, gi_in, gz_n0, gz_n1, e_gz, si_eq, si_ne, sa_eq, sa_ne, if_true, if_false, ↓reduceIte, k_ltT, k_ltF, k_leT, k_leF, k_eqT, k_eqF, k_m1lt, k_nm1, not_true_eq_false, not_false_eq_true, e13]
      exact ⟨_, rfl, Or.inr ⟨fun w => q w.1, rfl⟩⟩
  obtain ⟨r, er, h⟩ := key
  rw [er]
  rcases h with ⟨h, rfl⟩ | ⟨h, rfl⟩
  · exact ⟨fun _ => rfl, fun z => absurd h z⟩
  · exact ⟨fun z => absurd z h, fun _ => rfl⟩
theorem c_says2 {o : Ob} {t : Nat → Nat} {n a x k : Nat} (hT : TpC o t n) (hx : x ≤ n) (hk : k < 256) (hK : TkC o t a x k) (hax : a ≤ x) : (WdP t a x k 2 4 → f_X6_says__2 o = some (nI 1)) ∧ (¬ WdP t a x k 2 4 → f_X6_says__2 o = some (nI 0)) := by
  obtain ⟨e14, e15, e13, -⟩ := hK
  have hn := hT.2.1
  have l1 : sxL.getD 2 0 = 4 := rfl
  have key : Ok (f_X6_says__2 o) (fun r => (WdP t a x k 2 4 ∧ r = nI 1) ∨ (¬ WdP t a x k 2 4 ∧ r = nI 0)) := by
    unfold f_X6_says__2
    by_cases q : k = 2
    · by_cases q2 : x - a = 4
      · simp (maxSteps := 3000000) (disch := omega) only [↓nx_q, zb0_s, zb1_s, zb2_s, zb3_s, zb4_s, zb5_s, zb6_s, zb7_s, zb8_s, zb9_s, zb10_s, zb11_s, zb12_s, zb13_s, zb14_s, q_lit, nI_add, pk_mul, e_cl, gi_in, gz_n0, gz_n1, e_gz, si_eq, si_ne, sa_eq, sa_ne, if_true, if_false, ↓reduceIte, k_ltT, k_ltF, k_leT, k_leF, k_eqT, k_eqF, k_m1lt, k_nm1, not_true_eq_false, not_false_eq_true, e13, e14, e15, e_sub, l1, ofN]
        rw [ok_ze0]
        refine ok_mono (ok_zl1 (Q := fun y => (y = .inl () ∧ ∀ j, j < 4 → nI (t (a + j)) = wdI 2 j) ∨ (y = .inr (nI 0) ∧ ¬ ∀ j, j < 4 → nI (t (a + j)) = wdI 2 j)) (fun i kk => kk = nI i ∧ ∀ j, j < i → nI (t (a + j)) = wdI 2 j) 4 (fun i kk hi hI => ?_) (fu_lt (by decide)) ⟨rfl, fun j hj => absurd hj (Nat.not_lt_zero _)⟩) (fun y hy => ?_)
        · obtain ⟨rfl, h⟩ := hI
          by_cases qi : i = 4
          · subst qi
            simp (maxSteps := 3000000) (disch := omega) only [↓nx_q, zb0_s, zb1_s, zb2_s, zb3_s, zb4_s, zb5_s, zb6_s, zb7_s, zb8_s, zb9_s, zb10_s, zb11_s, zb12_s, zb13_s, zb14_s, q_lit, nI_add, pk_mul, e_cl, gi_in, gz_n0, gz_n1, e_gz, si_eq, si_ne, sa_eq, sa_ne, if_true, if_false, ↓reduceIte, k_ltT, k_ltF, k_leT, k_leF, k_eqT, k_eqF, k_m1lt, k_nm1, not_true_eq_false, not_false_eq_true]
            exact ⟨_, rfl, Or.inl ⟨rfl, h⟩⟩
          · have c2 := (hT.2.2 (a + i) (by omega)).2
            by_cases qe : nI (t (a + i)) = wdI 2 i
            · have qe' : (nI (t (a + i)) = (sxB.getD 2 []).getD i (nI 0)) = True := eq_true qe
              simp (maxSteps := 3000000) (disch := omega) only [↓nx_q, zb0_s, zb1_s, zb2_s, zb3_s, zb4_s, zb5_s, zb6_s, zb7_s, zb8_s, zb9_s, zb10_s, zb11_s, zb12_s, zb13_s, zb14_s, q_lit, nI_add, pk_mul, e_cl, gi_in, gz_n0, gz_n1, e_gz, si_eq, si_ne, sa_eq, sa_ne, if_true, if_false, ↓reduceIte, k_ltT, k_ltF, k_leT, k_leF, k_eqT, k_eqF, k_m1lt, k_nm1, not_true_eq_false, not_false_eq_true, c2, qe']
              refine ⟨_, rfl, by omega, rfl, fun j hj => ?_⟩
              by_cases e : j = i
              · subst e; exact qe
              · exact h j (by omega)
            · have qe' : (nI (t (a + i)) = (sxB.getD 2 []).getD i (nI 0)) = False := eq_false qe
              simp (maxSteps := 3000000) (disch := omega) only [↓nx_q, zb0_s, zb1_s, zb2_s, zb3_s, zb4_s, zb5_s, zb6_s, zb7_s, zb8_s, zb9_s, zb10_s, zb11_s, zb12_s, zb13_s, zb14_s, q_lit, nI_add, pk_mul, e_cl, gi_in, gz_n0, gz_n1, e_gz, si_eq, si_ne, sa_eq, sa_ne, if_true, if_false, ↓reduceIte, k_ltT, k_ltF, k_leT, k_leF, k_eqT, k_eqF, k_m1lt, k_nm1, not_true_eq_false, not_false_eq_true, c2, qe']
              exact ⟨_, rfl, Or.inr ⟨rfl, fun h => qe (h i (by omega))⟩⟩
        · rcases hy with ⟨rfl, h⟩ | ⟨rfl, h⟩
          · exact ⟨_, rfl, Or.inl ⟨⟨q, q2, h⟩, rfl⟩⟩
          · exact ⟨_, rfl, Or.inr ⟨fun w => h w.2.2, rfl⟩⟩
      · simp (maxSteps := 3000000) (disch := omega) only [↓nx_q, zb0_s, zb1_s, zb2_s, zb3_s, zb4_s, zb5_s, zb6_s, zb7_s, zb8_s, zb9_s, zb10_s, zb11_s, zb12_s, zb13_s, zb14_s, q_lit, nI_add, pk_mul, e_cl, gi_in, gz_n0, gz_n1, e_gz, si_eq, si_ne, sa_eq, sa_ne, if_true, if_false, ↓reduceIte, k_ltT, k_ltF, k_leT, k_leF, k_eqT, k_eqF, k_m1lt, k_nm1, not_true_eq_false, not_false_eq_true, e13, e14, e15, e_sub, l1, ofN]
        exact ⟨_, rfl, Or.inr ⟨fun w => q2 w.2.1, rfl⟩⟩
    · simp (maxSteps := 3000000) (disch := omega) only [↓nx_q, zb0_s, zb1_s, zb2_s, zb3_s, zb4_s, zb5_s, zb6_s, zb7_s, zb8_s, zb9_s, zb10_s, zb11_s, zb12_s, zb13_s, zb14_s, q_lit, nI_add, pk_mul, e_cl, gi_in, gz_n0, gz_n1, e_gz, si_eq, si_ne, sa_eq, sa_ne, if_true, if_false, ↓reduceIte, k_ltT, k_ltF, k_leT, k_leF, k_eqT, k_eqF, k_m1lt, k_nm1, not_true_eq_false, not_false_eq_true, e13]
      exact ⟨_, rfl, Or.inr ⟨fun w => q w.1, rfl⟩⟩
  obtain ⟨r, er, h⟩ := key
  rw [er]
  rcases h with ⟨h, rfl⟩ | ⟨h, rfl⟩
  · exact ⟨fun _ => rfl, fun z => absurd h z⟩
  · exact ⟨fun z => absurd z h, fun _ => rfl⟩
theorem c_says3 {o : Ob} {t : Nat → Nat} {n a x k : Nat} (hT : TpC o t n) (hx : x ≤ n) (hk : k < 256) (hK : TkC o t a x k) (hax : a ≤ x) : (WdP t a x k 3 4 → f_X6_says__3 o = some (nI 1)) ∧ (¬ WdP t a x k 3 4 → f_X6_says__3 o = some (nI 0)) := by
  obtain ⟨e14, e15, e13, -⟩ := hK
  have hn := hT.2.1
  have l1 : sxL.getD 3 0 = 4 := rfl
  have key : Ok (f_X6_says__3 o) (fun r => (WdP t a x k 3 4 ∧ r = nI 1) ∨ (¬ WdP t a x k 3 4 ∧ r = nI 0)) := by
    unfold f_X6_says__3
    by_cases q : k = 2
    · by_cases q2 : x - a = 4
      · simp (maxSteps := 3000000) (disch := omega) only [↓nx_q, zb0_s, zb1_s, zb2_s, zb3_s, zb4_s, zb5_s, zb6_s, zb7_s, zb8_s, zb9_s, zb10_s, zb11_s, zb12_s, zb13_s, zb14_s, q_lit, nI_add, pk_mul, e_cl, gi_in, gz_n0, gz_n1, e_gz, si_eq, si_ne, sa_eq, sa_ne, if_true, if_false, ↓reduceIte, k_ltT, k_ltF, k_leT, k_leF, k_eqT, k_eqF, k_m1lt, k_nm1, not_true_eq_false, not_false_eq_true, e13, e14, e15, e_sub, l1, ofN]
        rw [ok_ze0]
        refine ok_mono (ok_zl1 (Q := fun y => (y = .inl () ∧ ∀ j, j < 4 → nI (t (a + j)) = wdI 3 j) ∨ (y = .inr (nI 0) ∧ ¬ ∀ j, j < 4 → nI (t (a + j)) = wdI 3 j)) (fun i kk => kk = nI i ∧ ∀ j, j < i → nI (t (a + j)) = wdI 3 j) 4 (fun i kk hi hI => ?_) (fu_lt (by decide)) ⟨rfl, fun j hj => absurd hj (Nat.not_lt_zero _)⟩) (fun y hy => ?_)
        · obtain ⟨rfl, h⟩ := hI
          by_cases qi : i = 4
          · subst qi
            simp (maxSteps := 3000000) (disch := omega) only [↓nx_q, zb0_s, zb1_s, zb2_s, zb3_s, zb4_s, zb5_s, zb6_s, zb7_s, zb8_s, zb9_s, zb10_s, zb11_s, zb12_s, zb13_s, zb14_s, q_lit, nI_add, pk_mul, e_cl, gi_in, gz_n0, gz_n1, e_gz, si_eq, si_ne, sa_eq, sa_ne, if_true, if_false, ↓reduceIte, k_ltT, k_ltF, k_leT, k_leF, k_eqT, k_eqF, k_m1lt, k_nm1, not_true_eq_false, not_false_eq_true]
            exact ⟨_, rfl, Or.inl ⟨rfl, h⟩⟩
          · have c2 := (hT.2.2 (a + i) (by omega)).2
            by_cases qe : nI (t (a + i)) = wdI 3 i
            · have qe' : (nI (t (a + i)) = (sxB.getD 3 []).getD i (nI 0)) = True := eq_true qe
              simp (maxSteps := 3000000) (disch := omega) only [↓nx_q, zb0_s, zb1_s, zb2_s, zb3_s, zb4_s, zb5_s, zb6_s, zb7_s, zb8_s, zb9_s, zb10_s, zb11_s, zb12_s, zb13_s, zb14_s, q_lit, nI_add, pk_mul, e_cl, gi_in, gz_n0, gz_n1, e_gz, si_eq, si_ne, sa_eq, sa_ne, if_true, if_false, ↓reduceIte, k_ltT, k_ltF, k_leT, k_leF, k_eqT, k_eqF, k_m1lt, k_nm1, not_true_eq_false, not_false_eq_true, c2, qe']
              refine ⟨_, rfl, by omega, rfl, fun j hj => ?_⟩
              by_cases e : j = i
              · subst e; exact qe
              · exact h j (by omega)
            · have qe' : (nI (t (a + i)) = (sxB.getD 3 []).getD i (nI 0)) = False := eq_false qe
              simp (maxSteps := 3000000) (disch := omega) only [↓nx_q, zb0_s, zb1_s, zb2_s, zb3_s, zb4_s, zb5_s, zb6_s, zb7_s, zb8_s, zb9_s, zb10_s, zb11_s, zb12_s, zb13_s, zb14_s, q_lit, nI_add, pk_mul, e_cl, gi_in, gz_n0, gz_n1, e_gz, si_eq, si_ne, sa_eq, sa_ne, if_true, if_false, ↓reduceIte, k_ltT, k_ltF, k_leT, k_leF, k_eqT, k_eqF, k_m1lt, k_nm1, not_true_eq_false, not_false_eq_true, c2, qe']
              exact ⟨_, rfl, Or.inr ⟨rfl, fun h => qe (h i (by omega))⟩⟩
        · rcases hy with ⟨rfl, h⟩ | ⟨rfl, h⟩
          · exact ⟨_, rfl, Or.inl ⟨⟨q, q2, h⟩, rfl⟩⟩
          · exact ⟨_, rfl, Or.inr ⟨fun w => h w.2.2, rfl⟩⟩
      · simp (maxSteps := 3000000) (disch := omega) only [↓nx_q, zb0_s, zb1_s, zb2_s, zb3_s, zb4_s, zb5_s, zb6_s, zb7_s, zb8_s, zb9_s, zb10_s, zb11_s, zb12_s, zb13_s, zb14_s, q_lit, nI_add, pk_mul, e_cl, gi_in, gz_n0, gz_n1, e_gz, si_eq, si_ne, sa_eq, sa_ne, if_true, if_false, ↓reduceIte, k_ltT, k_ltF, k_leT, k_leF, k_eqT, k_eqF, k_m1lt, k_nm1, not_true_eq_false, not_false_eq_true, e13, e14, e15, e_sub, l1, ofN]
        exact ⟨_, rfl, Or.inr ⟨fun w => q2 w.2.1, rfl⟩⟩
    · simp (maxSteps := 3000000) (disch := omega) only [↓nx_q, zb0_s, zb1_s, zb2_s, zb3_s, zb4_s, zb5_s, zb6_s, zb7_s, zb8_s, zb9_s, zb10_s, zb11_s, zb12_s, zb13_s, zb14_s, q_lit, nI_add, pk_mul, e_cl, gi_in, gz_n0, gz_n1, e_gz, si_eq, si_ne, sa_eq, sa_ne, if_true, if_false, ↓reduceIte, k_ltT, k_ltF, k_leT, k_leF, k_eqT, k_eqF, k_m1lt, k_nm1, not_true_eq_false, not_false_eq_true, e13]
      exact ⟨_, rfl, Or.inr ⟨fun w => q w.1, rfl⟩⟩
  obtain ⟨r, er, h⟩ := key
  rw [er]
  rcases h with ⟨h, rfl⟩ | ⟨h, rfl⟩
  · exact ⟨fun _ => rfl, fun z => absurd h z⟩
  · exact ⟨fun z => absurd z h, fun _ => rfl⟩
theorem c_says4 {o : Ob} {t : Nat → Nat} {n a x k : Nat} (hT : TpC o t n) (hx : x ≤ n) (hk : k < 256) (hK : TkC o t a x k) (hax : a ≤ x) : (WdP t a x k 4 4 → f_X6_says__4 o = some (nI 1)) ∧ (¬ WdP t a x k 4 4 → f_X6_says__4 o = some (nI 0)) := by
  obtain ⟨e14, e15, e13, -⟩ := hK
  have hn := hT.2.1
  have l1 : sxL.getD 4 0 = 4 := rfl
  have key : Ok (f_X6_says__4 o) (fun r => (WdP t a x k 4 4 ∧ r = nI 1) ∨ (¬ WdP t a x k 4 4 ∧ r = nI 0)) := by
    unfold f_X6_says__4
    by_cases q : k = 2
    · by_cases q2 : x - a = 4
      · simp (maxSteps := 3000000) (disch := omega) only [↓nx_q, zb0_s, zb1_s, zb2_s, zb3_s, zb4_s, zb5_s, zb6_s, zb7_s, zb8_s, zb9_s, zb10_s, zb11_s, zb12_s, zb13_s, zb14_s, q_lit, nI_add, pk_mul, e_cl, gi_in, gz_n0, gz_n1, e_gz, si_eq, si_ne, sa_eq, sa_ne, if_true, if_false, ↓reduceIte, k_ltT, k_ltF, k_leT, k_leF, k_eqT, k_eqF, k_m1lt, k_nm1, not_true_eq_false, not_false_eq_true, e13, e14, e15, e_sub, l1, ofN]
        rw [ok_ze0]
        refine ok_mono (ok_zl1 (Q := fun y => (y = .inl () ∧ ∀ j, j < 4 → nI (t (a + j)) = wdI 4 j) ∨ (y = .inr (nI 0) ∧ ¬ ∀ j, j < 4 → nI (t (a + j)) = wdI 4 j)) (fun i kk => kk = nI i ∧ ∀ j, j < i → nI (t (a + j)) = wdI 4 j) 4 (fun i kk hi hI => ?_) (fu_lt (by decide)) ⟨rfl, fun j hj => absurd hj (Nat.not_lt_zero _)⟩) (fun y hy => ?_)
        · obtain ⟨rfl, h⟩ := hI
          by_cases qi : i = 4
          · subst qi
            simp (maxSteps := 3000000) (disch := omega) only [↓nx_q, zb0_s, zb1_s, zb2_s, zb3_s, zb4_s, zb5_s, zb6_s, zb7_s, zb8_s, zb9_s, zb10_s, zb11_s, zb12_s, zb13_s, zb14_s, q_lit, nI_add, pk_mul, e_cl, gi_in, gz_n0, gz_n1, e_gz, si_eq, si_ne, sa_eq, sa_ne, if_true, if_false, ↓reduceIte, k_ltT, k_ltF, k_leT, k_leF, k_eqT, k_eqF, k_m1lt, k_nm1, not_true_eq_false, not_false_eq_true]
            exact ⟨_, rfl, Or.inl ⟨rfl, h⟩⟩
          · have c2 := (hT.2.2 (a + i) (by omega)).2
            by_cases qe : nI (t (a + i)) = wdI 4 i
            · have qe' : (nI (t (a + i)) = (sxB.getD 4 []).getD i (nI 0)) = True := eq_true qe
              simp (maxSteps := 3000000) (disch := omega) only [↓nx_q, zb0_s, zb1_s, zb2_s, zb3_s, zb4_s, zb5_s, zb6_s, zb7_s, zb8_s, zb9_s, zb10_s, zb11_s, zb12_s, zb13_s, zb14_s, q_lit, nI_add, pk_mul, e_cl, gi_in, gz_n0, gz_n1, e_gz, si_eq, si_ne, sa_eq, sa_ne, if_true, if_false, ↓reduceIte, k_ltT, k_ltF, k_leT, k_leF, k_eqT, k_eqF, k_m1lt, k_nm1, not_true_eq_false, not_false_eq_true, c2, qe']
              refine ⟨_, rfl, by omega, rfl, fun j hj => ?_⟩
              by_cases e : j = i
              · subst e; exact qe
              · exact h j (by omega)
            · have qe' : (nI (t (a + i)) = (sxB.getD 4 []).getD i (nI 0)) = False := eq_false qe
              simp (maxSteps := 3000000) (disch := omega) only [↓nx_q, zb0_s, zb1_s, zb2_s, zb3_s, zb4_s, zb5_s, zb6_s, zb7_s, zb8_s, zb9_s, zb10_s, zb11_s, zb12_s, zb13_s, zb14_s, q_lit, nI_add, pk_mul, e_cl, gi_in, gz_n0, gz_n1, e_gz, si_eq, si_ne, sa_eq, sa_ne, if_true, if_false, ↓reduceIte, k_ltT, k_ltF, k_leT, k_leF, k_eqT, k_eqF, k_m1lt, k_nm1, not_true_eq_false, not_false_eq_true, c2, qe']
              exact ⟨_, rfl, Or.inr ⟨rfl, fun h => qe (h i (by omega))⟩⟩
        · rcases hy with ⟨rfl, h⟩ | ⟨rfl, h⟩
          · exact ⟨_, rfl, Or.inl ⟨⟨q, q2, h⟩, rfl⟩⟩
          · exact ⟨_, rfl, Or.inr ⟨fun w => h w.2.2, rfl⟩⟩
      · simp (maxSteps := 3000000) (disch := omega) only [↓nx_q, zb0_s, zb1_s, zb2_s, zb3_s, zb4_s, zb5_s, zb6_s, zb7_s, zb8_s, zb9_s, zb10_s, zb11_s, zb12_s, zb13_s, zb14_s, q_lit, nI_add, pk_mul, e_cl, gi_in, gz_n0, gz_n1, e_gz, si_eq, si_ne, sa_eq, sa_ne, if_true, if_false, ↓reduceIte, k_ltT, k_ltF, k_leT, k_leF, k_eqT, k_eqF, k_m1lt, k_nm1, not_true_eq_false, not_false_eq_true, e13, e14, e15, e_sub, l1, ofN]
        exact ⟨_, rfl, Or.inr ⟨fun w => q2 w.2.1, rfl⟩⟩
    · simp (maxSteps := 3000000) (disch := omega) only [↓nx_q, zb0_s, zb1_s, zb2_s, zb3_s, zb4_s, zb5_s, zb6_s, zb7_s, zb8_s, zb9_s, zb10_s, zb11_s, zb12_s, zb13_s, zb14_s, q_lit, nI_add, pk_mul, e_cl, gi_in, gz_n0, gz_n1, e_gz, si_eq, si_ne, sa_eq, sa_ne, if_true, if_false, ↓reduceIte, k_ltT, k_ltF, k_leT, k_leF, k_eqT, k_eqF, k_m1lt, k_nm1, not_true_eq_false, not_false_eq_true, e13]
      exact ⟨_, rfl, Or.inr ⟨fun w => q w.1, rfl⟩⟩
  obtain ⟨r, er, h⟩ := key
  rw [er]
  rcases h with ⟨h, rfl⟩ | ⟨h, rfl⟩
  · exact ⟨fun _ => rfl, fun z => absurd h z⟩
  · exact ⟨fun z => absurd z h, fun _ => rfl⟩
theorem c_says5 {o : Ob} {t : Nat → Nat} {n a x k : Nat} (hT : TpC o t n) (hx : x ≤ n) (hk : k < 256) (hK : TkC o t a x k) (hax : a ≤ x) : (WdP t a x k 5 4 → f_X6_says__5 o = some (nI 1)) ∧ (¬ WdP t a x k 5 4 → f_X6_says__5 o = some (nI 0)) := by
  obtain ⟨e14, e15, e13, -⟩ := hK
  have hn := hT.2.1
  have l1 : sxL.getD 5 0 = 4 := rfl
  have key : Ok (f_X6_says__5 o) (fun r => (WdP t a x k 5 4 ∧ r = nI 1) ∨ (¬ WdP t a x k 5 4 ∧ r = nI 0)) := by
    unfold f_X6_says__5
    by_cases q : k = 2
    · by_cases q2 : x - a = 4
      · simp (maxSteps := 3000000) (disch := omega) only [↓nx_q, zb0_s, zb1_s, zb2_s, zb3_s, zb4_s, zb5_s, zb6_s, zb7_s, zb8_s, zb9_s, zb10_s, zb11_s, zb12_s, zb13_s, zb14_s, q_lit, nI_add, pk_mul, e_cl, gi_in, gz_n0, gz_n1, e_gz, si_eq, si_ne, sa_eq, sa_ne, if_true, if_false, ↓reduceIte, k_ltT, k_ltF, k_leT, k_leF, k_eqT, k_eqF, k_m1lt, k_nm1, not_true_eq_false, not_false_eq_true, e13, e14, e15, e_sub, l1, ofN]
        rw [ok_ze0]
        refine ok_mono (ok_zl1 (Q := fun y => (y = .inl () ∧ ∀ j, j < 4 → nI (t (a + j)) = wdI 5 j) ∨ (y = .inr (nI 0) ∧ ¬ ∀ j, j < 4 → nI (t (a + j)) = wdI 5 j)) (fun i kk => kk = nI i ∧ ∀ j, j < i → nI (t (a + j)) = wdI 5 j) 4 (fun i kk hi hI => ?_) (fu_lt (by decide)) ⟨rfl, fun j hj => absurd hj (Nat.not_lt_zero _)⟩) (fun y hy => ?_)
        · obtain ⟨rfl, h⟩ := hI
          by_cases qi : i = 4
          · subst qi
            simp (maxSteps := 3000000) (disch := omega) only [↓nx_q, zb0_s, zb1_s, zb2_s, zb3_s, zb4_s, zb5_s, zb6_s, zb7_s, zb8_s, zb9_s, zb10_s, zb11_s, zb12_s, zb13_s, zb14_s, q_lit, nI_add, pk_mul, e_cl, gi_in, gz_n0, gz_n1, e_gz, si_eq, si_ne, sa_eq, sa_ne, if_true, if_false, ↓reduceIte, k_ltT, k_ltF, k_leT, k_leF, k_eqT, k_eqF, k_m1lt, k_nm1, not_true_eq_false, not_false_eq_true]
            exact ⟨_, rfl, Or.inl ⟨rfl, h⟩⟩
          · have c2 := (hT.2.2 (a + i) (by omega)).2
            by_cases qe : nI (t (a + i)) = wdI 5 i
            · have qe' : (nI (t (a + i)) = (sxB.getD 5 []).getD i (nI 0)) = True := eq_true qe
              simp (maxSteps := 3000000) (disch := omega) only [↓nx_q, zb0_s, zb1_s, zb2_s, zb3_s, zb4_s, zb5_s, zb6_s, zb7_s, zb8_s, zb9_s, zb10_s, zb11_s, zb12_s, zb13_s, zb14_s, q_lit, nI_add, pk_mul, e_cl, gi_in, gz_n0, gz_n1, e_gz, si_eq, si_ne, sa_eq, sa_ne, if_true, if_false, ↓reduceIte, k_ltT, k_ltF, k_leT, k_leF, k_eqT, k_eqF, k_m1lt, k_nm1, not_true_eq_false, not_false_eq_true, c2, qe']
              refine ⟨_, rfl, by omega, rfl, fun j hj => ?_⟩
              by_cases e : j = i
              · subst e; exact qe
              · exact h j (by omega)
            · have qe' : (nI (t (a + i)) = (sxB.getD 5 []).getD i (nI 0)) = False := eq_false qe
              simp (maxSteps := 3000000) (disch := omega) only [↓nx_q, zb0_s, zb1_s, zb2_s, zb3_s, zb4_s, zb5_s, zb6_s, zb7_s, zb8_s, zb9_s, zb10_s, zb11_s, zb12_s, zb13_s, zb14_s, q_lit, nI_add, pk_mul, e_cl, gi_in, gz_n0, gz_n1, e_gz, si_eq, si_ne, sa_eq, sa_ne, if_true, if_false, ↓reduceIte, k_ltT, k_ltF, k_leT, k_leF, k_eqT, k_eqF, k_m1lt, k_nm1, not_true_eq_false, not_false_eq_true, c2, qe']
              exact ⟨_, rfl, Or.inr ⟨rfl, fun h => qe (h i (by omega))⟩⟩
        · rcases hy with ⟨rfl, h⟩ | ⟨rfl, h⟩
          · exact ⟨_, rfl, Or.inl ⟨⟨q, q2, h⟩, rfl⟩⟩
          · exact ⟨_, rfl, Or.inr ⟨fun w => h w.2.2, rfl⟩⟩
      · simp (maxSteps := 3000000) (disch := omega) only [↓nx_q, zb0_s, zb1_s, zb2_s, zb3_s, zb4_s, zb5_s, zb6_s, zb7_s, zb8_s, zb9_s, zb10_s, zb11_s, zb12_s, zb13_s, zb14_s, q_lit, nI_add, pk_mul, e_cl, gi_in, gz_n0, gz_n1, e_gz, si_eq, si_ne, sa_eq, sa_ne, if_true, if_false, ↓reduceIte, k_ltT, k_ltF, k_leT, k_leF, k_eqT, k_eqF, k_m1lt, k_nm1, not_true_eq_false, not_false_eq_true, e13, e14, e15, e_sub, l1, ofN]
        exact ⟨_, rfl, Or.inr ⟨fun w => q2 w.2.1, rfl⟩⟩
    · simp (maxSteps := 3000000) (disch := omega) only [↓nx_q, zb0_s, zb1_s, zb2_s, zb3_s, zb4_s, zb5_s, zb6_s, zb7_s, zb8_s, zb9_s, zb10_s, zb11_s, zb12_s, zb13_s, zb14_s, q_lit, nI_add, pk_mul, e_cl, gi_in, gz_n0, gz_n1, e_gz, si_eq, si_ne, sa_eq, sa_ne, if_true, if_false, ↓reduceIte, k_ltT, k_ltF, k_leT, k_leF, k_eqT, k_eqF, k_m1lt, k_nm1, not_true_eq_false, not_false_eq_true, e13]
      exact ⟨_, rfl, Or.inr ⟨fun w => q w.1, rfl⟩⟩
  obtain ⟨r, er, h⟩ := key
  rw [er]
  rcases h with ⟨h, rfl⟩ | ⟨h, rfl⟩
  · exact ⟨fun _ => rfl, fun z => absurd h z⟩
  · exact ⟨fun z => absurd z h, fun _ => rfl⟩
theorem c_says6 {o : Ob} {t : Nat → Nat} {n a x k : Nat} (hT : TpC o t n) (hx : x ≤ n) (hk : k < 256) (hK : TkC o t a x k) (hax : a ≤ x) : (WdP t a x k 6 5 → f_X6_says__6 o = some (nI 1)) ∧ (¬ WdP t a x k 6 5 → f_X6_says__6 o = some (nI 0)) := by
  obtain ⟨e14, e15, e13, -⟩ := hK
  have hn := hT.2.1
  have l1 : sxL.getD 6 0 = 5 := rfl
  have key : Ok (f_X6_says__6 o) (fun r => (WdP t a x k 6 5 ∧ r = nI 1) ∨ (¬ WdP t a x k 6 5 ∧ r = nI 0)) := by
    unfold f_X6_says__6
    by_cases q : k = 2
    · by_cases q2 : x - a = 5
      · simp (maxSteps := 3000000) (disch := omega) only [↓nx_q, zb0_s, zb1_s, zb2_s, zb3_s, zb4_s, zb5_s, zb6_s, zb7_s, zb8_s, zb9_s, zb10_s, zb11_s, zb12_s, zb13_s, zb14_s, q_lit, nI_add, pk_mul, e_cl, gi_in, gz_n0, gz_n1, e_gz, si_eq, si_ne, sa_eq, sa_ne, if_true, if_false, ↓reduceIte, k_ltT, k_ltF, k_leT, k_leF, k_eqT, k_eqF, k_m1lt, k_nm1, not_true_eq_false, not_false_eq_true, e13, e14, e15, e_sub, l1, ofN]
        rw [ok_ze0]
        refine ok_mono (ok_zl1 (Q := fun y => (y = .inl () ∧ ∀ j, j < 5 → nI (t (a + j)) = wdI 6 j) ∨ (y = .inr (nI 0) ∧ ¬ ∀ j, j < 5 → nI (t (a + j)) = wdI 6 j)) (fun i kk => kk = nI i ∧ ∀ j, j < i → nI (t (a + j)) = wdI 6 j) 5 (fun i kk hi hI => ?_) (fu_lt (by decide)) ⟨rfl, fun j hj => absurd hj (Nat.not_lt_zero _)⟩) (fun y hy => ?_)
        · obtain ⟨rfl, h⟩ := hI
          by_cases qi : i = 5
          · subst qi
            simp (maxSteps := 3000000) (disch := omega) only [↓nx_q, zb0_s, zb1_s, zb2_s, zb3_s, zb4_s, zb5_s, zb6_s, zb7_s, zb8_s, zb9_s, zb10_s, zb11_s, zb12_s, zb13_s, zb14_s, q_lit, nI_add, pk_mul, e_cl, gi_in, gz_n0, gz_n1, e_gz, si_eq, si_ne, sa_eq, sa_ne, if_true, if_false, ↓reduceIte, k_ltT, k_ltF, k_leT, k_leF, k_eqT, k_eqF, k_m1lt, k_nm1, not_true_eq_false, not_false_eq_true]
            exact ⟨_, rfl, Or.inl ⟨rfl, h⟩⟩
          · have c2 := (hT.2.2 (a + i) (by omega)).2
            by_cases qe : nI (t (a + i)) = wdI 6 i
            · have qe' : (nI (t (a + i)) = (sxB.getD 6 []).getD i (nI 0)) = True := eq_true qe
              simp (maxSteps := 3000000) (disch := omega) only [↓nx_q, zb0_s, zb1_s, zb2_s, zb3_s, zb4_s, zb5_s, zb6_s, zb7_s, zb8_s, zb9_s, zb10_s, zb11_s, zb12_s, zb13_s, zb14_s, q_lit, nI_add, pk_mul, e_cl, gi_in, gz_n0, gz_n1, e_gz, si_eq, si_ne, sa_eq, sa_ne, if_true, if_false, ↓reduceIte, k_ltT, k_ltF, k_leT, k_leF, k_eqT, k_eqF, k_m1lt, k_nm1, not_true_eq_false, not_false_eq_true, c2, qe']
              refine ⟨_, rfl, by omega, rfl, fun j hj => ?_⟩
              by_cases e : j = i
              · subst e; exact qe
              · exact h j (by omega)
            · have qe' : (nI (t (a + i)) = (sxB.getD 6 []).getD i (nI 0)) = False := eq_false qe
              simp (maxSteps := 3000000) (disch := omega) only [↓nx_q, zb0_s, zb1_s, zb2_s, zb3_s, zb4_s, zb5_s, zb6_s, zb7_s, zb8_s, zb9_s, zb10_s, zb11_s, zb12_s, zb13_s, zb14_s, q_lit, nI_add, pk_mul, e_cl, gi_in, gz_n0, gz_n1, e_gz, si_eq, si_ne, sa_eq, sa_ne, if_true, if_false, ↓reduceIte, k_ltT, k_ltF, k_leT, k_leF, k_eqT, k_eqF, k_m1lt, k_nm1, not_true_eq_false, not_false_eq_true, c2, qe']
              exact ⟨_, rfl, Or.inr ⟨rfl, fun h => qe (h i (by omega))⟩⟩
        · rcases hy with ⟨rfl, h⟩ | ⟨rfl, h⟩
          · exact ⟨_, rfl, Or.inl ⟨⟨q, q2, h⟩, rfl⟩⟩
          · exact ⟨_, rfl, Or.inr ⟨fun w => h w.2.2, rfl⟩⟩
      · simp (maxSteps := 3000000) (disch := omega) only [↓nx_q, zb0_s, zb1_s, zb2_s, zb3_s, zb4_s, zb5_s, zb6_s, zb7_s, zb8_s, zb9_s, zb10_s, zb11_s, zb12_s, zb13_s, zb14_s, q_lit, nI_add, pk_mul, e_cl, gi_in, gz_n0, gz_n1, e_gz, si_eq, si_ne, sa_eq, sa_ne, if_true, if_false, ↓reduceIte, k_ltT, k_ltF, k_leT, k_leF, k_eqT, k_eqF, k_m1lt, k_nm1, not_true_eq_false, not_false_eq_true, e13, e14, e15, e_sub, l1, ofN]
        exact ⟨_, rfl, Or.inr ⟨fun w => q2 w.2.1, rfl⟩⟩
    · simp (maxSteps := 3000000) (disch := omega) only [↓nx_q, zb0_s, zb1_s, zb2_s, zb3_s, zb4_s, zb5_s, zb6_s, zb7_s, zb8_s, zb9_s, zb10_s, zb11_s, zb12_s, zb13_s, zb14_s, q_lit, nI_add, pk_mul, e_cl, gi_in, gz_n0, gz_n1, e_gz, si_eq, si_ne, sa_eq, sa_ne, if_true, if_false, ↓reduceIte, k_ltT, k_ltF, k_leT, k_leF, k_eqT, k_eqF, k_m1lt, k_nm1, not_true_eq_false, not_false_eq_true, e13]
      exact ⟨_, rfl, Or.inr ⟨fun w => q w.1, rfl⟩⟩
  obtain ⟨r, er, h⟩ := key
  rw [er]
  rcases h with ⟨h, rfl⟩ | ⟨h, rfl⟩
  · exact ⟨fun _ => rfl, fun z => absurd h z⟩
  · exact ⟨fun z => absurd z h, fun _ => rfl⟩
theorem m_kn0 {M : Ob} {B : Int32 → Int32 → Option ((Int32 × Int32) ⊕ Int32)} (hB : B (nI 0) (nI 0) = some (.inr (nI 0))) : zl2 B FU (nI 0) (nI 0) = some (nI 0) := zl2_fo (fun _ => nI 0) (fun _ => nI 0) 0 _ (fu_lt (by decide)) rfl rfl (fun i hi => absurd hi (Nat.not_lt_zero _)) hB
theorem m_known {M : Ob} {t : Nat → Nat} {a x k c m L : Nat} (hK : TkM M t a x k) (hxa : x - a ≤ 400) (hm : m < 7) (hL : L = if m = 3 then 5 else 4) (hw : ∀ j, j < L → sxK.getD (5 * m + j) 0 = wdI c j) : (WdP t a x k c L → f_X12_isKnown M (nI m) = some (nI 1)) ∧ (¬ WdP t a x k c L → f_X12_isKnown M (nI m) = some (nI 0)) := by
  obtain ⟨-, -, e11, e2, -, -⟩ := hK
  have hk4 := kM_le k
  have l4 : L = 4 ∨ L = 5 := by rw [hL]; split <;> omega
  have key : Ok (f_X12_isKnown M (nI m)) (fun r => (WdP t a x k c L ∧ r = nI 1) ∨ (¬ WdP t a x k c L ∧ r = nI 0)) := by
    unfold f_X12_isKnown
    by_cases q : k = 2
    · have e11' : M 11 0 = nI 1 := by rw [e11, kM_1.mpr q]
      obtain ⟨e16, e15⟩ := e2 q
      by_cases q2 : x - a = L
      · have st : ∀ B : Int32 → Int32 → Option ((Int32 × Int32) ⊕ Int32), (∀ k22 k23, B k22 k23 = (
          if M 16 0 ≤ k23 then (
          some (.inr k22)
          ) else (
          if k22 = 0 then (
          some (.inr k22)
          ) else (
          gi k23 6 <|
          gi (((5 : Int32) * nI m) + k23) 35 <|
          if M 15 (Int32.toNatClampNeg k23) = sxK.getD (Int32.toNatClampNeg (((5 : Int32) * nI m) + k23)) 0 then (
          nx (k23 + (1 : Int32)) fun x31 =>
          some (.inl ((1 : Int32), x31))
          ) else (
          nx (k23 + (1 : Int32)) fun x30 =>
          some (.inl ((0 : Int32), x30))
          )
          )
          ))) → Ok (zl2 B FU (nI 1) (nI 0)) (fun r => (WdP t a x k c L ∧ r = nI 1) ∨ (¬ WdP t a x k c L ∧ r = nI 0)) := by
          intro B hB
          refine ok_zl2 (fun i f kk => kk = nI i ∧ ((f = nI 1 ∧ ∀ j, j < i → nI (t (a + j)) = wdI c j) ∨ (f = nI 0 ∧ ∃ j, j < i ∧ nI (t (a + j)) ≠ wdI c j))) L (fun i f kk hi hI => ?_) (fu_lt (by omega)) ⟨rfl, Or.inl ⟨rfl, fun j hj => absurd hj (Nat.not_lt_zero _)⟩⟩
          obtain ⟨rfl, h⟩ := hI
          rw [hB]
          have e16' : M 16 0 = nI L := by rw [e16, q2]
          rcases h with ⟨rfl, h⟩ | ⟨rfl, j, hj, h⟩
          · by_cases qi : i = L
            · simp (maxSteps := 3000000) (disch := omega) only [↓nx_q, zb0_s, zb1_s, zb2_s, zb3_s, zb4_s, zb5_s, zb6_s, zb7_s, zb8_s, zb9_s, zb10_s, zb11_s, zb12_s, zb13_s, zb14_s, q_lit, nI_add, pk_mul, e_cl, gi_in, gz_n0, gz_n1, e_gz, si_eq, si_ne, sa_eq, sa_ne, if_true, if_false, ↓reduceIte, k_ltT, k_ltF, k_leT, k_leF, k_eqT, k_eqF, k_m1lt, k_nm1, not_true_eq_false, not_false_eq_true, e16']
              subst qi
              exact ⟨_, rfl, Or.inl ⟨⟨q, q2, h⟩, rfl⟩⟩
            · have c2 := e15 i (by omega)
              have w2 : sxK.getD (5 * m + i) (nI 0) = wdI c i := hw i (by omega)
              by_cases qe : nI (t (a + i)) = wdI c i
              · simp (maxSteps := 3000000) (disch := omega) only [↓nx_q, zb0_s, zb1_s, zb2_s, zb3_s, zb4_s, zb5_s, zb6_s, zb7_s, zb8_s, zb9_s, zb10_s, zb11_s, zb12_s, zb13_s, zb14_s, q_lit, nI_add, pk_mul, e_cl, gi_in, gz_n0, gz_n1, e_gz, si_eq, si_ne, sa_eq, sa_ne, if_true, if_false, ↓reduceIte, k_ltT, k_ltF, k_leT, k_leF, k_eqT, k_eqF, k_m1lt, k_nm1, not_true_eq_false, not_false_eq_true, e16', c2, w2, eq_true qe]
                refine ⟨_, rfl, by omega, rfl, Or.inl ⟨rfl, fun j hj => ?_⟩⟩
                by_cases e : j = i
                · subst e; exact qe
                · exact h j (by omega)
              · simp (maxSteps := 3000000) (disch := omega) only [↓nx_q, zb0_s, zb1_s, zb2_s, zb3_s, zb4_s, zb5_s, zb6_s, zb7_s, zb8_s, zb9_s, zb10_s, zb11_s, zb12_s, zb13_s, zb14_s, q_lit, nI_add, pk_mul, e_cl, gi_in, gz_n0, gz_n1, e_gz, si_eq, si_ne, sa_eq, sa_ne, if_true, if_false, ↓reduceIte, k_ltT, k_ltF, k_leT, k_leF, k_eqT, k_eqF, k_m1lt, k_nm1, not_true_eq_false, not_false_eq_true, e16', c2, w2, eq_false qe]
                exact ⟨_, rfl, by omega, rfl, Or.inr ⟨rfl, i, by omega, qe⟩⟩
          · have fin : ∃ y, (some (Sum.inr (nI 0)) : Option ((Int32 × Int32) ⊕ Int32)) = some y ∧ Lp (fun p => i < L ∧ p.2 = nI (i + 1) ∧ ((p.1 = nI 1 ∧ ∀ j, j < i + 1 → nI (t (a + j)) = wdI c j) ∨ (p.1 = nI 0 ∧ ∃ j, j < i + 1 ∧ nI (t (a + j)) ≠ wdI c j))) (fun r => (WdP t a x k c L ∧ r = nI 1) ∨ (¬ WdP t a x k c L ∧ r = nI 0)) y := ⟨_, rfl, Or.inr ⟨fun w => h (w.2.2 j (by omega)), rfl⟩⟩
            by_cases qi : i = L
            · simp (maxSteps := 3000000) (disch := omega) only [↓nx_q, zb0_s, zb1_s, zb2_s, zb3_s, zb4_s, zb5_s, zb6_s, zb7_s, zb8_s, zb9_s, zb10_s, zb11_s, zb12_s, zb13_s, zb14_s, q_lit, nI_add, pk_mul, e_cl, gi_in, gz_n0, gz_n1, e_gz, si_eq, si_ne, sa_eq, sa_ne, if_true, if_false, ↓reduceIte, k_ltT, k_ltF, k_leT, k_leF, k_eqT, k_eqF, k_m1lt, k_nm1, not_true_eq_false, not_false_eq_true, e16']
              exact fin
            · simp (maxSteps := 3000000) (disch := omega) only [↓nx_q, zb0_s, zb1_s, zb2_s, zb3_s, zb4_s, zb5_s, zb6_s, zb7_s, zb8_s, zb9_s, zb10_s, zb11_s, zb12_s, zb13_s, zb14_s, q_lit, nI_add, pk_mul, e_cl, gi_in, gz_n0, gz_n1, e_gz, si_eq, si_ne, sa_eq, sa_ne, if_true, if_false, ↓reduceIte, k_ltT, k_ltF, k_leT, k_leF, k_eqT, k_eqF, k_m1lt, k_nm1, not_true_eq_false, not_false_eq_true, e16']
              exact fin
        have ok1 : ∀ B : Int32 → Int32 → Option ((Int32 × Int32) ⊕ Int32), Ok (zl2 B FU (nI 1) (nI 0)) (fun r => (WdP t a x k c L ∧ r = nI 1) ∨ (¬ WdP t a x k c L ∧ r = nI 0)) → Ok (zb1 (zl2 B FU (nI 1) (nI 0)) fun k24 => gz k24 (some k24)) (fun r => (WdP t a x k c L ∧ r = nI 1) ∨ (¬ WdP t a x k c L ∧ r = nI 0)) := by
          intro B h
          rw [ok_zb1]
          refine ok_mono h (fun y hy => ?_)
          rcases hy with ⟨h, rfl⟩ | ⟨h, rfl⟩
          · rw [gz_n1]; exact ⟨_, rfl, Or.inl ⟨h, rfl⟩⟩
          · rw [gz_n0]; exact ⟨_, rfl, Or.inr ⟨h, rfl⟩⟩
        by_cases q3 : m = 3
        · rw [if_pos q3] at hL
          simp (maxSteps := 3000000) (disch := omega) only [↓nx_q, zb0_s, zb1_s, zb2_s, zb3_s, zb4_s, zb5_s, zb6_s, zb7_s, zb8_s, zb9_s, zb10_s, zb11_s, zb12_s, zb13_s, zb14_s, q_lit, nI_add, pk_mul, e_cl, gi_in, gz_n0, gz_n1, e_gz, si_eq, si_ne, sa_eq, sa_ne, if_true, if_false, ↓reduceIte, k_ltT, k_ltF, k_leT, k_leF, k_eqT, k_eqF, k_m1lt, k_nm1, not_true_eq_false, not_false_eq_true, e11', e16]
          exact ok1 _ (st _ (fun f g => by simp (maxSteps := 3000000) (disch := omega) only [↓nx_q, zb0_s, zb1_s, zb2_s, zb3_s, zb4_s, zb5_s, zb6_s, zb7_s, zb8_s, zb9_s, zb10_s, zb11_s, zb12_s, zb13_s, zb14_s, q_lit, nI_add, pk_mul, e_cl, gi_in, gz_n0, gz_n1, e_gz, si_eq, si_ne, sa_eq, sa_ne, if_true, if_false, ↓reduceIte, k_ltT, k_ltF, k_leT, k_leF, k_eqT, k_eqF, k_m1lt, k_nm1, not_true_eq_false, not_false_eq_true, e16]))
        · rw [if_neg q3] at hL
          simp (maxSteps := 3000000) (disch := omega) only [↓nx_q, zb0_s, zb1_s, zb2_s, zb3_s, zb4_s, zb5_s, zb6_s, zb7_s, zb8_s, zb9_s, zb10_s, zb11_s, zb12_s, zb13_s, zb14_s, q_lit, nI_add, pk_mul, e_cl, gi_in, gz_n0, gz_n1, e_gz, si_eq, si_ne, sa_eq, sa_ne, if_true, if_false, ↓reduceIte, k_ltT, k_ltF, k_leT, k_leF, k_eqT, k_eqF, k_m1lt, k_nm1, not_true_eq_false, not_false_eq_true, e11', e16]
          exact ok1 _ (st _ (fun f g => by simp (maxSteps := 3000000) (disch := omega) only [↓nx_q, zb0_s, zb1_s, zb2_s, zb3_s, zb4_s, zb5_s, zb6_s, zb7_s, zb8_s, zb9_s, zb10_s, zb11_s, zb12_s, zb13_s, zb14_s, q_lit, nI_add, pk_mul, e_cl, gi_in, gz_n0, gz_n1, e_gz, si_eq, si_ne, sa_eq, sa_ne, if_true, if_false, ↓reduceIte, k_ltT, k_ltF, k_leT, k_leF, k_eqT, k_eqF, k_m1lt, k_nm1, not_true_eq_false, not_false_eq_true, e16]))
      · have fin : ∀ B : Int32 → Int32 → Option ((Int32 × Int32) ⊕ Int32), B (nI 0) (nI 0) = some (.inr (nI 0)) → Ok (zb1 (zl2 B FU (nI 0) (nI 0)) fun k24 => gz k24 (some k24)) (fun r => (WdP t a x k c L ∧ r = nI 1) ∨ (¬ WdP t a x k c L ∧ r = nI 0)) := by
          intro B hB
          rw [zb1_of (m_kn0 (M := M) hB), gz_n0]
          exact ⟨_, rfl, Or.inr ⟨fun w => q2 w.2.1, rfl⟩⟩
        by_cases q3 : m = 3
        · rw [if_pos q3] at hL
          simp (maxSteps := 3000000) (disch := omega) only [↓nx_q, zb0_s, zb1_s, zb2_s, zb3_s, zb4_s, zb5_s, zb6_s, zb7_s, zb8_s, zb9_s, zb10_s, zb11_s, zb12_s, zb13_s, zb14_s, q_lit, nI_add, pk_mul, e_cl, gi_in, gz_n0, gz_n1, e_gz, si_eq, si_ne, sa_eq, sa_ne, if_true, if_false, ↓reduceIte, k_ltT, k_ltF, k_leT, k_leF, k_eqT, k_eqF, k_m1lt, k_nm1, not_true_eq_false, not_false_eq_true, e11', e16]
          refine fin _ ?_
          by_cases z0 : x - a = 0
          · simp (maxSteps := 3000000) (disch := omega) only [↓nx_q, zb0_s, zb1_s, zb2_s, zb3_s, zb4_s, zb5_s, zb6_s, zb7_s, zb8_s, zb9_s, zb10_s, zb11_s, zb12_s, zb13_s, zb14_s, q_lit, nI_add, pk_mul, e_cl, gi_in, gz_n0, gz_n1, e_gz, si_eq, si_ne, sa_eq, sa_ne, if_true, if_false, ↓reduceIte, k_ltT, k_ltF, k_leT, k_leF, k_eqT, k_eqF, k_m1lt, k_nm1, not_true_eq_false, not_false_eq_true, e16]
          · simp (maxSteps := 3000000) (disch := omega) only [↓nx_q, zb0_s, zb1_s, zb2_s, zb3_s, zb4_s, zb5_s, zb6_s, zb7_s, zb8_s, zb9_s, zb10_s, zb11_s, zb12_s, zb13_s, zb14_s, q_lit, nI_add, pk_mul, e_cl, gi_in, gz_n0, gz_n1, e_gz, si_eq, si_ne, sa_eq, sa_ne, if_true, if_false, ↓reduceIte, k_ltT, k_ltF, k_leT, k_leF, k_eqT, k_eqF, k_m1lt, k_nm1, not_true_eq_false, not_false_eq_true, e16]
        · rw [if_neg q3] at hL
          simp (maxSteps := 3000000) (disch := omega) only [↓nx_q, zb0_s, zb1_s, zb2_s, zb3_s, zb4_s, zb5_s, zb6_s, zb7_s, zb8_s, zb9_s, zb10_s, zb11_s, zb12_s, zb13_s, zb14_s, q_lit, nI_add, pk_mul, e_cl, gi_in, gz_n0, gz_n1, e_gz, si_eq, si_ne, sa_eq, sa_ne, if_true, if_false, ↓reduceIte, k_ltT, k_ltF, k_leT, k_leF, k_eqT, k_eqF, k_m1lt, k_nm1, not_true_eq_false, not_false_eq_true, e11', e16]
          refine fin _ ?_
          by_cases z0 : x - a = 0
          · simp (maxSteps := 3000000) (disch := omega) only [↓nx_q, zb0_s, zb1_s, zb2_s, zb3_s, zb4_s, zb5_s, zb6_s, zb7_s, zb8_s, zb9_s, zb10_s, zb11_s, zb12_s, zb13_s, zb14_s, q_lit, nI_add, pk_mul, e_cl, gi_in, gz_n0, gz_n1, e_gz, si_eq, si_ne, sa_eq, sa_ne, if_true, if_false, ↓reduceIte, k_ltT, k_ltF, k_leT, k_leF, k_eqT, k_eqF, k_m1lt, k_nm1, not_true_eq_false, not_false_eq_true, e16]
          · simp (maxSteps := 3000000) (disch := omega) only [↓nx_q, zb0_s, zb1_s, zb2_s, zb3_s, zb4_s, zb5_s, zb6_s, zb7_s, zb8_s, zb9_s, zb10_s, zb11_s, zb12_s, zb13_s, zb14_s, q_lit, nI_add, pk_mul, e_cl, gi_in, gz_n0, gz_n1, e_gz, si_eq, si_ne, sa_eq, sa_ne, if_true, if_false, ↓reduceIte, k_ltT, k_ltF, k_leT, k_leF, k_eqT, k_eqF, k_m1lt, k_nm1, not_true_eq_false, not_false_eq_true, e16]
    · have hne : kM k ≠ 1 := fun e => q (kM_1.mp e)
      simp (maxSteps := 3000000) (disch := omega) only [↓nx_q, zb0_s, zb1_s, zb2_s, zb3_s, zb4_s, zb5_s, zb6_s, zb7_s, zb8_s, zb9_s, zb10_s, zb11_s, zb12_s, zb13_s, zb14_s, q_lit, nI_add, pk_mul, e_cl, gi_in, gz_n0, gz_n1, e_gz, si_eq, si_ne, sa_eq, sa_ne, if_true, if_false, ↓reduceIte, k_ltT, k_ltF, k_leT, k_leF, k_eqT, k_eqF, k_m1lt, k_nm1, not_true_eq_false, not_false_eq_true, e11]
      have fin : ∀ B : Int32 → Int32 → Option ((Int32 × Int32) ⊕ Int32), B (nI 0) (nI 0) = some (.inr (nI 0)) → Ok (zb1 (zl2 B FU (nI 0) (nI 0)) fun k24 => gz k24 (some k24)) (fun r => (WdP t a x k c L ∧ r = nI 1) ∨ (¬ WdP t a x k c L ∧ r = nI 0)) := by
        intro B hB
        rw [zb1_of (m_kn0 (M := M) hB), gz_n0]
        exact ⟨_, rfl, Or.inr ⟨fun w => q w.1, rfl⟩⟩
      refine fin _ ?_
      by_cases z : M 16 0 ≤ nI 0
      · simp (maxSteps := 3000000) (disch := omega) only [↓nx_q, zb0_s, zb1_s, zb2_s, zb3_s, zb4_s, zb5_s, zb6_s, zb7_s, zb8_s, zb9_s, zb10_s, zb11_s, zb12_s, zb13_s, zb14_s, q_lit, nI_add, pk_mul, e_cl, gi_in, gz_n0, gz_n1, e_gz, si_eq, si_ne, sa_eq, sa_ne, if_true, if_false, ↓reduceIte, k_ltT, k_ltF, k_leT, k_leF, k_eqT, k_eqF, k_m1lt, k_nm1, not_true_eq_false, not_false_eq_true, eq_true z]
      · simp (maxSteps := 3000000) (disch := omega) only [↓nx_q, zb0_s, zb1_s, zb2_s, zb3_s, zb4_s, zb5_s, zb6_s, zb7_s, zb8_s, zb9_s, zb10_s, zb11_s, zb12_s, zb13_s, zb14_s, q_lit, nI_add, pk_mul, e_cl, gi_in, gz_n0, gz_n1, e_gz, si_eq, si_ne, sa_eq, sa_ne, if_true, if_false, ↓reduceIte, k_ltT, k_ltF, k_leT, k_leF, k_eqT, k_eqF, k_m1lt, k_nm1, not_true_eq_false, not_false_eq_true, eq_false z]
  obtain ⟨r, er, h⟩ := key
  rw [er]
  rcases h with ⟨h, rfl⟩ | ⟨h, rfl⟩
  · exact ⟨fun _ => rfl, fun z => absurd h z⟩
  · exact ⟨fun z => absurd z h, fun _ => rfl⟩
