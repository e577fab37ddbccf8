/-! ===== reading: lines ===== -/
theorem c_numberOf {w : Ob} {τ : Nat → Nat} {t : Nat → Nat} {a d : Nat} (hw : RCw w τ) (h8 : τ 2 ≤ 8) (hn : WFn τ) (h1 : 1 ≤ d) (h6 : d ≤ 6) (hs : ∀ i, i < d → smC (t (a + i))) (hpk : ∀ j, j < τ 2 → packN τ j < 2147483648) : Ok (f_X10_numberOf w (nI (pkT t a d))) (fun r => (∃ j, j < τ 2 ∧ r = nI j ∧ MtP τ t a d j ∧ ∀ y, y < j → ¬ MtP τ t a d y) ∨ (r = -nI 1 ∧ ∀ y, y < τ 2 → ¬ MtP τ t a d y)) := by
  have hb : pkT t a d < 2147483648 := by
    have e : nlN t a d = d := by
      clear h1 h6
      induction d with
      | zero => rfl
      | succ d ih => rw [nl_s (hs d (by omega)), ih (fun i hi => hs i (by omega))]
    have := pkT_lt e
    have : 2 ^ (5 * d) ≤ 2 ^ 30 := pw_le (by omega)
    omega
  unfold f_X10_numberOf
  rw [ok_ze0]
  refine ok_mono (ok_zl1 (Q := fun y => (y = .inl () ∧ ∀ y, y < τ 2 → ¬ MtP τ t a d y) ∨ (∃ j, j < τ 2 ∧ y = .inr (nI j) ∧ MtP τ t a d j ∧ ∀ y, y < j → ¬ MtP τ t a d y)) (fun i kk => kk = nI i ∧ ∀ y, y < i → ¬ MtP τ t a d y) (τ 2) (fun i kk hi hI => ?_) (fu_lt (by omega)) ⟨rfl, fun y hy => absurd hy (Nat.not_lt_zero _)⟩) (fun y hy => ?_)
  · obtain ⟨rfl, h⟩ := hI
    have w0 := hw.1
    by_cases qi : i = τ 2
    · simp (maxSteps := 3000000) (disch := omega) only [↓nx_q, zb0_s, zb1_s, zb2_s, zb3_s, zb4_s, zb5_s, zb6_s, zb7_s, zb8_s, zb9_s, zb10_s, zb11_s, zb12_s, zb13_s, zb14_s, q_lit, nI_add, pk_mul, e_cl, gi_in, gz_n0, gz_n1, e_gz, si_eq, si_ne, sa_eq, sa_ne, if_true, if_false, ↓reduceIte, k_ltT, k_ltF, k_leT, k_leF, k_eqT, k_eqF, k_m1lt, k_nm1, not_true_eq_false, not_false_eq_true, w0]
      subst qi
      exact ⟨_, rfl, Or.inl ⟨rfl, h⟩⟩
    · have w4 := (hw.2 i (by omega)).2.2.2
      have hm := mt_pk (j := i) h1 h6 hs (hn i (by omega)).2
      have hp := hpk i (by omega)
      by_cases q : packN τ i = pkT t a d
      · simp (maxSteps := 3000000) (disch := omega) only [↓nx_q, zb0_s, zb1_s, zb2_s, zb3_s, zb4_s, zb5_s, zb6_s, zb7_s, zb8_s, zb9_s, zb10_s, zb11_s, zb12_s, zb13_s, zb14_s, q_lit, nI_add, pk_mul, e_cl, gi_in, gz_n0, gz_n1, e_gz, si_eq, si_ne, sa_eq, sa_ne, if_true, if_false, ↓reduceIte, k_ltT, k_ltF, k_leT, k_leF, k_eqT, k_eqF, k_m1lt, k_nm1, not_true_eq_false, not_false_eq_true, w0, w4]
        exact ⟨_, rfl, Or.inr ⟨i, by omega, rfl, hm.mp q, h⟩⟩
      · simp (maxSteps := 3000000) (disch := omega) only [↓nx_q, zb0_s, zb1_s, zb2_s, zb3_s, zb4_s, zb5_s, zb6_s, zb7_s, zb8_s, zb9_s, zb10_s, zb11_s, zb12_s, zb13_s, zb14_s, q_lit, nI_add, pk_mul, e_cl, gi_in, gz_n0, gz_n1, e_gz, si_eq, si_ne, sa_eq, sa_ne, if_true, if_false, ↓reduceIte, k_ltT, k_ltF, k_leT, k_leF, k_eqT, k_eqF, k_m1lt, k_nm1, not_true_eq_false, not_false_eq_true, w0, w4]
        refine ⟨_, rfl, by omega, rfl, fun y hy => ?_⟩
        by_cases z : y = i
        · subst z; exact fun e => q (hm.mpr e)
        · exact h y (by omega)
  · rcases hy with ⟨rfl, h⟩ | ⟨j, hj, rfl, h⟩
    · exact ⟨_, rfl, Or.inr ⟨rfl, h⟩⟩
    · exact ⟨_, rfl, Or.inl ⟨j, hj, rfl, h⟩⟩
/-- the draft, while it is read -/
def DR (o d M : Ob) (τ : Nat → Nat) : Prop := M 3 = rw τ ∧ τ 2 ≤ 8 ∧ RCw d τ ∧ WFi τ ∧ WFn τ ∧ (1 ≤ τ 0 ∧ τ 0 ≤ 20) ∧ τ 1 ≤ 2 ∧ (o 4 0 = nI (τ 0) ∧ o 5 0 = nI (τ 1)) ∧ (∃ b, b ≤ 1 ∧ o 6 0 = nI b ∧ M 17 0 = nI b) ∧ (∃ b, b ≤ 1 ∧ o 7 0 = nI b ∧ M 18 0 = nI b) ∧ (o 2 0 = nI 0 ∧ M 13 0 = nI 0) ∧ ∀ k, k < 835 → (k < 3 ∨ (8 ≤ k ∧ k < 8 + τ 2) ∨ (16 ≤ k ∧ k < 16 + τ 2) ∨ (24 ≤ k ∧ k < 24 + τ 2) ∨ (56 ≤ k ∧ k < 56 + 6 * τ 2)) ∨ τ k = 0
/-- a line that is no line: the same fault on both -/
def LFt (M : Ob) (o' M' : Ob) : Prop := ∃ f a, 1 ≤ f ∧ f ≤ 5 ∧ a ≤ 400 ∧ o' 2 0 = nI f ∧ o' 3 0 = nI a ∧ M' 13 0 = nI f ∧ M' 14 0 = nI a ∧ ∀ j, j ≠ 3 → j ≠ 9 → j ≠ 10 → j ≠ 11 → j ≠ 12 → j ≠ 13 → j ≠ 14 → j ≠ 15 → j ≠ 16 → j ≠ 17 → j ≠ 18 → M' j = M j
theorem lft {o M M0 : Ob} {t : Nat → Nat} {n a x k f : Nat} (h : TS o M t n a x k) (hf : 1 ≤ f ∧ f ≤ 5) (hM : ∀ j, j ≠ 3 → j ≠ 9 → j ≠ 10 → j ≠ 11 → j ≠ 12 → j ≠ 13 → j ≠ 14 → j ≠ 15 → j ≠ 16 → j ≠ 17 → j ≠ 18 → M j = M0 j) : LFt M0 (FtC o f) (FtM M f) := by
  have e1 := h.2.2.2.1.1
  have e2 := h.2.2.2.2.1.1
  have h3 := h.2.2.1
  have h4 := h.1.2.1
  refine ⟨f, a, hf.1, hf.2, by omega, ?_, ?_, ?_, ?_, fun j a1 a2 a3 a4 a5 a6 a7 a8 a9 b1 b2 => ?_⟩
  · unfold FtC; simp (disch := omega) only [si_eq, si_ne, sa_eq, sa_ne, upd_eq, upd_ne, updN_eq, updN_ne]
  · unfold FtC; simp (disch := omega) only [si_eq, si_ne, sa_eq, sa_ne, upd_eq, upd_ne, updN_eq, updN_ne]; exact e1
  · unfold FtM; simp (disch := omega) only [si_eq, si_ne, sa_eq, sa_ne, upd_eq, upd_ne, updN_eq, updN_ne]
  · unfold FtM; simp (disch := omega) only [si_eq, si_ne, sa_eq, sa_ne, upd_eq, upd_ne, updN_eq, updN_ne]; exact e2
  · unfold FtM; simp (disch := omega) only [si_eq, si_ne, sa_eq, sa_ne, upd_eq, upd_ne, updN_eq, updN_ne]; exact hM j a1 a2 a3 a4 a5 a6 a7 a8 a9 b1 b2
