theorem nI_un (v : Int32) : nI v.toUInt32.toNat = v := by
  rw [← u_i]
  simp
/-- the draft is emptied -/
theorem m_empty {M : Ob} {B : Ob → Int32 → Option ((Ob × Int32) ⊕ Ob)} (hB : ∀ (o10 : Ob) (k11 : Int32), B o10 k11 = (
  if (835 : Int32) ≤ k11 then (
  some (.inr o10)
  ) else (
  gi k11 835 <|
  nx (sa o10 3 (upd (o10 3) (Int32.toNatClampNeg k11) (0 : Int32))) fun o39 =>
  nx (k11 + (1 : Int32)) fun x40 =>
  some (.inl (o39, x40))
  ))) : Ok (zl2 B FU M (nI 0)) (fun M' => (∀ j, j ≠ 3 → M' j = M j) ∧ ∃ τ : Nat → Nat, M' 3 = rw τ ∧ ∀ k, k < 835 → τ k = 0) := by
  refine ok_mono (ok_zl2 (Q := fun M' => (∀ j, j ≠ 3 → M' j = M j) ∧ ∀ k, k < 835 → M' 3 k = nI 0) (fun i M' k => k = nI i ∧ (∀ j, j ≠ 3 → M' j = M j) ∧ ∀ k, k < i → M' 3 k = nI 0) 835 (fun i M1 k hi hI => ?_) (fu_lt (by decide)) ⟨rfl, fun _ _ => rfl, fun k hk => absurd hk (Nat.not_lt_zero _)⟩) (fun M' h => ⟨h.1, fun k => (M' 3 k).toUInt32.toNat, funext fun k => (nI_un _).symm, fun k hk => ?_⟩)
  · obtain ⟨rfl, fr, f3⟩ := hI
    rw [hB]
    by_cases q : i = 835
    · subst q
      simp (maxSteps := 3000000) (disch := omega) only [↓nx_q, zb0_s, zb1_s, zb2_s, zb3_s, zb4_s, zb5_s, zb6_s, zb7_s, zb8_s, zb9_s, zb10_s, zb11_s, zb12_s, zb13_s, zb14_s, q_lit, nI_add, pk_mul, e_cl, gi_in, gz_n0, gz_n1, e_gz, si_eq, si_ne, sa_eq, sa_ne, if_true, if_false, ↓reduceIte, k_ltT, k_ltF, k_leT, k_leF, k_eqT, k_eqF, k_m1lt, k_nm1, not_true_eq_false, not_false_eq_true]
      exact ⟨_, rfl, fr, f3⟩
    · simp (maxSteps := 3000000) (disch := omega) only [↓nx_q, zb0_s, zb1_s, zb2_s, zb3_s, zb4_s, zb5_s, zb6_s, zb7_s, zb8_s, zb9_s, zb10_s, zb11_s, zb12_s, zb13_s, zb14_s, q_lit, nI_add, pk_mul, e_cl, gi_in, gz_n0, gz_n1, e_gz, si_eq, si_ne, sa_eq, sa_ne, if_true, if_false, ↓reduceIte, k_ltT, k_ltF, k_leT, k_leF, k_eqT, k_eqF, k_m1lt, k_nm1, not_true_eq_false, not_false_eq_true]
      refine ⟨_, rfl, by omega, rfl, fun j hj => ?_, fun k hk => ?_⟩
      · simp (disch := omega) only [si_eq, si_ne, sa_eq, sa_ne, upd_eq, upd_ne, updN_eq, updN_ne]; exact fr j hj
      · by_cases e : k = i
        · subst e
          simp (disch := omega) only [si_eq, si_ne, sa_eq, sa_ne, upd_eq, upd_ne, updN_eq, updN_ne]
        · simp (disch := omega) only [si_eq, si_ne, sa_eq, sa_ne, upd_eq, upd_ne, updN_eq, updN_ne]
          exact f3 k (by omega)
  · dsimp only
    rw [h.2 k hk]
    rfl
