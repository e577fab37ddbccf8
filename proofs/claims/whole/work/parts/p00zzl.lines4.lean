/-- a NUMBER is read, written into the draft, and the next token stands -/
theorem num_step {o M : Ob} {τ t : Nat → Nat} {n a x k : Nat} (h : TS o M t n a x k) (h3 : M 3 = rw τ) {lo hi : Nat} (idx : Nat) (hl : lo ≤ hi) (hh : hi < 1000) : (∃ v o' M' a' x' k', lo ≤ v ∧ v ≤ hi ∧ f_X6_takeNumber o (nI lo) (nI hi) = some (o', nI v) ∧ f_X12_number M (nI lo) (nI hi) = some (M, nI 1) ∧ M 12 0 = nI v ∧ f_X12_next (sa M 3 (rw (updN τ idx v))) = some M' ∧ FrC o o' ∧ FrL M M' ∧ M' 3 = rw (updN τ idx v) ∧ M' 13 = M 13 ∧ M' 17 = M 17 ∧ M' 18 = M 18 ∧ x ≤ a' ∧ TS o' M' t n a' x' k') ∨ (∃ f, 1 ≤ f ∧ f ≤ 2 ∧ f_X6_takeNumber o (nI lo) (nI hi) = some (FtC o f, -nI 1) ∧ f_X12_number M (nI lo) (nI hi) = some (FtM M f, nI 0)) := by
  rcases num_both h hl hh with ⟨v, o3, M3, a3', x3, k3, v1, v2, et, en, ev, ea, -, g1, -, hx3, -⟩ | ⟨f, g1, g2, et, en⟩
  · have h2' : TS o (sa M 3 (rw (updN τ idx v))) t n a x k := by
      refine TS_fr h rfl rfl rfl rfl rfl rfl ?_ ?_ ?_ ?_ ?_ ?_ ?_ ?_ <;> simp (disch := omega) only [si_eq, si_ne, sa_eq, sa_ne, upd_eq, upd_ne, updN_eq, updN_ne]
    obtain ⟨o4, M4, a4', x4, k4, e3, e4, f3, f4, hx4, h4⟩ := adv_both h2'
    have eo : o4 = o3 := Option.some.inj (e3.symm.trans ea)
    subst eo
    refine Or.inl ⟨v, o4, M4, a4', x4, k4, v1, v2, et, en, ev, e4, f3, ?_, ?_, ?_, ?_, ?_, hx4, h4⟩
    · refine FrL_tr (M' := sa M 3 (rw (updN τ idx v))) (fun j a b c d e f k l m n p => ?_) (FrN_L f4)
      simp (disch := omega) only [si_eq, si_ne, sa_eq, sa_ne, upd_eq, upd_ne, updN_eq, updN_ne]
    · rw [f4 3 (by decide) (by decide) (by decide) (by decide) (by decide) (by decide), sa_eq]
    · rw [f4 13 (by decide) (by decide) (by decide) (by decide) (by decide) (by decide), sa_ne (by decide)]
    · rw [f4 17 (by decide) (by decide) (by decide) (by decide) (by decide) (by decide), sa_ne (by decide)]
    · rw [f4 18 (by decide) (by decide) (by decide) (by decide) (by decide) (by decide), sa_ne (by decide)]
  · exact Or.inr ⟨f, g1, g2, et, en⟩
/-- the letters go into the draft -/
def ltN (τ : Nat → Nat) (t : Nat → Nat) (a d c : Nat) : Nat → Nat → Nat
  | 0 => τ
  | i + 1 => updN (ltN τ t a d c i) (56 + 6 * c + i) (wlN t a d i)
theorem lt_in {τ t : Nat → Nat} {a d c : Nat} : ∀ {i y : Nat}, y < i → ltN τ t a d c i (56 + 6 * c + y) = wlN t a d y
  | 0, y, h => absurd h (Nat.not_lt_zero _)
  | i + 1, y, h => by
    show updN (ltN τ t a d c i) (56 + 6 * c + i) (wlN t a d i) (56 + 6 * c + y) = _
    by_cases e : y = i
    · subst e; rw [updN_eq]
    · rw [updN_ne (by omega)]
      exact lt_in (by omega)
theorem lt_out {τ t : Nat → Nat} {a d c : Nat} : ∀ {i j : Nat}, (j < 56 + 6 * c ∨ 56 + 6 * c + i ≤ j) → ltN τ t a d c i j = τ j
  | 0, j, h => rfl
  | i + 1, j, h => by
    show updN (ltN τ t a d c i) (56 + 6 * c + i) (wlN t a d i) j = _
    rw [updN_ne (by omega)]
    exact lt_out (by omega)
theorem m_letters {M : Ob} {τ t : Nat → Nat} {a d c : Nat} {B : Ob → Int32 → Option ((Ob × Int32) ⊕ Ob)} (h3 : M 3 = rw τ) (hc : c < 8) (hd : d ≤ 6) (h16 : M 16 0 = nI d) (h15 : ∀ i, i < d → M 15 i = nI (t (a + i))) (hB : ∀ (o21 : Ob) (k22 : Int32), B o21 k22 = (
  if (6 : Int32) ≤ k22 then (
  some (.inr o21)
  ) else (
  if o21 16 0 ≤ k22 then (
  gi (((56 : Int32) + ((6 : Int32) * nI c)) + k22) 835 <|
  nx (sa o21 3 (upd (o21 3) (Int32.toNatClampNeg (((56 : Int32) + ((6 : Int32) * nI c)) + k22)) (0 : Int32))) fun o56 =>
  nx (k22 + (1 : Int32)) fun x57 =>
  some (.inl (o56, x57))
  ) else (
  gi k22 6 <|
  gi (((56 : Int32) + ((6 : Int32) * nI c)) + k22) 835 <|
  nx (sa o21 3 (upd (o21 3) (Int32.toNatClampNeg (((56 : Int32) + ((6 : Int32) * nI c)) + k22)) (o21 15 (Int32.toNatClampNeg k22)))) fun o60 =>
  nx (k22 + (1 : Int32)) fun x61 =>
  some (.inl (o60, x61))
  )
  )
  )) : Ok (zl2 B FU M (nI 0)) (fun M' => (∀ j, j ≠ 3 → M' j = M j) ∧ M' 3 = rw (ltN τ t a d c 6)) := by
  refine ok_zl2 (fun i M' k => k = nI i ∧ (∀ j, j ≠ 3 → M' j = M j) ∧ M' 3 = rw (ltN τ t a d c i)) 6 (fun i M1 k hi hI => ?_) (fu_lt (by decide)) ⟨rfl, fun _ _ => rfl, h3⟩
  obtain ⟨rfl, fr, f3⟩ := hI
  rw [hB]
  have e16 : M1 16 0 = nI d := by rw [fr 16 (by decide)]; exact h16
  by_cases q : i = 6
  · subst q
    simp (maxSteps := 3000000) (disch := omega) only [↓nx_q, zb0_s, zb1_s, zb2_s, zb3_s, zb4_s, zb5_s, zb6_s, zb7_s, zb8_s, zb9_s, zb10_s, zb11_s, zb12_s, zb13_s, zb14_s, q_lit, nI_add, pk_mul, e_cl, gi_in, gz_n0, gz_n1, e_gz, si_eq, si_ne, sa_eq, sa_ne, if_true, if_false, ↓reduceIte, k_ltT, k_ltF, k_leT, k_leF, k_eqT, k_eqF, k_m1lt, k_nm1, not_true_eq_false, not_false_eq_true]
    exact ⟨_, rfl, fr, f3⟩
  · by_cases z : i < d
    · have e15 : M1 15 i = nI (t (a + i)) := by rw [fr 15 (by decide)]; exact h15 i z
      have w := wl_in (t := t) (a := a) z
      simp (maxSteps := 3000000) (disch := omega) only [↓nx_q, zb0_s, zb1_s, zb2_s, zb3_s, zb4_s, zb5_s, zb6_s, zb7_s, zb8_s, zb9_s, zb10_s, zb11_s, zb12_s, zb13_s, zb14_s, q_lit, nI_add, pk_mul, e_cl, gi_in, gz_n0, gz_n1, e_gz, si_eq, si_ne, sa_eq, sa_ne, if_true, if_false, ↓reduceIte, k_ltT, k_ltF, k_leT, k_leF, k_eqT, k_eqF, k_m1lt, k_nm1, not_true_eq_false, not_false_eq_true, e16, e15]
      refine ⟨_, rfl, by omega, rfl, fun j hj => ?_, ?_⟩
      · simp (disch := omega) only [si_eq, si_ne, sa_eq, sa_ne, upd_eq, upd_ne, updN_eq, updN_ne]; exact fr j hj
      · simp (disch := omega) only [si_eq, si_ne, sa_eq, sa_ne, upd_eq, upd_ne, updN_eq, updN_ne]
        rw [f3, upd_rw, ← w]
        rfl
    · have w := wl_out (t := t) (a := a) z
      simp (maxSteps := 3000000) (disch := omega) only [↓nx_q, zb0_s, zb1_s, zb2_s, zb3_s, zb4_s, zb5_s, zb6_s, zb7_s, zb8_s, zb9_s, zb10_s, zb11_s, zb12_s, zb13_s, zb14_s, q_lit, nI_add, pk_mul, e_cl, gi_in, gz_n0, gz_n1, e_gz, si_eq, si_ne, sa_eq, sa_ne, if_true, if_false, ↓reduceIte, k_ltT, k_ltF, k_leT, k_leF, k_eqT, k_eqF, k_m1lt, k_nm1, not_true_eq_false, not_false_eq_true, e16]
      refine ⟨_, rfl, by omega, rfl, fun j hj => ?_, ?_⟩
      · simp (disch := omega) only [si_eq, si_ne, sa_eq, sa_ne, upd_eq, upd_ne, updN_eq, updN_ne]; exact fr j hj
      · simp (disch := omega) only [si_eq, si_ne, sa_eq, sa_ne, upd_eq, upd_ne, updN_eq, updN_ne]
        rw [f3, upd_rw, ← w]
        rfl
