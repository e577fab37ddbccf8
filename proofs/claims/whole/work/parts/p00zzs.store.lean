/-- the store's text, both -/
def FrT (M M' : Ob) : Prop := ∀ j, j ≠ 3 → (j < 7 ∨ 18 < j) → M' j = M j
def rsC : Ob → Ob → Int32 → Option ((Ob × Ob × Int32) ⊕ ((Ob × Ob) ⊕ (Ob × Ob × Int32))) := fun (o24 o25 : Ob) (k26 : Int32) => (
  if (400 : Int32) ≤ k26 then (
  some (.inr (.inl (o24, o25)))
  ) else (
  if o24 13 0 = (1 : Int32) then (
  some (.inr (.inl (o24, o25)))
  ) else (
  zb3 (f_X6_readLine o24 o25) fun (o31 : Ob) (o32 : Ob) (r33 : Int32) =>
  if r33 = 0 then (
  some (.inr (.inr (o31, o32, (0 : Int32))))
  ) else (
  zb2 (f_X6_take o31 (59 : Int32)) fun (o35 : Ob) (r36 : Int32) =>
  if r36 = 0 then (
  some (.inr (.inr (o35, o32, (0 : Int32))))
  ) else (
  nx (k26 + (1 : Int32)) fun x38 =>
  some (.inl (o35, o32, x38))
  )
  )
  )
  ))
def rsM : Ob → Option (Ob ⊕ (Ob ⊕ (Ob × Int32))) := fun (o25 : Ob) => (
  if o25 11 0 = 0 then (
  some (.inr (.inr (o25, (1 : Int32))))
  ) else (
  zb2 (f_X12_readsLine o25) fun (o29 : Ob) (r30 : Int32) =>
  if r30 = 0 then (
  some (.inr (.inl o29))
  ) else (
  some (.inl o29)
  )
  ))
def rsE : Ob → Int32 → Option ((Ob × Int32) ⊕ Ob) := fun (o10 : Ob) (k11 : Int32) => (
  if (835 : Int32) ≤ k11 then (
  some (.inr o10)
  ) else (
  gi k11 835 <|
  nx (sa o10 3 (upd (o10 3) (Int32.toNatClampNeg k11) (0 : Int32))) fun o39 =>
  nx (k11 + (1 : Int32)) fun x40 =>
  some (.inl (o39, x40))
  ))
theorem store_read {o d M : Ob} (h : RTape o M) : (∃ o' d' M' τ', f_X6_readStore o d = some (o', d', nI 1) ∧ f_X12_readsStore M = some (M', nI 1) ∧ DR o' d' M' τ' ∧ FrT M M' ∧ M' 7 0 = nI 0) ∨ (∃ o' d' M' f a, f_X6_readStore o d = some (o', d', nI 0) ∧ f_X12_readsStore M = some (M', nI 0) ∧ a ≤ 400 ∧ o' 2 0 = nI f ∧ o' 3 0 = nI a ∧ M' 13 0 = nI f ∧ M' 14 0 = nI a ∧ FrT M M' ∧ M' 7 0 = nI 0) := by
  have h' : RTape (si (si (si (si o 4 (nI 6)) 5 (nI 1)) 6 (nI 0)) 7 (nI 0)) M := by
    obtain ⟨n, t, a, b, c, e⟩ := h
    refine ⟨n, t, a, ?_, c, fun i hi => ?_⟩
    · simp (disch := omega) only [si_eq, si_ne, sa_eq, sa_ne, upd_eq, upd_ne, updN_eq, updN_ne]; exact b
    · simp (disch := omega) only [si_eq, si_ne, sa_eq, sa_ne, upd_eq, upd_ne, updN_eq, updN_ne]; exact e i hi
  rcases start_both h' with ⟨t, n, o1, M1, a, x, k, e1, e2, hT, fo, fm, m7, m13⟩ | ⟨o1, M1, e1, e2, p1, p2, p3, p4, p5, p6⟩
  · obtain ⟨M2, eE, fE, τ0, g3, gz0⟩ := m_empty (M := M1) (B := rsE) (fun _ _ => rfl)
    obtain ⟨M3, hM3⟩ : ∃ M3, M3 = (si (si (sa (sa M2 3 (upd (M2 3) (Int32.toNatClampNeg (0 : Int32)) (6 : Int32))) 3 (upd ((sa M2 3 (upd (M2 3) (Int32.toNatClampNeg (0 : Int32)) (6 : Int32))) 3) (Int32.toNatClampNeg (1 : Int32)) (1 : Int32))) 17 (0 : Int32)) 18 (0 : Int32)) := ⟨_, rfl⟩
    have hn := hT.1.2.1
    have m3 : M3 3 = rw (updN (updN τ0 0 6) 1 1) := by
      rw [hM3]
      simp (maxSteps := 3000000) (disch := omega) only [q_lit, e_cl, si_eq, si_ne, sa_eq, sa_ne, upd_eq, upd_ne, updN_eq, updN_ne, rw_ap, upd_rw, sa_sa, jn_l, jn_r, jn_4, jn_5, jn_6, jn_ul, jn_ur, jn_u4, jn_u5, jn_u6, g3]
    have mf : ∀ j, j ≠ 3 → j ≠ 17 → j ≠ 18 → M3 j = M1 j := by
      intro j h1 h2 h3
      rw [hM3]
      simp (disch := omega) only [si_eq, si_ne, sa_eq, sa_ne, upd_eq, upd_ne, updN_eq, updN_ne]
      exact fE j h1
    have m17 : M3 17 0 = nI 0 := by rw [hM3]; simp (disch := omega) only [si_eq, si_ne, sa_eq, sa_ne, upd_eq, upd_ne, updN_eq, updN_ne]; rfl
    have m18 : M3 18 0 = nI 0 := by rw [hM3]; simp (disch := omega) only [si_eq, si_ne, sa_eq, sa_ne, upd_eq, upd_ne, updN_eq, updN_ne]; rfl
    have hT3 : TS o1 M3 t n a x k := TS_fr hT rfl rfl rfl rfl rfl rfl (mf 6 (by decide) (by decide) (by decide)) (mf 8 (by decide) (by decide) (by decide)) (mf 9 (by decide) (by decide) (by decide)) (mf 10 (by decide) (by decide) (by decide)) (mf 11 (by decide) (by decide) (by decide)) (mf 12 (by decide) (by decide) (by decide)) (mf 15 (by decide) (by decide) (by decide)) (mf 16 (by decide) (by decide) (by decide))
    have o2 : o1 2 0 = nI 0 := by rw [fo 2 (by omega)]; simp (disch := omega) only [si_eq, si_ne, sa_eq, sa_ne, upd_eq, upd_ne, updN_eq, updN_ne]
    have o4 : o1 4 0 = nI 6 := by rw [fo 4 (by omega)]; simp (disch := omega) only [si_eq, si_ne, sa_eq, sa_ne, upd_eq, upd_ne, updN_eq, updN_ne]
    have o5 : o1 5 0 = nI 1 := by rw [fo 5 (by omega)]; simp (disch := omega) only [si_eq, si_ne, sa_eq, sa_ne, upd_eq, upd_ne, updN_eq, updN_ne]
    have o6 : o1 6 0 = nI 0 := by rw [fo 6 (by omega)]; simp (disch := omega) only [si_eq, si_ne, sa_eq, sa_ne, upd_eq, upd_ne, updN_eq, updN_ne]
    have o7 : o1 7 0 = nI 0 := by rw [fo 7 (by omega)]; simp (disch := omega) only [si_eq, si_ne, sa_eq, sa_ne, upd_eq, upd_ne, updN_eq, updN_ne]
    obtain ⟨τ, hτ⟩ : ∃ τ, τ = updN (updN τ0 0 6) 1 1 := ⟨_, rfl⟩
    rw [← hτ] at m3
    have t0 : τ 0 = 6 := by rw [hτ, updN_ne (by decide), updN_eq]
    have t1 : τ 1 = 1 := by rw [hτ, updN_eq]
    have tz : ∀ k, 2 ≤ k → k < 835 → τ k = 0 := fun k h1 h2 => by rw [hτ, updN_ne (by omega), updN_ne (by omega)]; exact gz0 k h2
    have t2 : τ 2 = 0 := tz 2 (by decide) (by decide)
    have hD : DR o1 (si d 0 (nI 0)) M3 τ := by
      refine ⟨m3, by omega, ⟨?_, fun k hk => by omega⟩, fun k hk => by omega, fun k hk => by omega, by omega, by omega, ⟨by rw [t0]; exact o4, by rw [t1]; exact o5⟩, ⟨0, by decide, o6, m17⟩, ⟨0, by decide, o7, m18⟩, ⟨o2, by rw [mf 13 (by decide) (by decide) (by decide)]; exact m13⟩, fun k hk => ?_⟩
      · rw [t2]
        simp (disch := omega) only [si_eq, si_ne, sa_eq, sa_ne, upd_eq, upd_ne, updN_eq, updN_ne]
      · by_cases q : k < 3
        · exact Or.inl (Or.inl q)
        · exact Or.inr (tz k (by omega) hk)
    have hfr : ∀ M', (∀ j, j ≠ 3 → j ≠ 9 → j ≠ 10 → j ≠ 11 → j ≠ 12 → j ≠ 13 → j ≠ 14 → j ≠ 15 → j ≠ 16 → j ≠ 17 → j ≠ 18 → M' j = M3 j) → FrT M M' ∧ M' 7 0 = nI 0 := by
      intro M' h
      refine ⟨fun j a b => ?_, ?_⟩
      · rw [h j a (by omega) (by omega) (by omega) (by omega) (by omega) (by omega) (by omega) (by omega) (by omega) (by omega), mf j a (by omega) (by omega)]
        exact fm j (by omega) (by omega) (by omega) (by omega) (by omega) (by omega) (by omega) (by omega) (by omega)
      · rw [h 7 (by decide) (by decide) (by decide) (by decide) (by decide) (by decide) (by decide) (by decide) (by decide) (by decide) (by decide), mf 7 (by decide) (by decide) (by decide)]
        exact m7
    have hEC : ∀ y, ze2 (zl3 rsC FU o1 (si d 0 (nI 0)) (nI 0)) (fun r => some r) (fun (o27 : Ob) (o28 : Ob) => some (o27, o28, nI 1)) = some y → f_X6_readStore o d = some y := by
      intro y hy
      unfold f_X6_readStore
      rw [nx_eq, nx_eq, nx_eq, nx_eq, nx_eq]
      refine (zb2_of e1).trans ?_
      rw [if_neg (by decide)]
      exact hy
    have hEM : ∀ y, ze1 (zl1 rsM FU M3) (fun r => some r) (fun (o26 : Ob) => some (o26, nI 0)) = some y → f_X12_readsStore M = some y := by
      intro y hy
      unfold f_X12_readsStore
      refine (zb2_of e2).trans ?_
      rw [if_neg (by decide)]
      refine (zb1_of eE).trans ?_
      refine (gi_in (k := 0) (by decide) (by decide)).trans ?_
      rw [nx_eq]
      refine (gi_in (k := 1) (by decide) (by decide)).trans ?_
      rw [nx_eq, nx_eq, nx_eq, ← hM3]
      exact hy
    rcases lines_both (BC := rsC) (BM := rsM) (fun _ _ _ => rfl) (fun _ => rfl) 400 o1 (si d 0 (nI 0)) M3 τ a x k 0 hT3 hD (Nat.zero_le _) (by omega) with ⟨o', d', M', τ', z1, z2, z3, z4, z5⟩ | ⟨o', d', M', z1, z2, f, b, c1, c2, c3, c4, c5, c6, c7, c8⟩
    · exact Or.inl ⟨o', d', M', τ', hEC _ ((ze2_ofl (z1 FU (fu_lt (by decide)))).trans rfl), hEM _ ((ze1_ofr (z2 FU (fu_lt (by decide)))).trans rfl), z3, (hfr M' z4).1, (hfr M' z4).2⟩
    · exact Or.inr ⟨o', d', M', f, b, hEC _ ((ze2_ofr (z1 FU (fu_lt (by decide)))).trans rfl), hEM _ ((ze1_ofl (z2 FU (fu_lt (by decide)))).trans rfl), c3, c4, c5, c6, c7, (hfr M' c8).1, (hfr M' c8).2⟩
  · refine Or.inr ⟨o1, si d 0 (nI 0), M1, 1, 400, ?_, ?_, by decide, p1, p2, p3, p4, fun j a b => p6 j (by omega) (by omega) (by omega) (by omega), p5⟩
    · unfold f_X6_readStore
      simp (maxSteps := 3000000) (disch := omega) only [↓nx_q, zb0_s, zb1_s, zb2_s, zb3_s, zb4_s, zb5_s, zb6_s, zb7_s, zb8_s, zb9_s, zb10_s, zb11_s, zb12_s, zb13_s, zb14_s, q_lit, nI_add, pk_mul, e_cl, gi_in, gz_n0, gz_n1, e_gz, si_eq, si_ne, sa_eq, sa_ne, if_true, if_false, ↓reduceIte, k_ltT, k_ltF, k_leT, k_leF, k_eqT, k_eqF, k_m1lt, k_nm1, not_true_eq_false, not_false_eq_true, e1]
    · unfold f_X12_readsStore
      simp (maxSteps := 3000000) (disch := omega) only [↓nx_q, zb0_s, zb1_s, zb2_s, zb3_s, zb4_s, zb5_s, zb6_s, zb7_s, zb8_s, zb9_s, zb10_s, zb11_s, zb12_s, zb13_s, zb14_s, q_lit, nI_add, pk_mul, e_cl, gi_in, gz_n0, gz_n1, e_gz, si_eq, si_ne, sa_eq, sa_ne, if_true, if_false, ↓reduceIte, k_ltT, k_ltF, k_leT, k_leF, k_eqT, k_eqF, k_m1lt, k_nm1, not_true_eq_false, not_false_eq_true, e2]
