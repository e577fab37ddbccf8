theorem kd_lt {t : Nat → Nat} {a x : Nat} : kdN t a x = 0 ∨ kdN t a x = 2 ∨ kdN t a x = 3 := by
  unfold kdN
  split
  · split
    · exact Or.inr (Or.inl rfl)
    · exact Or.inl rfl
  · split
    · split
      · exact Or.inr (Or.inr rfl)
      · exact Or.inl rfl
    · exact Or.inl rfl
theorem c_skip {o : Ob} {t : Nat → Nat} {n p a : Nat} {B : Ob → Option (Ob ⊕ Ob)} (hT : TpC o t n) (h15 : o 15 0 = nI p) (hS : Sc (fun c => c = 32) t n p a) (hB : ∀ o6 : Ob, B o6 = (
  if o6 1 0 ≤ o6 15 0 then (
  some (.inr o6)
  ) else (
  gi (o6 15 0) 440 <|
  if o6 0 (Int32.toNatClampNeg (o6 15 0)) = (32 : Int32) then (
  nx (si o6 15 ((o6 15 0) + (1 : Int32))) fun o28 =>
  some (.inl o28)
  ) else (
  some (.inr o6)
  )
  )
  )) : Ok (zl1 B FU o) (fun o' => (∀ j, j ≠ 15 → o' j = o j) ∧ o' 15 0 = nI a) := by
  obtain ⟨s1, s2, s3, s4⟩ := hS
  have hn := hT.2.1
  refine ok_zl1 (fun i o' => (∀ j, j ≠ 15 → o' j = o j) ∧ o' 15 0 = nI (p + i)) (a - p) (fun i o1 hi hI => ?_) (fu_lt (by omega)) ⟨fun _ _ => rfl, h15⟩
  obtain ⟨fr, f15⟩ := hI
  rw [hB]
  have f1 : o1 1 0 = nI n := by rw [fr 1 (by decide)]; exact hT.1
  by_cases q : i = a - p
  · have e : p + i = a := by omega
    rw [e] at f15
    by_cases z : a = n
    · simp (maxSteps := 3000000) (disch := omega) only [↓nx_q, zb0_s, zb1_s, zb2_s, zb3_s, zb4_s, zb5_s, zb6_s, zb7_s, zb8_s, zb9_s, zb10_s, zb11_s, zb12_s, zb13_s, zb14_s, q_lit, nI_add, pk_mul, e_cl, gi_in, gz_n0, gz_n1, e_gz, si_eq, si_ne, sa_eq, sa_ne, if_true, if_false, ↓reduceIte, k_ltT, k_ltF, k_leT, k_leF, k_eqT, k_eqF, k_m1lt, k_nm1, not_true_eq_false, not_false_eq_true, f1, f15]
      exact ⟨_, rfl, fr, f15⟩
    · obtain ⟨c1, c2⟩ := hT.2.2 a (by omega)
      have c2' : o1 0 a = nI (t a) := by rw [fr 0 (by decide)]; exact c2
      have hne := s4 (by omega)
      simp (maxSteps := 3000000) (disch := omega) only [↓nx_q, zb0_s, zb1_s, zb2_s, zb3_s, zb4_s, zb5_s, zb6_s, zb7_s, zb8_s, zb9_s, zb10_s, zb11_s, zb12_s, zb13_s, zb14_s, q_lit, nI_add, pk_mul, e_cl, gi_in, gz_n0, gz_n1, e_gz, si_eq, si_ne, sa_eq, sa_ne, if_true, if_false, ↓reduceIte, k_ltT, k_ltF, k_leT, k_leF, k_eqT, k_eqF, k_m1lt, k_nm1, not_true_eq_false, not_false_eq_true, f1, f15, c2']
      exact ⟨_, rfl, fr, f15⟩
  · obtain ⟨c1, c2⟩ := hT.2.2 (p + i) (by omega)
    have he := s3 (p + i) (by omega) (by omega)
    have c2' : o1 0 (p + i) = nI 32 := by rw [fr 0 (by decide), c2]; exact congrArg nI he
    simp (maxSteps := 3000000) (disch := omega) only [↓nx_q, zb0_s, zb1_s, zb2_s, zb3_s, zb4_s, zb5_s, zb6_s, zb7_s, zb8_s, zb9_s, zb10_s, zb11_s, zb12_s, zb13_s, zb14_s, q_lit, nI_add, pk_mul, e_cl, gi_in, gz_n0, gz_n1, e_gz, si_eq, si_ne, sa_eq, sa_ne, if_true, if_false, ↓reduceIte, k_ltT, k_ltF, k_leT, k_leF, k_eqT, k_eqF, k_m1lt, k_nm1, not_true_eq_false, not_false_eq_true, f1, f15, c2']
    refine ⟨_, rfl, by omega, fun j x => ?_, ?_⟩
    · simp (disch := omega) only [si_eq, si_ne, sa_eq, sa_ne, upd_eq, upd_ne, updN_eq, updN_ne]; exact fr j x
    · simp (disch := omega) only [si_eq, si_ne, sa_eq, sa_ne, upd_eq, upd_ne, updN_eq, updN_ne]; rfl
theorem c_isSign {c : Nat} (hc : c < 256) : ((c = 59 ∨ c = 91 ∨ c = 93) → f_X6_isSign (nI c) = some (nI 1)) ∧ (¬ (c = 59 ∨ c = 91 ∨ c = 93) → f_X6_isSign (nI c) = some (nI 0)) := by
  unfold f_X6_isSign
  refine ⟨fun h => ?_, fun h => ?_⟩
  · rcases h with h | h | h <;> subst h <;> rfl
  · simp (maxSteps := 3000000) (disch := omega) only [↓nx_q, zb0_s, zb1_s, zb2_s, zb3_s, zb4_s, zb5_s, zb6_s, zb7_s, zb8_s, zb9_s, zb10_s, zb11_s, zb12_s, zb13_s, zb14_s, q_lit, nI_add, pk_mul, e_cl, gi_in, gz_n0, gz_n1, e_gz, si_eq, si_ne, sa_eq, sa_ne, if_true, if_false, ↓reduceIte, k_ltT, k_ltF, k_leT, k_leF, k_eqT, k_eqF, k_m1lt, k_nm1, not_true_eq_false, not_false_eq_true]
theorem c_advance {o : Ob} {t : Nat → Nat} {n p a x k : Nat} (hT : TpC o t n) (h15 : o 15 0 = nI p) (hK : Tok t n p a x k) : Ok (f_X6_advance o) (fun o' => (∀ j, j < 13 ∨ 16 < j → o' j = o j) ∧ TkC o' t a x k) := by
  obtain ⟨hS, hK⟩ := hK
  have hn := hT.2.1
  have s2 := hS.2.1
  unfold f_X6_advance
  rw [ok_zb1]
  refine ok_mono (c_skip hT h15 hS (fun o6 => rfl)) (fun o1 h1 => ?_)
  obtain ⟨fr, f15⟩ := h1
  have f1 : o1 1 0 = nI n := by rw [fr 1 (by decide)]; exact hT.1
  have hT1 : TpC (si o1 14 (nI a)) t n := TpC_fr hT (by simp (disch := omega) only [si_eq, si_ne, sa_eq, sa_ne, upd_eq, upd_ne, updN_eq, updN_ne]; exact fr 0 (by decide)) (by simp (disch := omega) only [si_eq, si_ne, sa_eq, sa_ne, upd_eq, upd_ne, updN_eq, updN_ne]; exact fr 1 (by decide))
  have g15 : si o1 14 (nI a) 15 0 = nI a := by simp (disch := omega) only [si_eq, si_ne, sa_eq, sa_ne, upd_eq, upd_ne, updN_eq, updN_ne]; exact f15
  rcases hK with ⟨q, rfl, rfl⟩ | ⟨q, hr, rfl, hk⟩ | ⟨q, hr, hx, rfl⟩
  · simp (maxSteps := 3000000) (disch := omega) only [↓nx_q, zb0_s, zb1_s, zb2_s, zb3_s, zb4_s, zb5_s, zb6_s, zb7_s, zb8_s, zb9_s, zb10_s, zb11_s, zb12_s, zb13_s, zb14_s, q_lit, nI_add, pk_mul, e_cl, gi_in, gz_n0, gz_n1, e_gz, si_eq, si_ne, sa_eq, sa_ne, if_true, if_false, ↓reduceIte, k_ltT, k_ltF, k_leT, k_leF, k_eqT, k_eqF, k_m1lt, k_nm1, not_true_eq_false, not_false_eq_true, f15, f1]
    refine ⟨_, rfl, fun j hj => ?_, ?_, ?_, ?_, fun e => absurd e (by decide), fun e => absurd e (by decide)⟩
    · simp (disch := omega) only [si_eq, si_ne, sa_eq, sa_ne, upd_eq, upd_ne, updN_eq, updN_ne]; exact fr j (by omega)
    · simp (disch := omega) only [si_eq, si_ne, sa_eq, sa_ne, upd_eq, upd_ne, updN_eq, updN_ne]
    · simp (disch := omega) only [si_eq, si_ne, sa_eq, sa_ne, upd_eq, upd_ne, updN_eq, updN_ne]; exact f15
    · simp (disch := omega) only [si_eq, si_ne, sa_eq, sa_ne, upd_eq, upd_ne, updN_eq, updN_ne]
  · simp (maxSteps := 3000000) (disch := omega) only [↓nx_q, zb0_s, zb1_s, zb2_s, zb3_s, zb4_s, zb5_s, zb6_s, zb7_s, zb8_s, zb9_s, zb10_s, zb11_s, zb12_s, zb13_s, zb14_s, q_lit, nI_add, pk_mul, e_cl, gi_in, gz_n0, gz_n1, e_gz, si_eq, si_ne, sa_eq, sa_ne, if_true, if_false, ↓reduceIte, k_ltT, k_ltF, k_leT, k_leF, k_eqT, k_eqF, k_m1lt, k_nm1, not_true_eq_false, not_false_eq_true, f15, f1]
    rw [ok_zb1]
    refine ok_mono (c_readRun (x := a) hT1 g15 ⟨Nat.le_refl _, by omega, fun i x y => by omega, fun _ => hr⟩) (fun o2 h2 => ?_)
    obtain ⟨fr2, e15, -⟩ := h2
    obtain ⟨c1, c2⟩ := hT.2.2 a q
    have e14 : o2 14 0 = nI a := by rw [fr2 14 (by decide) (by decide) (by decide)]; simp (disch := omega) only [si_eq, si_ne, sa_eq, sa_ne, upd_eq, upd_ne, updN_eq, updN_ne]
    have e0 : o2 0 a = nI (t a) := by
      rw [fr2 0 (by decide) (by decide) (by decide)]
      simp (disch := omega) only [si_eq, si_ne, sa_eq, sa_ne, upd_eq, upd_ne, updN_eq, updN_ne]
      rw [fr 0 (by decide)]; exact c2
    have hsg := c_isSign c1
    have frx : ∀ j, j < 13 ∨ 16 < j → o2 j = o j := fun j hj => by
      rw [fr2 j (by omega) (by omega) (by omega)]
      simp (disch := omega) only [si_eq, si_ne, sa_eq, sa_ne, upd_eq, upd_ne, updN_eq, updN_ne]
      exact fr j (by omega)
    rcases hk with ⟨hs, rfl⟩ | ⟨hs, rfl⟩
    · have hsg := hsg.1 hs
      simp (maxSteps := 3000000) (disch := omega) only [↓nx_q, zb0_s, zb1_s, zb2_s, zb3_s, zb4_s, zb5_s, zb6_s, zb7_s, zb8_s, zb9_s, zb10_s, zb11_s, zb12_s, zb13_s, zb14_s, q_lit, nI_add, pk_mul, e_cl, gi_in, gz_n0, gz_n1, e_gz, si_eq, si_ne, sa_eq, sa_ne, if_true, if_false, ↓reduceIte, k_ltT, k_ltF, k_leT, k_leF, k_eqT, k_eqF, k_m1lt, k_nm1, not_true_eq_false, not_false_eq_true, e14, e15, e0, hsg]
      refine ⟨_, rfl, fun j hj => ?_, ?_, ?_, ?_, fun e => absurd e (by omega), fun e => absurd e (by omega)⟩
      · simp (disch := omega) only [si_eq, si_ne, sa_eq, sa_ne, upd_eq, upd_ne, updN_eq, updN_ne]; exact frx j hj
      · simp (disch := omega) only [si_eq, si_ne, sa_eq, sa_ne, upd_eq, upd_ne, updN_eq, updN_ne]; exact e14
      · simp (disch := omega) only [si_eq, si_ne, sa_eq, sa_ne, upd_eq, upd_ne, updN_eq, updN_ne]
      · simp (disch := omega) only [si_eq, si_ne, sa_eq, sa_ne, upd_eq, upd_ne, updN_eq, updN_ne]
    · have hsg := hsg.2 hs
      simp (maxSteps := 3000000) (disch := omega) only [↓nx_q, zb0_s, zb1_s, zb2_s, zb3_s, zb4_s, zb5_s, zb6_s, zb7_s, zb8_s, zb9_s, zb10_s, zb11_s, zb12_s, zb13_s, zb14_s, q_lit, nI_add, pk_mul, e_cl, gi_in, gz_n0, gz_n1, e_gz, si_eq, si_ne, sa_eq, sa_ne, if_true, if_false, ↓reduceIte, k_ltT, k_ltF, k_leT, k_leF, k_eqT, k_eqF, k_m1lt, k_nm1, not_true_eq_false, not_false_eq_true, e14, e15, e0, hsg]
      refine ⟨_, rfl, fun j hj => ?_, ?_, ?_, ?_, fun e => absurd e (by omega), fun e => absurd e (by omega)⟩
      · simp (disch := omega) only [si_eq, si_ne, sa_eq, sa_ne, upd_eq, upd_ne, updN_eq, updN_ne]; exact frx j hj
      · simp (disch := omega) only [si_eq, si_ne, sa_eq, sa_ne, upd_eq, upd_ne, updN_eq, updN_ne]; exact e14
      · simp (disch := omega) only [si_eq, si_ne, sa_eq, sa_ne, upd_eq, upd_ne, updN_eq, updN_ne]
      · simp (disch := omega) only [si_eq, si_ne, sa_eq, sa_ne, upd_eq, upd_ne, updN_eq, updN_ne]
  · simp (maxSteps := 3000000) (disch := omega) only [↓nx_q, zb0_s, zb1_s, zb2_s, zb3_s, zb4_s, zb5_s, zb6_s, zb7_s, zb8_s, zb9_s, zb10_s, zb11_s, zb12_s, zb13_s, zb14_s, q_lit, nI_add, pk_mul, e_cl, gi_in, gz_n0, gz_n1, e_gz, si_eq, si_ne, sa_eq, sa_ne, if_true, if_false, ↓reduceIte, k_ltT, k_ltF, k_leT, k_leF, k_eqT, k_eqF, k_m1lt, k_nm1, not_true_eq_false, not_false_eq_true, f15, f1]
    rw [ok_zb1]
    refine ok_mono (c_readRun hT1 g15 hx) (fun o2 h2 => ?_)
    obtain ⟨fr2, e15, e13, ep, en⟩ := h2
    have e14 : o2 14 0 = nI a := by rw [fr2 14 (by decide) (by decide) (by decide)]; simp (disch := omega) only [si_eq, si_ne, sa_eq, sa_ne, upd_eq, upd_ne, updN_eq, updN_ne]
    have hxa : a < x := by
      refine Classical.byContradiction fun y => ?_
      have : x = a := by have := hx.1; omega
      subst this
      exact hx.2.2.2 q hr
    have hx2 := hx.2.1
    simp (maxSteps := 3000000) (disch := omega) only [↓nx_q, zb0_s, zb1_s, zb2_s, zb3_s, zb4_s, zb5_s, zb6_s, zb7_s, zb8_s, zb9_s, zb10_s, zb11_s, zb12_s, zb13_s, zb14_s, q_lit, nI_add, pk_mul, e_cl, gi_in, gz_n0, gz_n1, e_gz, si_eq, si_ne, sa_eq, sa_ne, if_true, if_false, ↓reduceIte, k_ltT, k_ltF, k_leT, k_leF, k_eqT, k_eqF, k_m1lt, k_nm1, not_true_eq_false, not_false_eq_true, e14, e15]
    refine ⟨_, rfl, fun j hj => ?_, e14, e15, e13, ep, en⟩
    rw [fr2 j (by omega) (by omega) (by omega)]
    simp (disch := omega) only [si_eq, si_ne, sa_eq, sa_ne, upd_eq, upd_ne, updN_eq, updN_ne]
    exact fr j (by omega)
