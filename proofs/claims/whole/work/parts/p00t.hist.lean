/-! ===== what was kept ===== -/
/-- rows copied -/
def cpF (f0 f2 : Fn) (a b : Nat) : Fn := fun j => if b ≤ j ∧ j < b + 835 then f0 (a + (j - b)) else f2 j
theorem m_copies {n0 n2 a b : Nat} {f0 f2 : Fn} (h0 : a + 835 ≤ n0) (h2 : b + 835 ≤ n2) (g0 : n0 < 2147483648) (g2 : n2 < 2147483648) : f_X12_copies n0 f0 n2 f2 (nI a) (nI b) = some (cpF f0 f2 a b) := by
  unfold f_X12_copies
  refine (zb1_of (zl2_fo (fun i => fun j => if b ≤ j ∧ j < b + i then f0 (a + (j - b)) else f2 j) (fun i => nI i) 835 (cpF f0 f2 a b) (fu_lt (by decide)) ?_ rfl (fun i hi => ?_) ?_)).trans rfl
  · funext j
    rw [if_neg (by omega)]
  · simp (maxSteps := 3000000) (disch := omega) only [↓nx_q, zb0_s, zb1_s, zb2_s, zb3_s, zb4_s, zb5_s, zb6_s, zb7_s, zb8_s, zb9_s, zb10_s, zb11_s, zb12_s, zb13_s, zb14_s, q_lit, nI_add, pk_mul, e_cl, gi_in, gz_n0, gz_n1, e_gz, si_eq, si_ne, sa_eq, sa_ne, if_true, if_false, ↓reduceIte, k_ltT, k_ltF, k_leT, k_leF, k_eqT, k_eqF, k_m1lt, k_nm1, not_true_eq_false, not_false_eq_true]
    refine congrArg some (congrArg Sum.inl (Prod.ext ?_ rfl))
    funext j
    dsimp only
    by_cases e : j = b + i
    · subst e
      rw [upd_eq, if_pos (by omega), show a + (b + i - b) = a + i by omega]
    · rw [upd_ne e]
      by_cases q : b ≤ j ∧ j < b + i
      · rw [if_pos q, if_pos (by omega)]
      · rw [if_neg q, if_neg (by omega)]
  · simp (maxSteps := 3000000) (disch := omega) only [↓nx_q, zb0_s, zb1_s, zb2_s, zb3_s, zb4_s, zb5_s, zb6_s, zb7_s, zb8_s, zb9_s, zb10_s, zb11_s, zb12_s, zb13_s, zb14_s, q_lit, nI_add, pk_mul, e_cl, gi_in, gz_n0, gz_n1, e_gz, si_eq, si_ne, sa_eq, sa_ne, if_true, if_false, ↓reduceIte, k_ltT, k_ltF, k_leT, k_leF, k_eqT, k_eqF, k_m1lt, k_nm1, not_true_eq_false, not_false_eq_true]
    rfl
theorem cpF_in {f0 f2 : Fn} {a b i : Nat} (h : i < 835) : cpF f0 f2 a b (b + i) = f0 (a + i) := by
  unfold cpF
  rw [if_pos (by omega), show b + i - b = i by omega]
theorem cpF_out {f0 f2 : Fn} {a b j : Nat} (h : j < b ∨ b + 835 ≤ j) : cpF f0 f2 a b j = f2 j := if_neg (by omega)
/-- the row c of the kept ones -/
def KR (f : Fn) (j : Nat) (τ : Nat → Nat) : Prop := ∀ i, i < 835 → f (835 * j + i) = nI (τ i)
def RHist (o : Ob) (PK : PV) (M : Ob) : Prop := ∃ (a c : Nat) (τ : Nat → Nat → Nat), a < 8 ∧ c ≤ 8 ∧ o 1 0 = nI a ∧ o 2 0 = nI c ∧ M 5 0 = nI c ∧ ∀ j, j < c → KR (M 2) j (τ j) ∧ WF (τ j) ∧ ∃ U, PK (rgN a j) = some U ∧ RC U (τ j)
def RImg (PI : PV) (M : Ob) : Prop := ∀ k, k < 2 → (M 4 k = nI 0 ∧ PI k = none) ∨ (M 4 k = nI 1 ∧ ∃ (τ : Nat → Nat) (U : Nat → Ob), KR (M 1) k τ ∧ WF τ ∧ PI k = some U ∧ RC U τ)
theorem rg_lt {a j : Nat} (ha : a < 8) (hj : j < 8) : rgN a j < 8 := by
  unfold rgN
  split <;> omega
theorem rg_inj {a i j : Nat} (ha : a < 8) (hi : i < 8) (hj : j < 8) (h : rgN a i = rgN a j) : i = j := by
  unfold rgN at h
  split at h <;> split at h <;> omega
theorem rg_1 {a j : Nat} (ha : a < 8) (hj : j < 7) : rgN (rgN a 1) j = rgN a (j + 1) := by
  unfold rgN
  split <;> split <;> split <;> omega
theorem c_place {o : Ob} {a j : Nat} (ho : o 1 0 = nI a) (ha : a < 8) (hj : j ≤ 8) : f_X3_place o (nI j) = some (nI (rgN a j)) := by
  unfold f_X3_place rgN
  by_cases q : a + j < 8
  · simp (maxSteps := 3000000) (disch := omega) only [↓nx_q, zb0_s, zb1_s, zb2_s, zb3_s, zb4_s, zb5_s, zb6_s, zb7_s, zb8_s, zb9_s, zb10_s, zb11_s, zb12_s, zb13_s, zb14_s, q_lit, nI_add, pk_mul, e_cl, gi_in, gz_n0, gz_n1, e_gz, si_eq, si_ne, sa_eq, sa_ne, if_true, if_false, ↓reduceIte, k_ltT, k_ltF, k_leT, k_leF, k_eqT, k_eqF, k_m1lt, k_nm1, not_true_eq_false, not_false_eq_true, ho, if_pos q]
  · simp (maxSteps := 3000000) (disch := omega) only [↓nx_q, zb0_s, zb1_s, zb2_s, zb3_s, zb4_s, zb5_s, zb6_s, zb7_s, zb8_s, zb9_s, zb10_s, zb11_s, zb12_s, zb13_s, zb14_s, q_lit, nI_add, pk_mul, e_cl, gi_in, gz_n0, gz_n1, e_gz, si_eq, si_ne, sa_eq, sa_ne, if_true, if_false, ↓reduceIte, k_ltT, k_ltF, k_leT, k_leF, k_eqT, k_eqF, k_m1lt, k_nm1, not_true_eq_false, not_false_eq_true, ho, if_neg q, e_sub]
theorem upP_eq (P : PV) (i : Nat) (U : Nat → Ob) : upP P i U i = some U := if_pos rfl
theorem upP_ne {P : PV} {i j : Nat} {U : Nat → Ob} (h : j ≠ i) : upP P i U j = P j := if_neg h
theorem keep_c {o : Ob} {P : PV} {u : Nat → Ob} {σ : Nat → Nat} {a c : Nat} (h1 : o 1 0 = nI a) (h2 : o 2 0 = nI c) (ha : a < 8) (hc : c ≤ 8) (hu : RC u σ) (hw : WF σ) : Ok (f_X3_keep o (u 0) (u 1) (u 2) (u 3) (u 4) (u 5) (u 6) P) (fun y => ∃ a' c', a' = (if c = 8 then rgN a 1 else a) ∧ c' = (if c = 8 then 7 else c) ∧ y.1 1 0 = nI a' ∧ y.1 2 0 = nI (c' + 1) ∧ ∃ U, RC U σ ∧ y.2 = upP P (rgN a' c') U) := by
  unfold f_X3_keep
  by_cases q : c = 8
  · subst q
    have hp := c_place h1 ha (show 1 ≤ 8 by decide)
    have hr := rg_lt ha (show 1 < 8 by decide)
    have hr2 := rg_lt hr (show 7 < 8 by decide)
    have hp2 : f_X3_place (si (si o 1 (nI (rgN a 1))) 2 (nI 7)) (nI 7) = some (nI (rgN (rgN a 1) 7)) := c_place (by rw [si_ne (by decide), si_eq]) hr (by decide)
    simp (maxSteps := 3000000) (disch := omega) only [↓nx_q, zb0_s, zb1_s, zb2_s, zb3_s, zb4_s, zb5_s, zb6_s, zb7_s, zb8_s, zb9_s, zb10_s, zb11_s, zb12_s, zb13_s, zb14_s, q_lit, nI_add, pk_mul, e_cl, gi_in, gz_n0, gz_n1, e_gz, si_eq, si_ne, sa_eq, sa_ne, if_true, if_false, ↓reduceIte, k_ltT, k_ltF, k_leT, k_leF, k_eqT, k_eqF, k_m1lt, k_nm1, not_true_eq_false, not_false_eq_true, h1, h2, hp, e_sub, hp2, Nat.reduceSub]
    rw [ok_zb7]
    refine ok_mono (c_copy hu hw.1.1 hw.2.2.1) (fun y hy => ok_some.mpr ⟨rgN a 1, 7, rfl, rfl, ?_, ?_, _, hy, rfl⟩)
    · simp (disch := omega) only [si_eq, si_ne, sa_eq, sa_ne, upd_eq, upd_ne, updN_eq, updN_ne]
    · simp (disch := omega) only [si_eq, si_ne, sa_eq, sa_ne, upd_eq, upd_ne, updN_eq, updN_ne]
  · have hr := rg_lt ha (show c < 8 by omega)
    have hp := c_place h1 ha hc
    simp (maxSteps := 3000000) (disch := omega) only [↓nx_q, zb0_s, zb1_s, zb2_s, zb3_s, zb4_s, zb5_s, zb6_s, zb7_s, zb8_s, zb9_s, zb10_s, zb11_s, zb12_s, zb13_s, zb14_s, q_lit, nI_add, pk_mul, e_cl, gi_in, gz_n0, gz_n1, e_gz, si_eq, si_ne, sa_eq, sa_ne, if_true, if_false, ↓reduceIte, k_ltT, k_ltF, k_leT, k_leF, k_eqT, k_eqF, k_m1lt, k_nm1, not_true_eq_false, not_false_eq_true, h1, h2, hp]
    rw [ok_zb7]
    refine ok_mono (c_copy hu hw.1.1 hw.2.2.1) (fun y hy => ok_some.mpr ⟨a, c, (if_neg q).symm, (if_neg q).symm, ?_, ?_, _, hy, rfl⟩)
    · simp (disch := omega) only [si_eq, si_ne, sa_eq, sa_ne, upd_eq, upd_ne, updN_eq, updN_ne, h1]
    · simp (disch := omega) only [si_eq, si_ne, sa_eq, sa_ne, upd_eq, upd_ne, updN_eq, updN_ne]
theorem keep_m {M : Ob} {c : Nat} (h5 : M 5 0 = nI c) (hc : c ≤ 8) : Ok (f_X12_keeps M) (fun M' => ∃ c', c' = (if c = 8 then 7 else c) ∧ M' 5 0 = nI (c' + 1) ∧ (∀ i, i < 835 → M' 2 (835 * c' + i) = M 0 i) ∧ (∀ j i, j < c' → i < 835 → M' 2 (835 * j + i) = M 2 (835 * (if c = 8 then j + 1 else j) + i)) ∧ ∀ j, j ≠ 2 → j ≠ 5 → M' j = M j) := by
  unfold f_X12_keeps
  by_cases q : c = 8
  · subst q
    simp (maxSteps := 3000000) (disch := omega) only [↓nx_q, h5, if_true, if_false, ↓reduceIte, k_ltT, k_ltF, k_leT, k_leF, k_eqT, k_eqF, k_m1lt, k_nm1, not_true_eq_false, not_false_eq_true, q_lit]
    rw [ok_zb1]
    refine ⟨sa M 2 (fun j => if j < 5845 then M 2 (j + 835) else M 2 j), zl2_fo (fun i => sa M 2 (fun j => if j < i then M 2 (j + 835) else M 2 j)) (fun i => nI i) 5845 _ (fu_lt (by decide)) ?_ rfl (fun i hi => ?_) ?_, ?_⟩
    · rw [show (fun j => if j < 0 then M 2 (j + 835) else M 2 j) = M 2 from funext fun j => if_neg (by omega), sa_self]
    · simp (maxSteps := 3000000) (disch := omega) only [↓nx_q, zb0_s, zb1_s, zb2_s, zb3_s, zb4_s, zb5_s, zb6_s, zb7_s, zb8_s, zb9_s, zb10_s, zb11_s, zb12_s, zb13_s, zb14_s, q_lit, nI_add, pk_mul, e_cl, gi_in, gz_n0, gz_n1, e_gz, si_eq, si_ne, sa_eq, sa_ne, if_true, if_false, ↓reduceIte, k_ltT, k_ltF, k_leT, k_leF, k_eqT, k_eqF, k_m1lt, k_nm1, not_true_eq_false, not_false_eq_true, sa_sa]
      refine congrArg some (congrArg Sum.inl (Prod.ext (congrArg (sa M 2) ?_) rfl))
      funext j
      by_cases e : j = i
      · subst e
        rw [upd_eq, if_neg (by omega), if_pos (by omega)]
      · rw [upd_ne e]
        by_cases q : j < i
        · rw [if_pos q, if_pos (by omega)]
        · rw [if_neg q, if_neg (by omega)]
    · simp (maxSteps := 3000000) (disch := omega) only [↓nx_q, zb0_s, zb1_s, zb2_s, zb3_s, zb4_s, zb5_s, zb6_s, zb7_s, zb8_s, zb9_s, zb10_s, zb11_s, zb12_s, zb13_s, zb14_s, q_lit, nI_add, pk_mul, e_cl, gi_in, gz_n0, gz_n1, e_gz, si_eq, si_ne, sa_eq, sa_ne, if_true, if_false, ↓reduceIte, k_ltT, k_ltF, k_leT, k_leF, k_eqT, k_eqF, k_m1lt, k_nm1, not_true_eq_false, not_false_eq_true]
    · have e5 : (sa M 2 (fun j => if j < 5845 then M 2 (j + 835) else M 2 j)) 5 0 = nI 8 := by rw [sa_ne (by decide), h5]
      have hcp := m_copies (f0 := M 0) (f2 := fun j => if j < 5845 then M 2 (j + 835) else M 2 j) (show 0 + 835 ≤ 835 by decide) (show 5845 + 835 ≤ 6680 by decide) (by decide) (by decide)
      simp (maxSteps := 3000000) (disch := omega) only [↓nx_q, zb0_s, zb1_s, zb2_s, zb3_s, zb4_s, zb5_s, zb6_s, zb7_s, zb8_s, zb9_s, zb10_s, zb11_s, zb12_s, zb13_s, zb14_s, q_lit, nI_add, pk_mul, e_cl, gi_in, gz_n0, gz_n1, e_gz, si_eq, si_ne, sa_eq, sa_ne, if_true, if_false, ↓reduceIte, k_ltT, k_ltF, k_leT, k_leF, k_eqT, k_eqF, k_m1lt, k_nm1, not_true_eq_false, not_false_eq_true, e5, h5, e_sub, hcp, Nat.reduceSub, Nat.reduceMul]
      refine ⟨_, rfl, 7, rfl, ?_, fun i hi => ?_, fun j i hj hi => ?_, fun j a b => ?_⟩
      · simp (disch := omega) only [si_eq, si_ne, sa_eq, sa_ne, upd_eq, upd_ne, updN_eq, updN_ne]
      · simp (disch := omega) only [si_eq, si_ne, sa_eq, sa_ne, upd_eq, upd_ne, updN_eq, updN_ne]
        rw [show 835 * 7 + i = 5845 + i by omega, cpF_in hi, Nat.zero_add]
      · simp (disch := omega) only [si_eq, si_ne, sa_eq, sa_ne, upd_eq, upd_ne, updN_eq, updN_ne]
        rw [cpF_out (by omega), if_pos (by omega), show 835 * j + i + 835 = 835 * (j + 1) + i by omega]
      · simp (disch := omega) only [si_eq, si_ne, sa_eq, sa_ne, upd_eq, upd_ne, updN_eq, updN_ne]
  · have hcp := m_copies (f0 := M 0) (f2 := M 2) (show 0 + 835 ≤ 835 by decide) (show 835 * c + 835 ≤ 6680 by omega) (by decide) (by decide)
    simp (maxSteps := 3000000) (disch := omega) only [↓nx_q, zb0_s, zb1_s, zb2_s, zb3_s, zb4_s, zb5_s, zb6_s, zb7_s, zb8_s, zb9_s, zb10_s, zb11_s, zb12_s, zb13_s, zb14_s, q_lit, nI_add, pk_mul, e_cl, gi_in, gz_n0, gz_n1, e_gz, si_eq, si_ne, sa_eq, sa_ne, if_true, if_false, ↓reduceIte, k_ltT, k_ltF, k_leT, k_leF, k_eqT, k_eqF, k_m1lt, k_nm1, not_true_eq_false, not_false_eq_true, h5, hcp]
    refine ⟨_, rfl, c, (if_neg q).symm, ?_, fun i hi => ?_, fun j i hj hi => ?_, fun j a b => ?_⟩
    · simp (disch := omega) only [si_eq, si_ne, sa_eq, sa_ne, upd_eq, upd_ne, updN_eq, updN_ne]
    · simp (disch := omega) only [si_eq, si_ne, sa_eq, sa_ne, upd_eq, upd_ne, updN_eq, updN_ne]
      rw [cpF_in hi, Nat.zero_add]
    · simp (disch := omega) only [si_eq, si_ne, sa_eq, sa_ne, upd_eq, upd_ne, updN_eq, updN_ne]
      rw [cpF_out (by omega), if_neg q]
    · simp (disch := omega) only [si_eq, si_ne, sa_eq, sa_ne, upd_eq, upd_ne, updN_eq, updN_ne]
/-- both keep -/
theorem keep_both {o : Ob} {P : PV} {u : Nat → Ob} {M : Ob} {σ : Nat → Nat} (h : RHist o P M) (hM : M 0 = rw σ) (hu : RC u σ) (hw : WF σ) : ∃ (o' : Ob) (P' : PV) (M' : Ob), f_X3_keep o (u 0) (u 1) (u 2) (u 3) (u 4) (u 5) (u 6) P = some (o', P') ∧ f_X12_keeps M = some M' ∧ RHist o' P' M' ∧ ∀ j, j ≠ 2 → j ≠ 5 → M' j = M j := by
  obtain ⟨a, c, τ, ha, hc, h1, h2, h5, hK⟩ := h
  obtain ⟨y, ey, a', c', ea, ec, q1, q2, U, hU, hP⟩ := keep_c (P := P) h1 h2 ha hc hu hw
  obtain ⟨M', eM, c'', ec', m5, m1, m2, m3⟩ := keep_m h5 hc
  have : c'' = c' := by rw [ec, ec']
  subst this
  obtain ⟨o', P'⟩ := y
  dsimp only at q1 q2 hP
  refine ⟨o', P', M', ey, eM, ⟨a', c'' + 1, fun j => if j = c'' then σ else τ (if c = 8 then j + 1 else j), ?_, ?_, q1, q2, m5, fun j hj => ?_⟩, m3⟩
  · rw [ea]
    split
    · exact rg_lt ha (by decide)
    · exact ha
  · rw [ec]
    split <;> omega
  · have hc8 : c'' ≤ 7 := by
      rw [ec]
      split <;> omega
    have ha' : a' < 8 := by
      rw [ea]
      split
      · exact rg_lt ha (by decide)
      · exact ha
    by_cases e : j = c''
    · subst e
      dsimp only
      rw [if_pos rfl]
      refine ⟨fun i hi => ?_, hw, U, ?_, hU⟩
      · rw [m1 i hi, hM]
        rfl
      · rw [hP, upP_eq]
    · dsimp only
      rw [if_neg e]
      have hj' : (if c = 8 then j + 1 else j) < c := by
        split
        · have : c'' = 7 := by rw [ec, if_pos (by assumption)]
          omega
        · have : c'' = c := by rw [ec, if_neg (by assumption)]
          omega
      obtain ⟨k1, k2, U', k3, k4⟩ := hK _ hj'
      refine ⟨fun i hi => ?_, k2, U', ?_, k4⟩
      · rw [m2 j i (by omega) hi]
        exact k1 i hi
      · rw [hP, upP_ne (fun q => e (rg_inj ha' (by omega) (by omega) q))]
        rw [ea]
        by_cases q : c = 8
        · rw [if_pos q, rg_1 ha (by omega)]
          rw [if_pos q] at k3
          exact k3
        · rw [if_neg q]
          rw [if_neg q] at k3
          exact k3
