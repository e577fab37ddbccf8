/-! ===== what lies there; the poorest; the sinking: the model ===== -/
theorem q_m1lt : (-nI 1 : Int32) < nI 0 := by decide
theorem e_m1lt {α : Type} {x y : α} {_ : Decidable ((-nI 1 : Int32) < nI 0)} : (if (-nI 1 : Int32) < nI 0 then x else y) = x := if_pos q_m1lt
theorem e_nm1 {α : Type} {p : Nat} {x y : α} {_ : Decidable (nI p = (-nI 1 : Int32))} (h : p < 2147483648) : (if nI p = (-nI 1 : Int32) then x else y) = y := by
  refine if_neg (fun q => ?_)
  have h2 := congrArg Int32.toInt q
  rw [nI_toInt (by omega), show (-nI 1 : Int32).toInt = -1 by decide] at h2
  omega
theorem sumB_s (w : Nat → Nat) (f n : Nat) : sumB w f (n + 1) = sumB w f n + (if f.testBit n = true then w n else 0) := rfl
theorem m_lies {M : Ob} {σ π : Nat → Nat} (hM : M 0 = rw (jn σ π)) (h2 : σ 2 ≤ 8) (h3 : σ 3 < 2147483648) : f_X12_lies M = some (nI (liesN σ)) := by
  unfold f_X12_lies
  refine (zb1_of (zl2_fo (fun i => nI (sumB (szN σ) (σ 3) i)) (fun i => nI i) (σ 2) (nI (liesN σ)) (fu_lt (by omega)) rfl rfl (fun i hi => ?_) ?_)).trans rfl
  · by_cases q : (σ 3).testBit i = true
    · simp (disch := omega) only [↓nx_q, zb0_s, zb1_s, zb2_s, zb3_s, zb4_s, zb5_s, zb6_s, zb7_s, zb8_s, zb9_s, zb10_s, zb11_s, zb12_s, zb13_s, zb14_s, q_lit, nI_add, pk_mul, e_cl, gi_in, gz_n0, gz_n1, e_gz, si_eq, si_ne, sa_eq, sa_ne, if_true, if_false, ↓reduceIte, k_ltT, k_ltF, k_leT, k_leF, k_eqT, k_eqF, k_m1lt, k_nm1, not_true_eq_false, not_false_eq_true, hM, rw_ap, upd_rw, sa_sa, jn_l, jn_r, jn_4, jn_5, jn_6, jn_ul, jn_ur, jn_u4, jn_u5, jn_u6, m_bitOf, if_pos q, sumB_s]
    · simp (disch := omega) only [↓nx_q, zb0_s, zb1_s, zb2_s, zb3_s, zb4_s, zb5_s, zb6_s, zb7_s, zb8_s, zb9_s, zb10_s, zb11_s, zb12_s, zb13_s, zb14_s, q_lit, nI_add, pk_mul, e_cl, gi_in, gz_n0, gz_n1, e_gz, si_eq, si_ne, sa_eq, sa_ne, if_true, if_false, ↓reduceIte, k_ltT, k_ltF, k_leT, k_leF, k_eqT, k_eqF, k_m1lt, k_nm1, not_true_eq_false, not_false_eq_true, hM, rw_ap, upd_rw, sa_sa, jn_l, jn_r, jn_4, jn_5, jn_6, jn_ul, jn_ur, jn_u4, jn_u5, jn_u6, m_bitOf, if_neg q, sumB_s]
  · simp (disch := omega) only [↓nx_q, zb0_s, zb1_s, zb2_s, zb3_s, zb4_s, zb5_s, zb6_s, zb7_s, zb8_s, zb9_s, zb10_s, zb11_s, zb12_s, zb13_s, zb14_s, q_lit, nI_add, pk_mul, e_cl, gi_in, gz_n0, gz_n1, e_gz, si_eq, si_ne, sa_eq, sa_ne, if_true, if_false, ↓reduceIte, k_ltT, k_ltF, k_leT, k_leF, k_eqT, k_eqF, k_m1lt, k_nm1, not_true_eq_false, not_false_eq_true, hM, rw_ap, upd_rw, sa_sa, jn_l, jn_r, jn_4, jn_5, jn_6, jn_ul, jn_ur, jn_u4, jn_u5, jn_u6]
def poor (σ : Nat → Nat) : Nat → Option Nat
  | 0 => none
  | i + 1 => if (σ 3).testBit i = true then (match poor σ i with
    | none => some i
    | some p => if σ (32 + p) ≤ σ (32 + i) then some p else some i) else poor σ i
def oI : Option Nat → Int32
  | none => -1
  | some p => nI p
theorem poor_sF {σ : Nat → Nat} {i : Nat} (q : ¬ (σ 3).testBit i = true) : poor σ (i + 1) = poor σ i := if_neg q
theorem poor_sN {σ : Nat → Nat} {i : Nat} (q : (σ 3).testBit i = true) (h : poor σ i = none) : poor σ (i + 1) = some i := by
  rw [show poor σ (i + 1) = _ from if_pos q, h]
theorem poor_sS {σ : Nat → Nat} {i p : Nat} (q : (σ 3).testBit i = true) (h : poor σ i = some p) : poor σ (i + 1) = if σ (32 + p) ≤ σ (32 + i) then some p else some i := by
  rw [show poor σ (i + 1) = _ from if_pos q, h]
theorem poor_none {σ : Nat → Nat} : ∀ {n : Nat}, poor σ n = none → ∀ k, k < n → (σ 3).testBit k = false
  | 0, _, k, hk => by omega
  | n + 1, h, k, hk => by
    unfold poor at h
    by_cases q : (σ 3).testBit n = true
    · rw [if_pos q] at h
      split at h
      · cases h
      · split at h <;> cases h
    · rw [if_neg q] at h
      by_cases e : k = n
      · subst e
        simpa using q
      · exact poor_none h k (by omega)
theorem poor_some {σ : Nat → Nat} : ∀ {n p : Nat}, poor σ n = some p → p < n ∧ (σ 3).testBit p = true ∧ ∀ k, k < n → (σ 3).testBit k = true → σ (32 + p) ≤ σ (32 + k)
  | 0, p, h => by cases h
  | n + 1, p, h => by
    unfold poor at h
    by_cases q : (σ 3).testBit n = true
    · rw [if_pos q] at h
      split at h
      · rename_i hn
        cases h
        refine ⟨by omega, q, fun k hk hb => ?_⟩
        by_cases e : k = n
        · subst e; exact Nat.le_refl _
        · have := poor_none hn k (by omega)
          rw [this] at hb
          cases hb
      · rename_i p0 hp0
        obtain ⟨a, b, c⟩ := poor_some hp0
        split at h
        · rename_i hle
          cases h
          refine ⟨by omega, b, fun k hk hb => ?_⟩
          by_cases e : k = n
          · subst e; exact hle
          · exact c k (by omega) hb
        · rename_i hle
          cases h
          refine ⟨by omega, q, fun k hk hb => ?_⟩
          by_cases e : k = n
          · subst e; exact Nat.le_refl _
          · have := c k (by omega) hb
            omega
    · rw [if_neg q] at h
      obtain ⟨a, b, c⟩ := poor_some h
      refine ⟨by omega, b, fun k hk hb => ?_⟩
      by_cases e : k = n
      · subst e; exact absurd hb q
      · exact c k (by omega) hb
theorem m_least {M : Ob} {σ π : Nat → Nat} (hM : M 0 = rw (jn σ π)) (h2 : σ 2 ≤ 8) (h3 : σ 3 < 2147483648) (hd : ∀ k, k < 8 → σ (32 + k) ≤ 3600) : f_X12_least M = some (oI (poor σ (σ 2))) := by
  unfold f_X12_least
  refine (zb1_of (zl2_fo (fun i => oI (poor σ i)) (fun i => nI i) (σ 2) (oI (poor σ (σ 2))) (fu_lt (by omega)) rfl rfl (fun i hi => ?_) ?_)).trans rfl
  · show _ = some (Sum.inl (oI (poor σ (i + 1)), nI (i + 1)))
    have hdi := hd i (by omega)
    by_cases q : (σ 3).testBit i = true
    · cases hp : poor σ i with
      | none =>
        rw [poor_sN q hp]
        simp (disch := omega) only [↓nx_q, zb0_s, zb1_s, zb2_s, zb3_s, zb4_s, zb5_s, zb6_s, zb7_s, zb8_s, zb9_s, zb10_s, zb11_s, zb12_s, zb13_s, zb14_s, q_lit, nI_add, pk_mul, e_cl, gi_in, gz_n0, gz_n1, e_gz, si_eq, si_ne, sa_eq, sa_ne, if_true, if_false, ↓reduceIte, k_ltT, k_ltF, k_leT, k_leF, k_eqT, k_eqF, k_m1lt, k_nm1, not_true_eq_false, not_false_eq_true, hM, rw_ap, upd_rw, sa_sa, jn_l, jn_r, jn_4, jn_5, jn_6, jn_ul, jn_ur, jn_u4, jn_u5, jn_u6, m_bitOf, if_pos q, hp, oI, e_m1lt]
      | some p =>
        have hp1 := poor_some hp
        have hdp := hd p (by omega)
        rw [poor_sS q hp]
        by_cases q2 : σ (32 + p) ≤ σ (32 + i)
        · simp (disch := omega) only [↓nx_q, zb0_s, zb1_s, zb2_s, zb3_s, zb4_s, zb5_s, zb6_s, zb7_s, zb8_s, zb9_s, zb10_s, zb11_s, zb12_s, zb13_s, zb14_s, q_lit, nI_add, pk_mul, e_cl, gi_in, gz_n0, gz_n1, e_gz, si_eq, si_ne, sa_eq, sa_ne, if_true, if_false, ↓reduceIte, k_ltT, k_ltF, k_leT, k_leF, k_eqT, k_eqF, k_m1lt, k_nm1, not_true_eq_false, not_false_eq_true, hM, rw_ap, upd_rw, sa_sa, jn_l, jn_r, jn_4, jn_5, jn_6, jn_ul, jn_ur, jn_u4, jn_u5, jn_u6, m_bitOf, if_pos q, hp, oI, if_pos q2]
        · simp (disch := omega) only [↓nx_q, zb0_s, zb1_s, zb2_s, zb3_s, zb4_s, zb5_s, zb6_s, zb7_s, zb8_s, zb9_s, zb10_s, zb11_s, zb12_s, zb13_s, zb14_s, q_lit, nI_add, pk_mul, e_cl, gi_in, gz_n0, gz_n1, e_gz, si_eq, si_ne, sa_eq, sa_ne, if_true, if_false, ↓reduceIte, k_ltT, k_ltF, k_leT, k_leF, k_eqT, k_eqF, k_m1lt, k_nm1, not_true_eq_false, not_false_eq_true, hM, rw_ap, upd_rw, sa_sa, jn_l, jn_r, jn_4, jn_5, jn_6, jn_ul, jn_ur, jn_u4, jn_u5, jn_u6, m_bitOf, if_pos q, hp, oI, if_neg q2]
    · rw [poor_sF q]
      simp (disch := omega) only [↓nx_q, zb0_s, zb1_s, zb2_s, zb3_s, zb4_s, zb5_s, zb6_s, zb7_s, zb8_s, zb9_s, zb10_s, zb11_s, zb12_s, zb13_s, zb14_s, q_lit, nI_add, pk_mul, e_cl, gi_in, gz_n0, gz_n1, e_gz, si_eq, si_ne, sa_eq, sa_ne, if_true, if_false, ↓reduceIte, k_ltT, k_ltF, k_leT, k_leF, k_eqT, k_eqF, k_m1lt, k_nm1, not_true_eq_false, not_false_eq_true, hM, rw_ap, upd_rw, sa_sa, jn_l, jn_r, jn_4, jn_5, jn_6, jn_ul, jn_ur, jn_u4, jn_u5, jn_u6, m_bitOf, if_neg q]
  · simp (disch := omega) only [↓nx_q, zb0_s, zb1_s, zb2_s, zb3_s, zb4_s, zb5_s, zb6_s, zb7_s, zb8_s, zb9_s, zb10_s, zb11_s, zb12_s, zb13_s, zb14_s, q_lit, nI_add, pk_mul, e_cl, gi_in, gz_n0, gz_n1, e_gz, si_eq, si_ne, sa_eq, sa_ne, if_true, if_false, ↓reduceIte, k_ltT, k_ltF, k_leT, k_leF, k_eqT, k_eqF, k_m1lt, k_nm1, not_true_eq_false, not_false_eq_true, hM, rw_ap, upd_rw, sa_sa, jn_l, jn_r, jn_4, jn_5, jn_6, jn_ul, jn_ur, jn_u4, jn_u5, jn_u6]
def snkI (σ : Nat → Nat) (b : Nat) : Nat → Nat → Nat
  | 0 => σ
  | i + 1 => if (σ 3).testBit i = true then updN (snkI σ b i) (32 + i) (σ (32 + i) - b) else snkI σ b i
theorem snkI_fr {σ : Nat → Nat} {b j : Nat} : ∀ {i : Nat}, j < 32 ∨ 32 + i ≤ j → snkI σ b i j = σ j
  | 0, _ => rfl
  | i + 1, h => by
    unfold snkI
    split
    · rw [updN_ne (by omega), snkI_fr (by omega)]
    · rw [snkI_fr (by omega)]
theorem snkI_in {σ : Nat → Nat} {b k : Nat} : ∀ {i : Nat}, k < i → snkI σ b i (32 + k) = if (σ 3).testBit k = true then σ (32 + k) - b else σ (32 + k)
  | 0, h => by omega
  | i + 1, h => by
    unfold snkI
    by_cases e : k = i
    · subst e
      split
      · rw [updN_eq]
      · rw [snkI_fr (by omega)]
    · split
      · rw [updN_ne (by omega), snkI_in (by omega)]
      · rw [snkI_in (by omega)]
