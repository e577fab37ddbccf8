/-! ===== the planner: the model ===== -/
theorem m_sizeOf {M : Ob} {σ : Nat → Nat} {s : Nat} (hM : M 0 = rw σ) (h8 : σ 2 ≤ 8) (hs : s < 2147483648) : f_X12_sizeOf M (nI s) = some (nI (sumB (szN σ) s (σ 2))) := by
  unfold f_X12_sizeOf
  refine (zb1_of (zl2_fo (fun i => nI (sumB (szN σ) s i)) (fun i => nI i) (σ 2) (nI (sumB (szN σ) s (σ 2))) (fu_lt (by omega)) rfl rfl (fun i hi => ?_) ?_)).trans rfl
  · by_cases q : s.testBit i = true
    · simp (maxSteps := 3000000) (disch := omega) only [↓nx_q, zb0_s, zb1_s, zb2_s, zb3_s, zb4_s, zb5_s, zb6_s, zb7_s, zb8_s, zb9_s, zb10_s, zb11_s, zb12_s, zb13_s, zb14_s, q_lit, nI_add, pk_mul, e_cl, gi_in, gz_n0, gz_n1, e_gz, si_eq, si_ne, sa_eq, sa_ne, if_true, if_false, ↓reduceIte, k_ltT, k_ltF, k_leT, k_leF, k_eqT, k_eqF, k_m1lt, k_nm1, not_true_eq_false, not_false_eq_true, hM, rw_ap, upd_rw, sa_sa, jn_l, jn_r, jn_4, jn_5, jn_6, jn_ul, jn_ur, jn_u4, jn_u5, jn_u6, m_bitOf, if_pos q, sumB_s]
    · simp (maxSteps := 3000000) (disch := omega) only [↓nx_q, zb0_s, zb1_s, zb2_s, zb3_s, zb4_s, zb5_s, zb6_s, zb7_s, zb8_s, zb9_s, zb10_s, zb11_s, zb12_s, zb13_s, zb14_s, q_lit, nI_add, pk_mul, e_cl, gi_in, gz_n0, gz_n1, e_gz, si_eq, si_ne, sa_eq, sa_ne, if_true, if_false, ↓reduceIte, k_ltT, k_ltF, k_leT, k_leF, k_eqT, k_eqF, k_m1lt, k_nm1, not_true_eq_false, not_false_eq_true, hM, rw_ap, upd_rw, sa_sa, jn_l, jn_r, jn_4, jn_5, jn_6, jn_ul, jn_ur, jn_u4, jn_u5, jn_u6, m_bitOf, if_neg q, sumB_s]
  · simp (maxSteps := 3000000) (disch := omega) only [↓nx_q, zb0_s, zb1_s, zb2_s, zb3_s, zb4_s, zb5_s, zb6_s, zb7_s, zb8_s, zb9_s, zb10_s, zb11_s, zb12_s, zb13_s, zb14_s, q_lit, nI_add, pk_mul, e_cl, gi_in, gz_n0, gz_n1, e_gz, si_eq, si_ne, sa_eq, sa_ne, if_true, if_false, ↓reduceIte, k_ltT, k_ltF, k_leT, k_leF, k_eqT, k_eqF, k_m1lt, k_nm1, not_true_eq_false, not_false_eq_true, hM, rw_ap, upd_rw, sa_sa, jn_l, jn_r, jn_4, jn_5, jn_6, jn_ul, jn_ur, jn_u4, jn_u5, jn_u6]
theorem m_priceOf {M : Ob} {σ : Nat → Nat} {s : Nat} (hM : M 0 = rw σ) (h8 : σ 2 ≤ 8) (hs : s < 2147483648) : f_X12_priceOf M (nI s) = some (nI (prS σ s)) := by
  unfold f_X12_priceOf
  refine (zb1_of (zl2_fo (fun i => nI (sumB (prN σ) s i)) (fun i => nI i) (σ 2) (nI (prS σ s)) (fu_lt (by omega)) rfl rfl (fun i hi => ?_) ?_)).trans rfl
  · by_cases q : s.testBit i = true
    · simp (maxSteps := 3000000) (disch := omega) only [↓nx_q, zb0_s, zb1_s, zb2_s, zb3_s, zb4_s, zb5_s, zb6_s, zb7_s, zb8_s, zb9_s, zb10_s, zb11_s, zb12_s, zb13_s, zb14_s, q_lit, nI_add, pk_mul, e_cl, gi_in, gz_n0, gz_n1, e_gz, si_eq, si_ne, sa_eq, sa_ne, if_true, if_false, ↓reduceIte, k_ltT, k_ltF, k_leT, k_leF, k_eqT, k_eqF, k_m1lt, k_nm1, not_true_eq_false, not_false_eq_true, hM, rw_ap, upd_rw, sa_sa, jn_l, jn_r, jn_4, jn_5, jn_6, jn_ul, jn_ur, jn_u4, jn_u5, jn_u6, m_bitOf, if_pos q, sumB_s]
    · simp (maxSteps := 3000000) (disch := omega) only [↓nx_q, zb0_s, zb1_s, zb2_s, zb3_s, zb4_s, zb5_s, zb6_s, zb7_s, zb8_s, zb9_s, zb10_s, zb11_s, zb12_s, zb13_s, zb14_s, q_lit, nI_add, pk_mul, e_cl, gi_in, gz_n0, gz_n1, e_gz, si_eq, si_ne, sa_eq, sa_ne, if_true, if_false, ↓reduceIte, k_ltT, k_ltF, k_leT, k_leF, k_eqT, k_eqF, k_m1lt, k_nm1, not_true_eq_false, not_false_eq_true, hM, rw_ap, upd_rw, sa_sa, jn_l, jn_r, jn_4, jn_5, jn_6, jn_ul, jn_ur, jn_u4, jn_u5, jn_u6, m_bitOf, if_neg q, sumB_s]
  · simp (maxSteps := 3000000) (disch := omega) only [↓nx_q, zb0_s, zb1_s, zb2_s, zb3_s, zb4_s, zb5_s, zb6_s, zb7_s, zb8_s, zb9_s, zb10_s, zb11_s, zb12_s, zb13_s, zb14_s, q_lit, nI_add, pk_mul, e_cl, gi_in, gz_n0, gz_n1, e_gz, si_eq, si_ne, sa_eq, sa_ne, if_true, if_false, ↓reduceIte, k_ltT, k_ltF, k_leT, k_leF, k_eqT, k_eqF, k_m1lt, k_nm1, not_true_eq_false, not_false_eq_true, hM, rw_ap, upd_rw, sa_sa, jn_l, jn_r, jn_4, jn_5, jn_6, jn_ul, jn_ur, jn_u4, jn_u5, jn_u6]
    rfl
theorem m_rentAt {M : Ob} {σ : Nat → Nat} {i s : Nat} (hM : M 0 = rw σ) (hW : WF σ) (hi : i < σ 7) (hs : s < 2147483648) : f_X12_rentAt M (nI i) (nI s) = some (nI (srvN σ i s)) := by
  have h8 := hW.1.1
  have h7 := hW.2.2.1
  have hk := (hW.2.2.2.2.2.2 i hi).1
  unfold f_X12_rentAt srvN
  by_cases b : s.testBit (σ (104 + i)) = true
  · rw [if_pos b]
    simp (maxSteps := 3000000) (disch := omega) only [↓nx_q, zb0_s, zb1_s, zb2_s, zb3_s, zb4_s, zb5_s, zb6_s, zb7_s, zb8_s, zb9_s, zb10_s, zb11_s, zb12_s, zb13_s, zb14_s, q_lit, nI_add, pk_mul, e_cl, gi_in, gz_n0, gz_n1, e_gz, si_eq, si_ne, sa_eq, sa_ne, if_true, if_false, ↓reduceIte, k_ltT, k_ltF, k_leT, k_leF, k_eqT, k_eqF, k_m1lt, k_nm1, not_true_eq_false, not_false_eq_true, hM, rw_ap, upd_rw, sa_sa, jn_l, jn_r, jn_4, jn_5, jn_6, jn_ul, jn_ur, jn_u4, jn_u5, jn_u6, m_bitOf, if_pos b]
  · rw [if_neg b]
    simp (maxSteps := 3000000) (disch := omega) only [↓nx_q, zb0_s, zb1_s, zb2_s, zb3_s, zb4_s, zb5_s, zb6_s, zb7_s, zb8_s, zb9_s, zb10_s, zb11_s, zb12_s, zb13_s, zb14_s, q_lit, nI_add, pk_mul, e_cl, gi_in, gz_n0, gz_n1, e_gz, si_eq, si_ne, sa_eq, sa_ne, if_true, if_false, ↓reduceIte, k_ltT, k_ltF, k_leT, k_leF, k_eqT, k_eqF, k_m1lt, k_nm1, not_true_eq_false, not_false_eq_true, hM, rw_ap, upd_rw, sa_sa, jn_l, jn_r, jn_4, jn_5, jn_6, jn_ul, jn_ur, jn_u4, jn_u5, jn_u6, m_bitOf, if_neg b]
def mayN (σ : Nat → Nat) (room al i s : Nat) : Prop := sumB (szN σ) s (σ 2) ≤ room ∧ s &&& al = al ∧ ((σ 1 = 0 ∧ σ (8 + σ (104 + i)) ≤ room) → s.testBit (σ (104 + i)) = true)
theorem m_isPlan {M : Ob} {σ : Nat → Nat} {i s room al : Nat} (hM : M 0 = rw σ) (hW : WF σ) (hi : i < σ 7) (hs : s < 256) (ha : al < 256) (hr : room ≤ 20) (h31 : M 31 0 = nI room) (h33 : M 33 0 = nI al) : (mayN σ room al i s → f_X12_isPlan M (nI i) (nI s) = some (nI 1)) ∧ (¬ mayN σ room al i s → f_X12_isPlan M (nI i) (nI s) = some (nI 0)) := by
  have h8 := hW.1.1
  have h7 := hW.2.2.1
  have h1 := hW.2.1
  have hwi := hW.1.2.2.2.2.1
  have hk := (hW.2.2.2.2.2.2 i hi).1
  have hik := hwi _ hk
  have hsz : sumB (szN σ) s (σ 2) ≤ 48 := by
    have := sumB_le (w := szN σ) (f := s) (m := 6) (n := σ 2) (fun k hk => (hwi k hk).1.2)
    omega
  have hso := m_sizeOf (s := s) hM h8 (by omega)
  unfold f_X12_isPlan
  by_cases q1 : sumB (szN σ) s (σ 2) ≤ room
  · by_cases q2 : s &&& al = al
    · by_cases b : s.testBit (σ (104 + i)) = true
      · refine ⟨fun _ => ?_, fun h => absurd ⟨q1, q2, fun _ => b⟩ h⟩
        simp (maxSteps := 3000000) (disch := omega) only [↓nx_q, zb0_s, zb1_s, zb2_s, zb3_s, zb4_s, zb5_s, zb6_s, zb7_s, zb8_s, zb9_s, zb10_s, zb11_s, zb12_s, zb13_s, zb14_s, q_lit, nI_add, pk_mul, e_cl, gi_in, gz_n0, gz_n1, e_gz, si_eq, si_ne, sa_eq, sa_ne, if_true, if_false, ↓reduceIte, k_ltT, k_ltF, k_leT, k_leF, k_eqT, k_eqF, k_m1lt, k_nm1, not_true_eq_false, not_false_eq_true, hM, rw_ap, upd_rw, sa_sa, jn_l, jn_r, jn_4, jn_5, jn_6, jn_ul, jn_ur, jn_u4, jn_u5, jn_u6, hso, h31, h33, k_al, q2, m_bitOf, if_pos b]
      · by_cases q3 : σ 1 = 0
        · by_cases q4 : σ (8 + σ (104 + i)) ≤ room
          · refine ⟨fun h => absurd (h.2.2 ⟨q3, q4⟩) b, fun _ => ?_⟩
            simp (maxSteps := 3000000) (disch := omega) only [↓nx_q, zb0_s, zb1_s, zb2_s, zb3_s, zb4_s, zb5_s, zb6_s, zb7_s, zb8_s, zb9_s, zb10_s, zb11_s, zb12_s, zb13_s, zb14_s, q_lit, nI_add, pk_mul, e_cl, gi_in, gz_n0, gz_n1, e_gz, si_eq, si_ne, sa_eq, sa_ne, if_true, if_false, ↓reduceIte, k_ltT, k_ltF, k_leT, k_leF, k_eqT, k_eqF, k_m1lt, k_nm1, not_true_eq_false, not_false_eq_true, hM, rw_ap, upd_rw, sa_sa, jn_l, jn_r, jn_4, jn_5, jn_6, jn_ul, jn_ur, jn_u4, jn_u5, jn_u6, hso, h31, h33, k_al, q2, m_bitOf, if_neg b]
          · refine ⟨fun _ => ?_, fun h => absurd ⟨q1, q2, fun z => absurd z.2 q4⟩ h⟩
            simp (maxSteps := 3000000) (disch := omega) only [↓nx_q, zb0_s, zb1_s, zb2_s, zb3_s, zb4_s, zb5_s, zb6_s, zb7_s, zb8_s, zb9_s, zb10_s, zb11_s, zb12_s, zb13_s, zb14_s, q_lit, nI_add, pk_mul, e_cl, gi_in, gz_n0, gz_n1, e_gz, si_eq, si_ne, sa_eq, sa_ne, if_true, if_false, ↓reduceIte, k_ltT, k_ltF, k_leT, k_leF, k_eqT, k_eqF, k_m1lt, k_nm1, not_true_eq_false, not_false_eq_true, hM, rw_ap, upd_rw, sa_sa, jn_l, jn_r, jn_4, jn_5, jn_6, jn_ul, jn_ur, jn_u4, jn_u5, jn_u6, hso, h31, h33, k_al, q2, m_bitOf, if_neg b]
        · refine ⟨fun _ => ?_, fun h => absurd ⟨q1, q2, fun z => absurd z.1 q3⟩ h⟩
          simp (maxSteps := 3000000) (disch := omega) only [↓nx_q, zb0_s, zb1_s, zb2_s, zb3_s, zb4_s, zb5_s, zb6_s, zb7_s, zb8_s, zb9_s, zb10_s, zb11_s, zb12_s, zb13_s, zb14_s, q_lit, nI_add, pk_mul, e_cl, gi_in, gz_n0, gz_n1, e_gz, si_eq, si_ne, sa_eq, sa_ne, if_true, if_false, ↓reduceIte, k_ltT, k_ltF, k_leT, k_leF, k_eqT, k_eqF, k_m1lt, k_nm1, not_true_eq_false, not_false_eq_true, hM, rw_ap, upd_rw, sa_sa, jn_l, jn_r, jn_4, jn_5, jn_6, jn_ul, jn_ur, jn_u4, jn_u5, jn_u6, hso, h31, h33, k_al, q2, m_bitOf, if_neg b]
    · refine ⟨fun h => absurd h.2.1 q2, fun _ => ?_⟩
      simp (maxSteps := 3000000) (disch := omega) only [↓nx_q, zb0_s, zb1_s, zb2_s, zb3_s, zb4_s, zb5_s, zb6_s, zb7_s, zb8_s, zb9_s, zb10_s, zb11_s, zb12_s, zb13_s, zb14_s, q_lit, nI_add, pk_mul, e_cl, gi_in, gz_n0, gz_n1, e_gz, si_eq, si_ne, sa_eq, sa_ne, if_true, if_false, ↓reduceIte, k_ltT, k_ltF, k_leT, k_leF, k_eqT, k_eqF, k_m1lt, k_nm1, not_true_eq_false, not_false_eq_true, hM, rw_ap, upd_rw, sa_sa, jn_l, jn_r, jn_4, jn_5, jn_6, jn_ul, jn_ur, jn_u4, jn_u5, jn_u6, hso, h31, h33, k_al, q2]
  · refine ⟨fun h => absurd h.1 q1, fun _ => ?_⟩
    simp (maxSteps := 3000000) (disch := omega) only [↓nx_q, zb0_s, zb1_s, zb2_s, zb3_s, zb4_s, zb5_s, zb6_s, zb7_s, zb8_s, zb9_s, zb10_s, zb11_s, zb12_s, zb13_s, zb14_s, q_lit, nI_add, pk_mul, e_cl, gi_in, gz_n0, gz_n1, e_gz, si_eq, si_ne, sa_eq, sa_ne, if_true, if_false, ↓reduceIte, k_ltT, k_ltF, k_leT, k_leF, k_eqT, k_eqF, k_m1lt, k_nm1, not_true_eq_false, not_false_eq_true, hM, rw_ap, upd_rw, sa_sa, jn_l, jn_r, jn_4, jn_5, jn_6, jn_ul, jn_ur, jn_u4, jn_u5, jn_u6, hso, h31]
def m8 (x : Nat) : Nat := if x < 1000000 then x else 100000000
theorem m8_lt {x : Nat} (h : x < 1000000) : m8 x = x := if_pos h
theorem m8_ge {x : Nat} (h : ¬ x < 1000000) : m8 x = 100000000 := if_neg h
/-- the rows that are laid -/
def PR (M : Ob) (σ : Nat → Nat) (room al n : Nat) : Prop := ∀ i s, i < n → s < 2 ^ σ 2 → M 28 (256 * i + s) = nI (m8 (rowN σ room al (i + 1) s))
theorem m_ahead {M : Ob} {σ : Nat → Nat} {room al i t : Nat} (h8 : σ 2 ≤ 8) (hp : PR M σ room al i) (hi : i < 40) (ht : t < 2 ^ σ 2) : f_X12_paidAhead M (nI i) (nI t) = some (nI (m8 (rowN σ room al i t))) := by
  have hN : 2 ^ σ 2 ≤ 256 := pw8 h8
  unfold f_X12_paidAhead
  by_cases q : i = 0
  · subst q
    unfold rowN
    by_cases z : t = 0
    · subst z
      simp (maxSteps := 3000000) (disch := omega) only [↓nx_q, zb0_s, zb1_s, zb2_s, zb3_s, zb4_s, zb5_s, zb6_s, zb7_s, zb8_s, zb9_s, zb10_s, zb11_s, zb12_s, zb13_s, zb14_s, q_lit, nI_add, pk_mul, e_cl, gi_in, gz_n0, gz_n1, e_gz, si_eq, si_ne, sa_eq, sa_ne, if_true, if_false, ↓reduceIte, k_ltT, k_ltF, k_leT, k_leF, k_eqT, k_eqF, k_m1lt, k_nm1, not_true_eq_false, not_false_eq_true]
      rfl
    · rw [if_neg z]
      simp (maxSteps := 3000000) (disch := omega) only [↓nx_q, zb0_s, zb1_s, zb2_s, zb3_s, zb4_s, zb5_s, zb6_s, zb7_s, zb8_s, zb9_s, zb10_s, zb11_s, zb12_s, zb13_s, zb14_s, q_lit, nI_add, pk_mul, e_cl, gi_in, gz_n0, gz_n1, e_gz, si_eq, si_ne, sa_eq, sa_ne, if_true, if_false, ↓reduceIte, k_ltT, k_ltF, k_leT, k_leF, k_eqT, k_eqF, k_m1lt, k_nm1, not_true_eq_false, not_false_eq_true]
      rfl
  · obtain ⟨n, rfl⟩ : ∃ n, i = n + 1 := ⟨i - 1, by omega⟩
    have hc := hp n t (by omega) ht
    simp (maxSteps := 3000000) (disch := omega) only [↓nx_q, zb0_s, zb1_s, zb2_s, zb3_s, zb4_s, zb5_s, zb6_s, zb7_s, zb8_s, zb9_s, zb10_s, zb11_s, zb12_s, zb13_s, zb14_s, q_lit, nI_add, pk_mul, e_cl, gi_in, gz_n0, gz_n1, e_gz, si_eq, si_ne, sa_eq, sa_ne, if_true, if_false, ↓reduceIte, k_ltT, k_ltF, k_leT, k_leF, k_eqT, k_eqF, k_m1lt, k_nm1, not_true_eq_false, not_false_eq_true, e_sub, Nat.add_sub_cancel, hc]
theorem mnU_0 {σ : Nat → Nat} {room al s : Nat} : ∀ t, 1 ≤ t → mnU σ room (rowN σ room al 0) s t = mnU σ room (rowN σ room al 0) s 1
  | 0, h => by omega
  | t + 1, h => by
    by_cases e : t = 0
    · subst e; rfl
    · rw [← mnU_0 t (by omega)]
      show (if _ then _ else _) = _
      refine if_neg (fun q => ?_)
      have : rowN σ room al 0 t = 1000000 := if_neg e
      omega
theorem m_bestAt {M : Ob} {σ : Nat → Nat} {room al i s : Nat} (hM : M 0 = rw σ) (hW : WF σ) (hi : i < σ 7) (hs : s < 2 ^ σ 2) (hp : PR M σ room al i) (hpr : ∀ t, t < 2 ^ σ 2 → M 30 t = nI (prS σ t)) : f_X12_bestAt M (nI i) (nI s) = some (nI (if mnU σ room (rowN σ room al i) s (2 ^ σ 2) < 1000000 then mnU σ room (rowN σ room al i) s (2 ^ σ 2) + srvN σ i s else 100000000)) := by
  have h8 := hW.1.1
  have h7 := hW.2.2.1
  have hwi := hW.1.2.2.2.2.1
  have hN : 2 ^ σ 2 ≤ 256 := pw8 h8
  have hN0 : 0 < 2 ^ σ 2 := Nat.two_pow_pos _
  have hlog : ∀ i, i < σ 7 → σ (104 + i) < σ 2 := fun i hi => (hW.2.2.2.2.2.2 i hi).1
  have hbd := row_bd h8 hwi room al i (fun j h => hlog j (by omega))
  have hsl := srv_le h8 hwi (hlog i hi) s
  have hra := m_rentAt (s := s) hM hW hi (by omega)
  have body : ∀ t, t < 2 ^ σ 2 → ∀ {χ : Type} (k21 : Int32) (f : Int32 → Int32 → Option χ), k21 = nI (m8 (mnU σ room (rowN σ room al i) s t)) → (zb1 (f_X12_paidAhead M (nI i) (nI t)) fun (r33 : Int32) =>
      if r33 < nI 100000000 then (
        if k21 ≤ r33 + nI (prS σ (andn s t)) then f k21 (nI (t + 1)) else f (r33 + nI (prS σ (andn s t))) (nI (t + 1))) else f k21 (nI (t + 1))) = f (nI (m8 (mnU σ room (rowN σ room al i) s (t + 1)))) (nI (t + 1)) := by
    intro t ht χ k21 f hk
    subst hk
    have ha := m_ahead h8 hp (show i < 40 by omega) ht
    have hU := mnU_le σ room (rowN σ room al i) s t
    have hpl := prS_le h8 hwi (andn s t)
    have hsucc : mnU σ room (rowN σ room al i) s (t + 1) = if sumB (szN σ) t (σ 2) ≤ room ∧ rowN σ room al i t < 1000000 ∧ rowN σ room al i t + prS σ (andn s t) < mnU σ room (rowN σ room al i) s t then rowN σ room al i t + prS σ (andn s t) else mnU σ room (rowN σ room al i) s t := rfl
    rw [ha, zb1_s]
    by_cases c1 : rowN σ room al i t < 1000000
    · have hr : rowN σ room al i t ≤ 500 * i := by rcases hbd t with h | h <;> omega
      rw [m8_lt c1, if_pos (nI_lt (by omega) (by decide)), nI_add]
      by_cases c2 : rowN σ room al i t + prS σ (andn s t) < mnU σ room (rowN σ room al i) s t
      · rw [if_pos ⟨row_fit c1, c1, c2⟩] at hsucc
        rw [hsucc, m8_lt (by omega : rowN σ room al i t + prS σ (andn s t) < 1000000)]
        have : rowN σ room al i t + prS σ (andn s t) < m8 (mnU σ room (rowN σ room al i) s t) := by
          unfold m8
          split <;> omega
        rw [if_neg (nI_ge this (by unfold m8; split <;> omega))]
      · rw [if_neg (fun z => c2 z.2.2)] at hsucc
        rw [hsucc]
        have : m8 (mnU σ room (rowN σ room al i) s t) ≤ rowN σ room al i t + prS σ (andn s t) := by
          unfold m8
          split <;> omega
        rw [if_pos (nI_le this (by omega))]
    · rw [if_neg (fun z => c1 z.2.1)] at hsucc
      rw [m8_ge c1, if_neg (by decide), hsucc]
  have hm8 : ∀ t, m8 (mnU σ room (rowN σ room al i) s t) < 2147483648 := fun t => by
    have := mnU_le σ room (rowN σ room al i) s t
    unfold m8
    split <;> omega
  have fin : ∀ U, U ≤ 1000000 → (if nI (m8 U) < nI 100000000 then (zb1 (f_X12_rentAt M (nI i) (nI s)) fun (r24 : Int32) => some (nI (m8 U) + r24)) else some (nI 100000000)) = some (nI (if U < 1000000 then U + srvN σ i s else 100000000)) := by
    intro U hU
    by_cases c : U < 1000000
    · rw [m8_lt c, if_pos c, if_pos (nI_lt (by omega) (by decide)), hra, zb1_s, nI_add]
    · rw [m8_ge c, if_neg c, if_neg (by decide)]
  unfold f_X12_bestAt
  by_cases q : i = 0
  · subst q
    have hU1 : mnU σ room (rowN σ room al 0) s (2 ^ σ 2) = mnU σ room (rowN σ room al 0) s 1 := mnU_0 _ hN0
    rw [hU1]
    have han : andn s 0 < 2 ^ σ 2 := andn_lt hs
    have hp0 := hpr _ han
    rw [nx_eq]
    refine (zb1_of (zl2_fo (fun t => nI (m8 (mnU σ room (rowN σ room al 0) s t))) (fun t => nI t) 1 (nI (m8 (mnU σ room (rowN σ room al 0) s 1))) (fu_lt (by decide)) rfl rfl (fun t ht => ?_) ?_)).trans (fin _ (mnU_le _ _ _ _ _))
    · have : t = 0 := by omega
      subst this
      refine Eq.trans ?_ (body 0 hN0 _ (fun a b => some (Sum.inl (a, b))) rfl)
      simp (maxSteps := 3000000) (disch := omega) only [↓nx_q, zb0_s, zb1_s, zb2_s, zb3_s, zb4_s, zb5_s, zb6_s, zb7_s, zb8_s, zb9_s, zb10_s, zb11_s, zb12_s, zb13_s, zb14_s, q_lit, nI_add, pk_mul, e_cl, gi_in, gz_n0, gz_n1, e_gz, si_eq, si_ne, sa_eq, sa_ne, if_true, if_false, ↓reduceIte, k_ltT, k_ltF, k_leT, k_leF, k_eqT, k_eqF, k_m1lt, k_nm1, not_true_eq_false, not_false_eq_true, q_andn', hp0]
    · simp (maxSteps := 3000000) (disch := omega) only [↓nx_q, zb0_s, zb1_s, zb2_s, zb3_s, zb4_s, zb5_s, zb6_s, zb7_s, zb8_s, zb9_s, zb10_s, zb11_s, zb12_s, zb13_s, zb14_s, q_lit, nI_add, pk_mul, e_cl, gi_in, gz_n0, gz_n1, e_gz, si_eq, si_ne, sa_eq, sa_ne, if_true, if_false, ↓reduceIte, k_ltT, k_ltF, k_leT, k_leF, k_eqT, k_eqF, k_m1lt, k_nm1, not_true_eq_false, not_false_eq_true]
  · rw [nx_eq]
    refine (zb1_of (zl2_fo (fun t => nI (m8 (mnU σ room (rowN σ room al i) s t))) (fun t => nI t) (2 ^ σ 2) (nI (m8 (mnU σ room (rowN σ room al i) s (2 ^ σ 2)))) (fu_lt (by omega)) rfl rfl (fun t ht => ?_) ?_)).trans (fin _ (mnU_le _ _ _ _ _))
    · have han : andn s t < 2 ^ σ 2 := andn_lt hs
      have hpt := hpr _ han
      refine Eq.trans ?_ (body t ht _ (fun a b => some (Sum.inl (a, b))) rfl)
      simp (maxSteps := 3000000) (disch := omega) only [↓nx_q, zb0_s, zb1_s, zb2_s, zb3_s, zb4_s, zb5_s, zb6_s, zb7_s, zb8_s, zb9_s, zb10_s, zb11_s, zb12_s, zb13_s, zb14_s, q_lit, nI_add, pk_mul, e_cl, gi_in, gz_n0, gz_n1, e_gz, si_eq, si_ne, sa_eq, sa_ne, if_true, if_false, ↓reduceIte, k_ltT, k_ltF, k_leT, k_leF, k_eqT, k_eqF, k_m1lt, k_nm1, not_true_eq_false, not_false_eq_true, hM, rw_ap, upd_rw, sa_sa, jn_l, jn_r, jn_4, jn_5, jn_6, jn_ul, jn_ur, jn_u4, jn_u5, jn_u6, e_shl1, q_andn', hpt]
    · simp (maxSteps := 3000000) (disch := omega) only [↓nx_q, zb0_s, zb1_s, zb2_s, zb3_s, zb4_s, zb5_s, zb6_s, zb7_s, zb8_s, zb9_s, zb10_s, zb11_s, zb12_s, zb13_s, zb14_s, q_lit, nI_add, pk_mul, e_cl, gi_in, gz_n0, gz_n1, e_gz, si_eq, si_ne, sa_eq, sa_ne, if_true, if_false, ↓reduceIte, k_ltT, k_ltF, k_leT, k_leF, k_eqT, k_eqF, k_m1lt, k_nm1, not_true_eq_false, not_false_eq_true, hM, rw_ap, upd_rw, sa_sa, jn_l, jn_r, jn_4, jn_5, jn_6, jn_ul, jn_ur, jn_u4, jn_u5, jn_u6, e_shl1]
