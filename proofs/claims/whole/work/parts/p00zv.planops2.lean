/-- both trace -/
theorem trace_both {V : Nat → Ob} {PK PI : PV} {M : Ob} {σ : Nat → Nat} {g : Nat} {fc fm : Bool} (hR : RelS V PK PI M σ g fc fm) (h1 : 0 < σ 7) : ∃ (p M' : Ob), f_X11_trace (V 4) (V 5) (V 6) (V 14) = some p ∧ f_X12_plansAll M = some (M', nI 1) ∧ M' 0 = rw σ ∧ PT p σ (σ 0) ∧ (∀ i, i < σ 7 → p 9 i = nI (chA σ (σ 0) (σ 7) i)) ∧ (∀ i, i < σ 7 → M' 29 i = nI (chA σ (σ 0) (σ 7) i)) ∧ Rel (vu V 14 p) PK PI M' := by
  have hR0 := hR
  obtain ⟨⟨hM0, hW, hRC⟩, hGC, hGM, hHi, hPl, hO⟩ := hR0
  have h7 := hW.2.2.1
  have hr := hW.1.2.2.1
  have s0 : V 5 0 0 = nI (σ 0) := hRC.2.2.1.1
  obtain ⟨p, ep, hF, hT⟩ := follow_plan hPl hO.2.2.2.2.2.1 hRC.2.1 hRC.2.2.1.2.1 hRC.2.2.2.1 hW
  obtain ⟨p2, ep2, hF2, h82, hc2⟩ := c_trace hRC.2.1 hRC.2.2.2.1 hW hF h1 hT
  obtain ⟨y, ey, y1, y2, y3, y4⟩ := m_plans (many := σ 7) (room := σ 0) (al := 0) hM0 hW (Nat.le_refl _) hr.2 (by decide)
  obtain ⟨M1, r⟩ := y
  dsimp only at y1 y2 y3 y4
  have hfin := best_fin (room := σ 0) hW (Nat.le_refl (σ 7))
  rw [if_neg (by omega), m8_lt hfin] at y4
  subst y4
  have hM1 : M1 0 = rw σ := by rw [y3 0 (by decide) (by decide) (by decide) (by decide) (by decide) (by decide)]; exact hM0
  obtain ⟨M2, e2, b1, b2⟩ := m_goesBack hM1 hW (Nat.le_refl _) h1 y1 y2
  have ep' : f_X5_follow 10496 (V 14) (V 4) (V 5) (V 6) (nI (σ 0)) (-1) = some p := ep
  have ep2' : f_X5_trace 10496 p (V 4) (V 6) = some p2 := ep2
  refine ⟨p2, M2, ?_, ?_, by rw [b2 0 (by decide)]; exact hM1, hF2.1, hc2, b1, Rel_plan hR (RPlan_of hF2 (Or.inr ⟨σ 7, Nat.le_refl _, h82, fun d hd => ?_⟩)) hF2.2.2.1 (fun j a b c d e f => (b2 j b).trans (y3 j a b c d e f))⟩
  · unfold f_X11_trace
    rw [s0, zb1_of ep', zb1_of ep2']
  · unfold f_X12_plansAll
    simp (maxSteps := 3000000) (disch := omega) only [↓nx_q, zb0_s, zb1_s, zb2_s, zb3_s, zb4_s, zb5_s, zb6_s, zb7_s, zb8_s, zb9_s, zb10_s, zb11_s, zb12_s, zb13_s, zb14_s, q_lit, nI_add, pk_mul, e_cl, gi_in, gz_n0, gz_n1, e_gz, si_eq, si_ne, sa_eq, sa_ne, if_true, if_false, ↓reduceIte, k_ltT, k_ltF, k_leT, k_leF, k_eqT, k_eqF, k_m1lt, k_nm1, not_true_eq_false, not_false_eq_true, hM0, rw_ap, upd_rw, sa_sa, jn_l, jn_r, jn_4, jn_5, jn_6, jn_ul, jn_ur, jn_u4, jn_u5, jn_u6, ey, e2]
  · have := hc2 (σ 7 - 1 - d) (by omega)
    unfold chA at this
    rw [show σ 7 - 1 - (σ 7 - 1 - d) = d by omega] at this
    exact this
theorem m_paidAt {M : Ob} {σ : Nat → Nat} {i : Nat} (hM : M 0 = rw σ) (hW : WF σ) (hi : i < σ 7) (hc : ∀ i, i < σ 7 → M 29 i = nI (chA σ (σ 0) (σ 7) i)) : f_X12_paidAt M (nI i) = some (nI (paN σ (σ 0) (σ 7) i)) := by
  have h8 := hW.1.1
  have h7 := hW.2.2.1
  have hN : 2 ^ σ 2 ≤ 256 := pw8 h8
  have hci := hc i hi
  have hcl : chA σ (σ 0) (σ 7) i < 2 ^ σ 2 := ch_lt _
  have hro := m_rentAt (s := chA σ (σ 0) (σ 7) i) hM hW hi (by omega)
  unfold f_X12_paidAt paN
  by_cases q : i = 0
  · subst q
    have hpo := m_priceOf (s := andn (chA σ (σ 0) (σ 7) 0) 0) hM h8 (by have := andn_lt (b := 0) hcl; omega)
    rw [if_pos rfl]
    simp (maxSteps := 3000000) (disch := omega) only [↓nx_q, zb0_s, zb1_s, zb2_s, zb3_s, zb4_s, zb5_s, zb6_s, zb7_s, zb8_s, zb9_s, zb10_s, zb11_s, zb12_s, zb13_s, zb14_s, q_lit, nI_add, pk_mul, e_cl, gi_in, gz_n0, gz_n1, e_gz, si_eq, si_ne, sa_eq, sa_ne, if_true, if_false, ↓reduceIte, k_ltT, k_ltF, k_leT, k_leF, k_eqT, k_eqF, k_m1lt, k_nm1, not_true_eq_false, not_false_eq_true, hci, q_andn', hpo, hro]
  · have hcp := hc (i - 1) (by omega)
    have hpo := m_priceOf (s := andn (chA σ (σ 0) (σ 7) i) (chA σ (σ 0) (σ 7) (i - 1))) hM h8 (by have := andn_lt (b := chA σ (σ 0) (σ 7) (i - 1)) hcl; omega)
    rw [if_neg q]
    simp (maxSteps := 3000000) (disch := omega) only [↓nx_q, zb0_s, zb1_s, zb2_s, zb3_s, zb4_s, zb5_s, zb6_s, zb7_s, zb8_s, zb9_s, zb10_s, zb11_s, zb12_s, zb13_s, zb14_s, q_lit, nI_add, pk_mul, e_cl, gi_in, gz_n0, gz_n1, e_gz, si_eq, si_ne, sa_eq, sa_ne, if_true, if_false, ↓reduceIte, k_ltT, k_ltF, k_leT, k_leF, k_eqT, k_eqF, k_m1lt, k_nm1, not_true_eq_false, not_false_eq_true, e_sub, hci, hcp, q_andn', hpo, hro]
theorem R_plan : St_plan Rel := by
  intro V PK PI M v1 v2 hR
  obtain ⟨σ, g, fc, fm, hR⟩ := hR
  have hR0 := hR
  obtain ⟨⟨hM0, hW, hRC⟩, hGC, hGM, hHi, hPl, hO⟩ := hR0
  have h7 := hW.2.2.1
  have l0 : V 6 0 0 = nI (σ 7) := hRC.2.2.2.1.1
  have hs : MR (M 0) σ := fun j _ => by rw [hM0]; rfl
  rcases q_rng v1 (n := σ 7) (by omega) with ⟨i, hi, rfl⟩ | ho
  · have c := c_lhasIn l0 (by omega) hi
    have m := m_isLoggedIn hs (by omega) hi
    rcases q_rng v2 (n := 2) (by decide) with ⟨w, hw, rfl⟩ | ho2
    · have e2 := m_in01 hw
      obtain ⟨p, M', ec, em, hM', hT, hc, hcm, hRel⟩ := trace_both hR (by omega)
      by_cases q : w = 0
      · subst q
        have p1 := c_paysAt hRC.2.1 hRC.2.2.2.1 hW hT hi hc
        have p2 := m_paidAt hM' hW hi hcm
        have p1' : f_X5_paysAt p (V 4) (V 6) (nI i) = some (nI (paN σ (σ 0) (σ 7) i)) := p1
        refine ⟨_, PK, PI, M', nI (paN σ (σ 0) (σ 7) i), ?_, ?_, hRel⟩
        · unfold g_plan f_X11_plan
          simp (maxSteps := 3000000) (disch := omega) only [↓nx_q, zb0_s, zb1_s, zb2_s, zb3_s, zb4_s, zb5_s, zb6_s, zb7_s, zb8_s, zb9_s, zb10_s, zb11_s, zb12_s, zb13_s, zb14_s, q_lit, nI_add, pk_mul, e_cl, gi_in, gz_n0, gz_n1, e_gz, si_eq, si_ne, sa_eq, sa_ne, if_true, if_false, ↓reduceIte, k_ltT, k_ltF, k_leT, k_leF, k_eqT, k_eqF, k_m1lt, k_nm1, not_true_eq_false, not_false_eq_true, c, ec, p1']
        · unfold h_plan f_X12_plan
          simp (maxSteps := 3000000) (disch := omega) only [↓nx_q, zb0_s, zb1_s, zb2_s, zb3_s, zb4_s, zb5_s, zb6_s, zb7_s, zb8_s, zb9_s, zb10_s, zb11_s, zb12_s, zb13_s, zb14_s, q_lit, nI_add, pk_mul, e_cl, gi_in, gz_n0, gz_n1, e_gz, si_eq, si_ne, sa_eq, sa_ne, if_true, if_false, ↓reduceIte, k_ltT, k_ltF, k_leT, k_leF, k_eqT, k_eqF, k_m1lt, k_nm1, not_true_eq_false, not_false_eq_true, m, e2, em, p2]
      · have : w = 1 := by omega
        subst this
        have p1 := hc i hi
        have p2 := hcm i hi
        refine ⟨_, PK, PI, M', nI (chA σ (σ 0) (σ 7) i), ?_, ?_, hRel⟩
        · unfold g_plan f_X11_plan
          simp (maxSteps := 3000000) (disch := omega) only [↓nx_q, zb0_s, zb1_s, zb2_s, zb3_s, zb4_s, zb5_s, zb6_s, zb7_s, zb8_s, zb9_s, zb10_s, zb11_s, zb12_s, zb13_s, zb14_s, q_lit, nI_add, pk_mul, e_cl, gi_in, gz_n0, gz_n1, e_gz, si_eq, si_ne, sa_eq, sa_ne, if_true, if_false, ↓reduceIte, k_ltT, k_ltF, k_leT, k_leF, k_eqT, k_eqF, k_m1lt, k_nm1, not_true_eq_false, not_false_eq_true, c, ec, p1]
        · unfold h_plan f_X12_plan
          simp (maxSteps := 3000000) (disch := omega) only [↓nx_q, zb0_s, zb1_s, zb2_s, zb3_s, zb4_s, zb5_s, zb6_s, zb7_s, zb8_s, zb9_s, zb10_s, zb11_s, zb12_s, zb13_s, zb14_s, q_lit, nI_add, pk_mul, e_cl, gi_in, gz_n0, gz_n1, e_gz, si_eq, si_ne, sa_eq, sa_ne, if_true, if_false, ↓reduceIte, k_ltT, k_ltF, k_leT, k_leF, k_eqT, k_eqF, k_m1lt, k_nm1, not_true_eq_false, not_false_eq_true, m, e2, em, p2]
    · have e2 := m_out01 ho2
      refine ⟨V, PK, PI, M, -1, ?_, ?_, σ, g, fc, fm, hR⟩
      · unfold g_plan f_X11_plan
        rcases ho2 with h | h
        · simp (maxSteps := 3000000) (disch := omega) only [↓nx_q, zb0_s, zb1_s, zb2_s, zb3_s, zb4_s, zb5_s, zb6_s, zb7_s, zb8_s, zb9_s, zb10_s, zb11_s, zb12_s, zb13_s, zb14_s, q_lit, nI_add, pk_mul, e_cl, gi_in, gz_n0, gz_n1, e_gz, si_eq, si_ne, sa_eq, sa_ne, if_true, if_false, ↓reduceIte, k_ltT, k_ltF, k_leT, k_leF, k_eqT, k_eqF, k_m1lt, k_nm1, not_true_eq_false, not_false_eq_true, c, o_neg h, vu_self]
        · have := o_big2 (b := 1) (by decide) h
          simp (maxSteps := 3000000) (disch := omega) only [↓nx_q, zb0_s, zb1_s, zb2_s, zb3_s, zb4_s, zb5_s, zb6_s, zb7_s, zb8_s, zb9_s, zb10_s, zb11_s, zb12_s, zb13_s, zb14_s, q_lit, nI_add, pk_mul, e_cl, gi_in, gz_n0, gz_n1, e_gz, si_eq, si_ne, sa_eq, sa_ne, if_true, if_false, ↓reduceIte, k_ltT, k_ltF, k_leT, k_leF, k_eqT, k_eqF, k_m1lt, k_nm1, not_true_eq_false, not_false_eq_true, c, this.2.2.1, this.2.2.2, vu_self]
      · unfold h_plan f_X12_plan
        simp (maxSteps := 3000000) (disch := omega) only [↓nx_q, zb0_s, zb1_s, zb2_s, zb3_s, zb4_s, zb5_s, zb6_s, zb7_s, zb8_s, zb9_s, zb10_s, zb11_s, zb12_s, zb13_s, zb14_s, q_lit, nI_add, pk_mul, e_cl, gi_in, gz_n0, gz_n1, e_gz, si_eq, si_ne, sa_eq, sa_ne, if_true, if_false, ↓reduceIte, k_ltT, k_ltF, k_leT, k_leF, k_eqT, k_eqF, k_m1lt, k_nm1, not_true_eq_false, not_false_eq_true, m, e2]
  · have c := c_lhasOut l0 ho
    have m := m_isLoggedOut hs (by omega) ho
    refine ⟨V, PK, PI, M, -1, ?_, ?_, σ, g, fc, fm, hR⟩
    · unfold g_plan f_X11_plan
      simp (maxSteps := 3000000) (disch := omega) only [↓nx_q, zb0_s, zb1_s, zb2_s, zb3_s, zb4_s, zb5_s, zb6_s, zb7_s, zb8_s, zb9_s, zb10_s, zb11_s, zb12_s, zb13_s, zb14_s, q_lit, nI_add, pk_mul, e_cl, gi_in, gz_n0, gz_n1, e_gz, si_eq, si_ne, sa_eq, sa_ne, if_true, if_false, ↓reduceIte, k_ltT, k_ltF, k_leT, k_leF, k_eqT, k_eqF, k_m1lt, k_nm1, not_true_eq_false, not_false_eq_true, c, vu_self]
    · unfold h_plan f_X12_plan
      simp (maxSteps := 3000000) (disch := omega) only [↓nx_q, zb0_s, zb1_s, zb2_s, zb3_s, zb4_s, zb5_s, zb6_s, zb7_s, zb8_s, zb9_s, zb10_s, zb11_s, zb12_s, zb13_s, zb14_s, q_lit, nI_add, pk_mul, e_cl, gi_in, gz_n0, gz_n1, e_gz, si_eq, si_ne, sa_eq, sa_ne, if_true, if_false, ↓reduceIte, k_ltT, k_ltF, k_leT, k_leF, k_eqT, k_eqF, k_m1lt, k_nm1, not_true_eq_false, not_false_eq_true, m]
/-! POTENTIAL -/
def crN (σ : Nat → Nat) (i k : Nat) : Nat := σ (224 + 8 * i + k) * σ (8 + k)
def csN (σ : Nat → Nat) (i : Nat) : Nat → Nat
  | 0 => 0
  | k + 1 => csN σ i k + crN σ i k
def lkI (σ : Nat → Nat) (i c : Nat) : Nat → Int32
  | 0 => nI 0
  | k + 1 => if c.testBit k = true then lkI σ i c k + (nI (60 * σ (16 + k)) - nI (crN σ i k)) else lkI σ i c k
def ptI (σ : Nat → Nat) (i c n : Nat) : Int32 := (nI (σ 0) - nI 1) * nI (csN σ i n) + nI (σ 0) * lkI σ i c n
theorem c_potential {p w s l : Ob} {σ : Nat → Nat} {i : Nat} (hw : RCw w σ) (hsh : s 0 0 = nI (σ 0)) (hl : RCl l σ) (hW : WF σ) (hi : i < σ 7) (hc : p 9 i = nI (chA σ (σ 0) (σ 7) i)) : f_X11_potentialBehind w s l p (nI i) = some (ptI σ i (chA σ (σ 0) (σ 7) i) (σ 2)) := by
  have h8 := hW.1.1
  have h7 := hW.2.2.1
  have hN : 2 ^ σ 2 ≤ 256 := pw8 h8
  have w0 := hw.1
  have hcl : chA σ (σ 0) (σ 7) i < 2 ^ σ 2 := ch_lt _
  generalize chA σ (σ 0) (σ 7) i = c at *
  unfold f_X11_potentialBehind
  refine (zb2_of (zl3_fo (fun k => nI (csN σ i k)) (fun k => lkI σ i c k) (fun k => nI k) (σ 2) (nI (csN σ i (σ 2)), lkI σ i c (σ 2)) (fu_lt (by omega)) rfl rfl rfl (fun k hk => ?_) ?_)).trans ?_
  · have wk := hw.2 k hk
    have hd : f_X4_densityBehind l (nI i) (nI k) = some (nI (σ (224 + 8 * i + k))) := by
      have h := (hl.2 i hi).2.2.2 k (by omega)
      unfold f_X4_densityBehind
      simp (maxSteps := 3000000) (disch := omega) only [↓nx_q, zb0_s, zb1_s, zb2_s, zb3_s, zb4_s, zb5_s, zb6_s, zb7_s, zb8_s, zb9_s, zb10_s, zb11_s, zb12_s, zb13_s, zb14_s, q_lit, nI_add, pk_mul, e_cl, gi_in, gz_n0, gz_n1, e_gz, si_eq, si_ne, sa_eq, sa_ne, if_true, if_false, ↓reduceIte, k_ltT, k_ltF, k_leT, k_leF, k_eqT, k_eqF, k_m1lt, k_nm1, not_true_eq_false, not_false_eq_true]
      rw [Nat.mul_comm i 8, h]
    show _ = some (Sum.inl (nI (csN σ i k + crN σ i k), (if c.testBit k = true then lkI σ i c k + (nI (60 * σ (16 + k)) - nI (crN σ i k)) else lkI σ i c k), nI (k + 1)))
    by_cases b : c.testBit k = true
    · rw [if_pos b]
      simp (maxSteps := 3000000) (disch := omega) only [↓nx_q, zb0_s, zb1_s, zb2_s, zb3_s, zb4_s, zb5_s, zb6_s, zb7_s, zb8_s, zb9_s, zb10_s, zb11_s, zb12_s, zb13_s, zb14_s, q_lit, nI_add, pk_mul, e_cl, gi_in, gz_n0, gz_n1, e_gz, si_eq, si_ne, sa_eq, sa_ne, if_true, if_false, ↓reduceIte, k_ltT, k_ltF, k_leT, k_leF, k_eqT, k_eqF, k_m1lt, k_nm1, not_true_eq_false, not_false_eq_true, w0, hd, wk.1, wk.2.1, hc, e_bit, if_pos b]
      rfl
    · rw [if_neg b]
      simp (maxSteps := 3000000) (disch := omega) only [↓nx_q, zb0_s, zb1_s, zb2_s, zb3_s, zb4_s, zb5_s, zb6_s, zb7_s, zb8_s, zb9_s, zb10_s, zb11_s, zb12_s, zb13_s, zb14_s, q_lit, nI_add, pk_mul, e_cl, gi_in, gz_n0, gz_n1, e_gz, si_eq, si_ne, sa_eq, sa_ne, if_true, if_false, ↓reduceIte, k_ltT, k_ltF, k_leT, k_leF, k_eqT, k_eqF, k_m1lt, k_nm1, not_true_eq_false, not_false_eq_true, w0, hd, wk.1, wk.2.1, hc, e_bit, if_neg b]
      rfl
  · simp (maxSteps := 3000000) (disch := omega) only [↓nx_q, zb0_s, zb1_s, zb2_s, zb3_s, zb4_s, zb5_s, zb6_s, zb7_s, zb8_s, zb9_s, zb10_s, zb11_s, zb12_s, zb13_s, zb14_s, q_lit, nI_add, pk_mul, e_cl, gi_in, gz_n0, gz_n1, e_gz, si_eq, si_ne, sa_eq, sa_ne, if_true, if_false, ↓reduceIte, k_ltT, k_ltF, k_leT, k_leF, k_eqT, k_eqF, k_m1lt, k_nm1, not_true_eq_false, not_false_eq_true, w0]
  · simp only [hsh]
    rfl
theorem i_zero (x : Int32) : x * nI 0 = nI 0 := Int32.mul_zero
theorem i_add0 (x : Int32) : x + nI 0 = x := Int32.add_zero x
theorem pt_step (a b A B c l : Int32) : a * A + b * B + a * c + b * l = a * (A + c) + b * (B + l) := by
  rw [Int32.mul_add, Int32.mul_add]
  ac_rfl
theorem pt_step1 (a b A B c : Int32) : a * A + b * B + a * c = a * (A + c) + b * B := by
  rw [Int32.mul_add]
  ac_rfl
theorem m_potential {M : Ob} {σ : Nat → Nat} {i : Nat} (hM : M 0 = rw σ) (hW : WF σ) (hi : i < σ 7) (hc : M 29 i = nI (chA σ (σ 0) (σ 7) i)) : f_X12_potentialAt M (nI i) = some (ptI σ i (chA σ (σ 0) (σ 7) i) (σ 2)) := by
  have h8 := hW.1.1
  have h7 := hW.2.2.1
  have hN : 2 ^ σ 2 ≤ 256 := pw8 h8
  have hcl : chA σ (σ 0) (σ 7) i < 2 ^ σ 2 := ch_lt _
  have hlg := hW.2.2.2.2.2.2 i hi
  generalize chA σ (σ 0) (σ 7) i = c at *
  unfold f_X12_potentialAt
  rw [if_pos (show (0 : Int32) ≤ nI i from nI_pos' (by omega))]
  refine (zb1_of (zl2_fo (fun k => ptI σ i c k) (fun k => nI k) (σ 2) (ptI σ i c (σ 2)) (fu_lt (by omega)) ?_ rfl (fun k hk => ?_) ?_)).trans rfl
  · show nI 0 = (nI (σ 0) - nI 1) * nI 0 + nI (σ 0) * nI 0
    rw [i_zero, i_zero]
    rfl
  · have hbh : σ (184 + i) < 256 := Nat.lt_of_lt_of_le hlg.2.2.1 hN
    have hcr : crN σ i k = σ (224 + 8 * i + k) * σ (8 + k) := rfl
    have hnx : ptI σ i c (k + 1) = (nI (σ 0) - nI 1) * nI (csN σ i k + crN σ i k) + nI (σ 0) * (if c.testBit k = true then lkI σ i c k + (nI (60 * σ (16 + k)) - nI (crN σ i k)) else lkI σ i c k) := rfl
    have hpk : ptI σ i c k = (nI (σ 0) - nI 1) * nI (csN σ i k) + nI (σ 0) * lkI σ i c k := rfl
    by_cases bb : (σ (184 + i)).testBit k = true
    · by_cases b : c.testBit k = true
      · rw [if_pos b] at hnx
        have e : ptI σ i c k + (nI (σ 0) - nI 1) * nI (crN σ i k) + nI (σ 0) * (nI (60 * σ (16 + k)) - nI (crN σ i k)) = ptI σ i c (k + 1) := by
          rw [hnx, hpk, ← nI_add]
          exact pt_step _ _ _ _ _ _
        rw [hcr] at e
        simp (maxSteps := 3000000) (disch := omega) only [↓nx_q, zb0_s, zb1_s, zb2_s, zb3_s, zb4_s, zb5_s, zb6_s, zb7_s, zb8_s, zb9_s, zb10_s, zb11_s, zb12_s, zb13_s, zb14_s, q_lit, nI_add, pk_mul, e_cl, gi_in, gz_n0, gz_n1, e_gz, si_eq, si_ne, sa_eq, sa_ne, if_true, if_false, ↓reduceIte, k_ltT, k_ltF, k_leT, k_leF, k_eqT, k_eqF, k_m1lt, k_nm1, not_true_eq_false, not_false_eq_true, hM, rw_ap, upd_rw, sa_sa, jn_l, jn_r, jn_4, jn_5, jn_6, jn_ul, jn_ur, jn_u4, jn_u5, jn_u6, m_bitOf, if_pos bb, hc, if_pos b, e]
      · rw [if_neg b] at hnx
        have e : ptI σ i c k + (nI (σ 0) - nI 1) * nI (crN σ i k) = ptI σ i c (k + 1) := by
          rw [hnx, hpk, ← nI_add]
          exact pt_step1 _ _ _ _ _
        rw [hcr] at e
        simp (maxSteps := 3000000) (disch := omega) only [↓nx_q, zb0_s, zb1_s, zb2_s, zb3_s, zb4_s, zb5_s, zb6_s, zb7_s, zb8_s, zb9_s, zb10_s, zb11_s, zb12_s, zb13_s, zb14_s, q_lit, nI_add, pk_mul, e_cl, gi_in, gz_n0, gz_n1, e_gz, si_eq, si_ne, sa_eq, sa_ne, if_true, if_false, ↓reduceIte, k_ltT, k_ltF, k_leT, k_leF, k_eqT, k_eqF, k_m1lt, k_nm1, not_true_eq_false, not_false_eq_true, hM, rw_ap, upd_rw, sa_sa, jn_l, jn_r, jn_4, jn_5, jn_6, jn_ul, jn_ur, jn_u4, jn_u5, jn_u6, m_bitOf, if_pos bb, hc, if_neg b, e, i_add0]
    · have hz : σ (224 + 8 * i + k) = 0 := (hlg.2.2.2 k (by omega)).2 (by simpa using bb)
      have hc0 : crN σ i k = 0 := by rw [hcr, hz, Nat.zero_mul]
      by_cases b : c.testBit k = true
      · rw [if_pos b] at hnx
        have e : ptI σ i c k + nI (σ 0) * (nI (60 * σ (16 + k)) - nI 0) = ptI σ i c (k + 1) := by
          rw [hnx, hpk, hc0, Nat.add_zero]
          rw [Int32.mul_add]
          ac_rfl
        simp (maxSteps := 3000000) (disch := omega) only [↓nx_q, zb0_s, zb1_s, zb2_s, zb3_s, zb4_s, zb5_s, zb6_s, zb7_s, zb8_s, zb9_s, zb10_s, zb11_s, zb12_s, zb13_s, zb14_s, q_lit, nI_add, pk_mul, e_cl, gi_in, gz_n0, gz_n1, e_gz, si_eq, si_ne, sa_eq, sa_ne, if_true, if_false, ↓reduceIte, k_ltT, k_ltF, k_leT, k_leF, k_eqT, k_eqF, k_m1lt, k_nm1, not_true_eq_false, not_false_eq_true, hM, rw_ap, upd_rw, sa_sa, jn_l, jn_r, jn_4, jn_5, jn_6, jn_ul, jn_ur, jn_u4, jn_u5, jn_u6, m_bitOf, if_neg bb, hc, if_pos b, i_add0, e]
      · rw [if_neg b] at hnx
        have e : ptI σ i c k = ptI σ i c (k + 1) := by
          rw [hnx, hpk, hc0, Nat.add_zero]
        simp (maxSteps := 3000000) (disch := omega) only [↓nx_q, zb0_s, zb1_s, zb2_s, zb3_s, zb4_s, zb5_s, zb6_s, zb7_s, zb8_s, zb9_s, zb10_s, zb11_s, zb12_s, zb13_s, zb14_s, q_lit, nI_add, pk_mul, e_cl, gi_in, gz_n0, gz_n1, e_gz, si_eq, si_ne, sa_eq, sa_ne, if_true, if_false, ↓reduceIte, k_ltT, k_ltF, k_leT, k_leF, k_eqT, k_eqF, k_m1lt, k_nm1, not_true_eq_false, not_false_eq_true, hM, rw_ap, upd_rw, sa_sa, jn_l, jn_r, jn_4, jn_5, jn_6, jn_ul, jn_ur, jn_u4, jn_u5, jn_u6, m_bitOf, if_neg bb, hc, if_neg b, i_add0]
        rw [e]
  · simp (maxSteps := 3000000) (disch := omega) only [↓nx_q, zb0_s, zb1_s, zb2_s, zb3_s, zb4_s, zb5_s, zb6_s, zb7_s, zb8_s, zb9_s, zb10_s, zb11_s, zb12_s, zb13_s, zb14_s, q_lit, nI_add, pk_mul, e_cl, gi_in, gz_n0, gz_n1, e_gz, si_eq, si_ne, sa_eq, sa_ne, if_true, if_false, ↓reduceIte, k_ltT, k_ltF, k_leT, k_leF, k_eqT, k_eqF, k_m1lt, k_nm1, not_true_eq_false, not_false_eq_true, hM, rw_ap, upd_rw, sa_sa, jn_l, jn_r, jn_4, jn_5, jn_6, jn_ul, jn_ur, jn_u4, jn_u5, jn_u6]
theorem R_potential : St_potential Rel := by
  intro V PK PI M v1 hR
  obtain ⟨σ, g, fc, fm, hR⟩ := hR
  have hR0 := hR
  obtain ⟨⟨hM0, hW, hRC⟩, hGC, hGM, hHi, hPl, hO⟩ := hR0
  have h7 := hW.2.2.1
  have l0 : V 6 0 0 = nI (σ 7) := hRC.2.2.2.1.1
  have hs : MR (M 0) σ := fun j _ => by rw [hM0]; rfl
  rcases q_rng v1 (n := σ 7) (by omega) with ⟨i, hi, rfl⟩ | ho
  · have c := c_lhasIn l0 (by omega) hi
    have m := m_isLoggedIn hs (by omega) hi
    obtain ⟨p, M', ec, em, hM', hT, hc, hcm, hRel⟩ := trace_both hR (by omega)
    have p1 : f_X11_potentialBehind (V 4) (V 5) (V 6) p (nI i) = some (ptI σ i (chA σ (σ 0) (σ 7) i) (σ 2)) := c_potential hRC.2.1 hRC.2.2.1.1 hRC.2.2.2.1 hW hi (hc i hi)
    have p2 := m_potential hM' hW hi (hcm i hi)
    refine ⟨_, PK, PI, M', ptI σ i (chA σ (σ 0) (σ 7) i) (σ 2), ?_, ?_, hRel⟩
    · unfold g_potential f_X11_potential
      simp (maxSteps := 3000000) (disch := omega) only [↓nx_q, zb0_s, zb1_s, zb2_s, zb3_s, zb4_s, zb5_s, zb6_s, zb7_s, zb8_s, zb9_s, zb10_s, zb11_s, zb12_s, zb13_s, zb14_s, q_lit, nI_add, pk_mul, e_cl, gi_in, gz_n0, gz_n1, e_gz, si_eq, si_ne, sa_eq, sa_ne, if_true, if_false, ↓reduceIte, k_ltT, k_ltF, k_leT, k_leF, k_eqT, k_eqF, k_m1lt, k_nm1, not_true_eq_false, not_false_eq_true, c, ec, p1]
    · unfold h_potential f_X12_potential
      simp (maxSteps := 3000000) (disch := omega) only [↓nx_q, zb0_s, zb1_s, zb2_s, zb3_s, zb4_s, zb5_s, zb6_s, zb7_s, zb8_s, zb9_s, zb10_s, zb11_s, zb12_s, zb13_s, zb14_s, q_lit, nI_add, pk_mul, e_cl, gi_in, gz_n0, gz_n1, e_gz, si_eq, si_ne, sa_eq, sa_ne, if_true, if_false, ↓reduceIte, k_ltT, k_ltF, k_leT, k_leF, k_eqT, k_eqF, k_m1lt, k_nm1, not_true_eq_false, not_false_eq_true, m, em, p2]
  · have c := c_lhasOut l0 ho
    have m := m_isLoggedOut hs (by omega) ho
    refine ⟨V, PK, PI, M, -1, ?_, ?_, σ, g, fc, fm, hR⟩
    · unfold g_potential f_X11_potential
      simp (maxSteps := 3000000) (disch := omega) only [↓nx_q, zb0_s, zb1_s, zb2_s, zb3_s, zb4_s, zb5_s, zb6_s, zb7_s, zb8_s, zb9_s, zb10_s, zb11_s, zb12_s, zb13_s, zb14_s, q_lit, nI_add, pk_mul, e_cl, gi_in, gz_n0, gz_n1, e_gz, si_eq, si_ne, sa_eq, sa_ne, if_true, if_false, ↓reduceIte, k_ltT, k_ltF, k_leT, k_leF, k_eqT, k_eqF, k_m1lt, k_nm1, not_true_eq_false, not_false_eq_true, c, vu_self]
    · unfold h_potential f_X12_potential
      simp (maxSteps := 3000000) (disch := omega) only [↓nx_q, zb0_s, zb1_s, zb2_s, zb3_s, zb4_s, zb5_s, zb6_s, zb7_s, zb8_s, zb9_s, zb10_s, zb11_s, zb12_s, zb13_s, zb14_s, q_lit, nI_add, pk_mul, e_cl, gi_in, gz_n0, gz_n1, e_gz, si_eq, si_ne, sa_eq, sa_ne, if_true, if_false, ↓reduceIte, k_ltT, k_ltF, k_leT, k_leF, k_eqT, k_eqF, k_m1lt, k_nm1, not_true_eq_false, not_false_eq_true, m]
theorem R_proof : St_proof Rel := by
  intro V PK PI M v1 hR
  obtain ⟨σ, g, fc, fm, hR⟩ := hR
  have hR0 := hR
  obtain ⟨⟨hM0, hW, hRC⟩, hGC, hGM, hHi, hPl, hO⟩ := hR0
  have h7 := hW.2.2.1
  have l0 : V 6 0 0 = nI (σ 7) := hRC.2.2.2.1.1
  have s0 : V 5 0 0 = nI (σ 0) := hRC.2.2.1.1
  have hs : MR (M 0) σ := fun j _ => by rw [hM0]; rfl
  rcases q_rng v1 (n := σ 7) (by omega) with ⟨i, hi, rfl⟩ | ho
  · have c := c_lhasIn l0 (by omega) hi
    have m := m_isLoggedIn hs (by omega) hi
    obtain ⟨p, M', ec, em, hM', hT, hc, hcm, hRel⟩ := trace_both hR (by omega)
    have l2 : V 6 2 i = nI (σ (144 + i)) := (hRC.2.2.2.1.2 i hi).2.1
    have p1 : f_X11_potentialBehind (V 4) (V 5) (V 6) p (nI i) = some (ptI σ i (chA σ (σ 0) (σ 7) i) (σ 2)) := c_potential hRC.2.1 hRC.2.2.1.1 hRC.2.2.2.1 hW hi (hc i hi)
    have p2 := m_potential hM' hW hi (hcm i hi)
    have a1 : f_X5_paysAt p (V 4) (V 6) (nI i) = some (nI (paN σ (σ 0) (σ 7) i)) := c_paysAt hRC.2.1 hRC.2.2.2.1 hW hT hi hc
    have a2 := m_paidAt hM' hW hi hcm
    by_cases q : i = 0
    · subst q
      have pz : f_X12_potentialAt M' (nI 0 - nI 1) = some (nI 0) := by
        unfold f_X12_potentialAt
        rw [if_neg (by decide)]
        rfl
      refine ⟨_, PK, PI, M', (nI (60 * σ 0 * paN σ (σ 0) (σ 7) 0) - nI (60 * σ (144 + 0))) - (ptI σ 0 (chA σ (σ 0) (σ 7) 0) (σ 2) - nI 0), ?_, ?_, hRel⟩
      · unfold g_proof f_X11_proof
        simp (maxSteps := 3000000) (disch := omega) only [↓nx_q, zb0_s, zb1_s, zb2_s, zb3_s, zb4_s, zb5_s, zb6_s, zb7_s, zb8_s, zb9_s, zb10_s, zb11_s, zb12_s, zb13_s, zb14_s, q_lit, nI_add, pk_mul, e_cl, gi_in, gz_n0, gz_n1, e_gz, si_eq, si_ne, sa_eq, sa_ne, if_true, if_false, ↓reduceIte, k_ltT, k_ltF, k_leT, k_leF, k_eqT, k_eqF, k_m1lt, k_nm1, not_true_eq_false, not_false_eq_true, c, ec, p1, a1, s0, l2]
      · unfold h_proof f_X12_proof
        simp (maxSteps := 3000000) (disch := omega) only [↓nx_q, zb0_s, zb1_s, zb2_s, zb3_s, zb4_s, zb5_s, zb6_s, zb7_s, zb8_s, zb9_s, zb10_s, zb11_s, zb12_s, zb13_s, zb14_s, q_lit, nI_add, pk_mul, e_cl, gi_in, gz_n0, gz_n1, e_gz, si_eq, si_ne, sa_eq, sa_ne, if_true, if_false, ↓reduceIte, k_ltT, k_ltF, k_leT, k_leF, k_eqT, k_eqF, k_m1lt, k_nm1, not_true_eq_false, not_false_eq_true, m, em, hM', rw_ap, upd_rw, sa_sa, jn_l, jn_r, jn_4, jn_5, jn_6, jn_ul, jn_ur, jn_u4, jn_u5, jn_u6, a2, p2, pz]
    · have hci : i - 1 < σ 7 := by omega
      have p3 : f_X11_potentialBehind (V 4) (V 5) (V 6) p (nI (i - 1)) = some (ptI σ (i - 1) (chA σ (σ 0) (σ 7) (i - 1)) (σ 2)) := c_potential hRC.2.1 hRC.2.2.1.1 hRC.2.2.2.1 hW hci (hc _ hci)
      have p4 := m_potential hM' hW hci (hcm _ hci)
      refine ⟨_, PK, PI, M', (nI (60 * σ 0 * paN σ (σ 0) (σ 7) i) - nI (60 * σ (144 + i))) - (ptI σ i (chA σ (σ 0) (σ 7) i) (σ 2) - ptI σ (i - 1) (chA σ (σ 0) (σ 7) (i - 1)) (σ 2)), ?_, ?_, hRel⟩
      · unfold g_proof f_X11_proof
        simp (maxSteps := 3000000) (disch := omega) only [↓nx_q, zb0_s, zb1_s, zb2_s, zb3_s, zb4_s, zb5_s, zb6_s, zb7_s, zb8_s, zb9_s, zb10_s, zb11_s, zb12_s, zb13_s, zb14_s, q_lit, nI_add, pk_mul, e_cl, gi_in, gz_n0, gz_n1, e_gz, si_eq, si_ne, sa_eq, sa_ne, if_true, if_false, ↓reduceIte, k_ltT, k_ltF, k_leT, k_leF, k_eqT, k_eqF, k_m1lt, k_nm1, not_true_eq_false, not_false_eq_true, c, ec, p1, e_sub, p3, a1, s0, l2]
      · unfold h_proof f_X12_proof
        simp (maxSteps := 3000000) (disch := omega) only [↓nx_q, zb0_s, zb1_s, zb2_s, zb3_s, zb4_s, zb5_s, zb6_s, zb7_s, zb8_s, zb9_s, zb10_s, zb11_s, zb12_s, zb13_s, zb14_s, q_lit, nI_add, pk_mul, e_cl, gi_in, gz_n0, gz_n1, e_gz, si_eq, si_ne, sa_eq, sa_ne, if_true, if_false, ↓reduceIte, k_ltT, k_ltF, k_leT, k_leF, k_eqT, k_eqF, k_m1lt, k_nm1, not_true_eq_false, not_false_eq_true, m, em, hM', rw_ap, upd_rw, sa_sa, jn_l, jn_r, jn_4, jn_5, jn_6, jn_ul, jn_ur, jn_u4, jn_u5, jn_u6, a2, p2, e_sub, p4]
  · have c := c_lhasOut l0 ho
    have m := m_isLoggedOut hs (by omega) ho
    refine ⟨V, PK, PI, M, -1000000000, ?_, ?_, σ, g, fc, fm, hR⟩
    · unfold g_proof f_X11_proof
      simp (maxSteps := 3000000) (disch := omega) only [↓nx_q, zb0_s, zb1_s, zb2_s, zb3_s, zb4_s, zb5_s, zb6_s, zb7_s, zb8_s, zb9_s, zb10_s, zb11_s, zb12_s, zb13_s, zb14_s, q_lit, nI_add, pk_mul, e_cl, gi_in, gz_n0, gz_n1, e_gz, si_eq, si_ne, sa_eq, sa_ne, if_true, if_false, ↓reduceIte, k_ltT, k_ltF, k_leT, k_leF, k_eqT, k_eqF, k_m1lt, k_nm1, not_true_eq_false, not_false_eq_true, c, vu_self]
    · unfold h_proof f_X12_proof
      simp (maxSteps := 3000000) (disch := omega) only [↓nx_q, zb0_s, zb1_s, zb2_s, zb3_s, zb4_s, zb5_s, zb6_s, zb7_s, zb8_s, zb9_s, zb10_s, zb11_s, zb12_s, zb13_s, zb14_s, q_lit, nI_add, pk_mul, e_cl, gi_in, gz_n0, gz_n1, e_gz, si_eq, si_ne, sa_eq, sa_ne, if_true, if_false, ↓reduceIte, k_ltT, k_ltF, k_leT, k_leF, k_eqT, k_eqF, k_m1lt, k_nm1, not_true_eq_false, not_false_eq_true, m]
