/-! ===== ratio ===== -/
def sumTo (f : Nat → Nat) : Nat → Nat
  | 0 => 0
  | n + 1 => sumTo f n + f n
theorem sumTo_le {f : Nat → Nat} {m : Nat} : ∀ {n : Nat}, (∀ j, j < n → f j ≤ m) → sumTo f n ≤ m * n
  | 0, _ => Nat.zero_le _
  | n + 1, h => by
    show sumTo f n + f n ≤ m * (n + 1)
    have := sumTo_le (f := f) (m := m) (n := n) (fun j hj => h j (by omega))
    have := h n (by omega)
    rw [Nat.mul_add, Nat.mul_one]
    omega
theorem R_ratio : St_ratio Rel := by
  intro V PK PI M hR
  obtain ⟨σ, g, fc, fm, hR⟩ := hR
  have hR0 := hR
  obtain ⟨⟨hM0, hW, hRC⟩, hGC, hGM, hHi, hPl, hO⟩ := hR0
  have h7 := hW.2.2.1
  have hl : RCl (V 6) σ := hRC.2.2.2.1
  have l0 : V 6 0 0 = nI (σ 7) := hRC.2.2.2.1.1
  by_cases q : σ 7 = 0
  · refine ⟨V, PK, PI, M, -1, ?_, ?_, σ, g, fc, fm, hR⟩
    · unfold g_ratio f_X11_ratio f_X11_best
      simp (maxSteps := 3000000) (disch := omega) only [↓nx_q, zb0_s, zb1_s, zb2_s, zb3_s, zb4_s, zb5_s, zb6_s, zb7_s, zb8_s, zb9_s, zb10_s, zb11_s, zb12_s, zb13_s, zb14_s, q_lit, nI_add, pk_mul, e_cl, gi_in, gz_n0, gz_n1, e_gz, si_eq, si_ne, sa_eq, sa_ne, if_true, if_false, ↓reduceIte, k_ltT, k_ltF, k_leT, k_leF, k_eqT, k_eqF, k_m1lt, k_nm1, not_true_eq_false, not_false_eq_true, l0, q]
      rw [if_neg (by decide)]
      simp only [zb0_s, zb1_s, zb2_s, zb3_s, zb4_s, zb5_s, zb6_s, zb7_s, zb8_s, zb9_s, zb10_s, zb11_s, zb12_s, zb13_s, zb14_s, vu_self]
    · unfold h_ratio f_X12_ratio f_X12_best
      simp (maxSteps := 3000000) (disch := omega) only [↓nx_q, zb0_s, zb1_s, zb2_s, zb3_s, zb4_s, zb5_s, zb6_s, zb7_s, zb8_s, zb9_s, zb10_s, zb11_s, zb12_s, zb13_s, zb14_s, q_lit, nI_add, pk_mul, e_cl, gi_in, gz_n0, gz_n1, e_gz, si_eq, si_ne, sa_eq, sa_ne, if_true, if_false, ↓reduceIte, k_ltT, k_ltF, k_leT, k_leF, k_eqT, k_eqF, k_m1lt, k_nm1, not_true_eq_false, not_false_eq_true, hM0, rw_ap, upd_rw, sa_sa, jn_l, jn_r, jn_4, jn_5, jn_6, jn_ul, jn_ur, jn_u4, jn_u5, jn_u6, q]
      rw [if_neg (by decide)]
      rfl
  · obtain ⟨p, M', v, hv, e1, e2, hM', hRel⟩ := least_both hR (Nat.le_refl _) (by omega)
    by_cases qv : v = 0
    · subst qv
      refine ⟨_, PK, PI, M', -1, ?_, ?_, hRel⟩
      · unfold g_ratio f_X11_ratio f_X11_best
        simp (maxSteps := 3000000) (disch := omega) only [↓nx_q, zb0_s, zb1_s, zb2_s, zb3_s, zb4_s, zb5_s, zb6_s, zb7_s, zb8_s, zb9_s, zb10_s, zb11_s, zb12_s, zb13_s, zb14_s, q_lit, nI_add, pk_mul, e_cl, gi_in, gz_n0, gz_n1, e_gz, si_eq, si_ne, sa_eq, sa_ne, if_true, if_false, ↓reduceIte, k_ltT, k_ltF, k_leT, k_leF, k_eqT, k_eqF, k_m1lt, k_nm1, not_true_eq_false, not_false_eq_true, l0, e1]
      · unfold h_ratio f_X12_ratio f_X12_best
        simp (maxSteps := 3000000) (disch := omega) only [↓nx_q, zb0_s, zb1_s, zb2_s, zb3_s, zb4_s, zb5_s, zb6_s, zb7_s, zb8_s, zb9_s, zb10_s, zb11_s, zb12_s, zb13_s, zb14_s, q_lit, nI_add, pk_mul, e_cl, gi_in, gz_n0, gz_n1, e_gz, si_eq, si_ne, sa_eq, sa_ne, if_true, if_false, ↓reduceIte, k_ltT, k_ltF, k_leT, k_leF, k_eqT, k_eqF, k_m1lt, k_nm1, not_true_eq_false, not_false_eq_true, hM0, rw_ap, upd_rw, sa_sa, jn_l, jn_r, jn_4, jn_5, jn_6, jn_ul, jn_ur, jn_u4, jn_u5, jn_u6, e2]
    · have hb : ∀ i, i ≤ σ 7 → sumTo (fun i => σ (144 + i)) i ≤ 80 * i := fun i hi => sumTo_le (fun j hj => (hW.2.2.2.2.2.2 j (by omega)).2.1)
      have hs := hb (σ 7) (Nat.le_refl _)
      have ec : ∀ B : Int32 → Int32 → Option ((Int32 × Int32) ⊕ Int32), (∀ k28 k29, B k28 k29 = (
        if V 6 0 0 ≤ k29 then (
        some (.inr k28)
        ) else (
        gi k29 40 <|
        nx (k28 + (V 6 2 (Int32.toNatClampNeg k29))) fun x37 =>
        nx (k29 + (1 : Int32)) fun x38 =>
        some (.inl (x37, x38))
        ))) → zl2 B FU (nI 0) (nI 0) = some (nI (sumTo (fun i => σ (144 + i)) (σ 7))) := by
        intro B hB
        refine zl2_fo (fun i => nI (sumTo (fun i => σ (144 + i)) i)) (fun i => nI i) (σ 7) _ (fu_lt (by omega)) rfl rfl (fun i hi => ?_) ?_
        · have h := (hl.2 i hi).2.1
          have hbi := hb i (by omega)
          have hw := (hW.2.2.2.2.2.2 i hi).2.1
          rw [hB]
          simp (maxSteps := 3000000) (disch := omega) only [↓nx_q, zb0_s, zb1_s, zb2_s, zb3_s, zb4_s, zb5_s, zb6_s, zb7_s, zb8_s, zb9_s, zb10_s, zb11_s, zb12_s, zb13_s, zb14_s, q_lit, nI_add, pk_mul, e_cl, gi_in, gz_n0, gz_n1, e_gz, si_eq, si_ne, sa_eq, sa_ne, if_true, if_false, ↓reduceIte, k_ltT, k_ltF, k_leT, k_leF, k_eqT, k_eqF, k_m1lt, k_nm1, not_true_eq_false, not_false_eq_true, l0, h]
          rfl
        · rw [hB]
          simp (maxSteps := 3000000) (disch := omega) only [↓nx_q, zb0_s, zb1_s, zb2_s, zb3_s, zb4_s, zb5_s, zb6_s, zb7_s, zb8_s, zb9_s, zb10_s, zb11_s, zb12_s, zb13_s, zb14_s, q_lit, nI_add, pk_mul, e_cl, gi_in, gz_n0, gz_n1, e_gz, si_eq, si_ne, sa_eq, sa_ne, if_true, if_false, ↓reduceIte, k_ltT, k_ltF, k_leT, k_leF, k_eqT, k_eqF, k_m1lt, k_nm1, not_true_eq_false, not_false_eq_true, l0]
      have em : ∀ B : Int32 → Int32 → Option ((Int32 × Int32) ⊕ Int32), (∀ k12 k13, B k12 k13 = (
        gi (7 : Int32) 835 <|
        if M' 0 (Int32.toNatClampNeg (7 : Int32)) ≤ k13 then (
        some (.inr k12)
        ) else (
        gi ((144 : Int32) + k13) 835 <|
        nx (k12 + (M' 0 (Int32.toNatClampNeg ((144 : Int32) + k13)))) fun x22 =>
        nx (k13 + (1 : Int32)) fun x23 =>
        some (.inl (x22, x23))
        ))) → zl2 B FU (nI 0) (nI 0) = some (nI (sumTo (fun i => σ (144 + i)) (σ 7))) := by
        intro B hB
        refine zl2_fo (fun i => nI (sumTo (fun i => σ (144 + i)) i)) (fun i => nI i) (σ 7) _ (fu_lt (by omega)) rfl rfl (fun i hi => ?_) ?_
        · have hbi := hb i (by omega)
          have hw := (hW.2.2.2.2.2.2 i hi).2.1
          rw [hB]
          simp (maxSteps := 3000000) (disch := omega) only [↓nx_q, zb0_s, zb1_s, zb2_s, zb3_s, zb4_s, zb5_s, zb6_s, zb7_s, zb8_s, zb9_s, zb10_s, zb11_s, zb12_s, zb13_s, zb14_s, q_lit, nI_add, pk_mul, e_cl, gi_in, gz_n0, gz_n1, e_gz, si_eq, si_ne, sa_eq, sa_ne, if_true, if_false, ↓reduceIte, k_ltT, k_ltF, k_leT, k_leF, k_eqT, k_eqF, k_m1lt, k_nm1, not_true_eq_false, not_false_eq_true, hM', rw_ap, upd_rw, sa_sa, jn_l, jn_r, jn_4, jn_5, jn_6, jn_ul, jn_ur, jn_u4, jn_u5, jn_u6]
          rfl
        · rw [hB]
          simp (maxSteps := 3000000) (disch := omega) only [↓nx_q, zb0_s, zb1_s, zb2_s, zb3_s, zb4_s, zb5_s, zb6_s, zb7_s, zb8_s, zb9_s, zb10_s, zb11_s, zb12_s, zb13_s, zb14_s, q_lit, nI_add, pk_mul, e_cl, gi_in, gz_n0, gz_n1, e_gz, si_eq, si_ne, sa_eq, sa_ne, if_true, if_false, ↓reduceIte, k_ltT, k_ltF, k_leT, k_leF, k_eqT, k_eqF, k_m1lt, k_nm1, not_true_eq_false, not_false_eq_true, hM', rw_ap, upd_rw, sa_sa, jn_l, jn_r, jn_4, jn_5, jn_6, jn_ul, jn_ur, jn_u4, jn_u5, jn_u6]
      have hH := fdiv_HT (a := sumTo (fun i => σ (144 + i)) (σ 7)) (b := v) (by omega) ⟨by omega, by omega⟩
      have hlt := HT_lt (by decide) hH
      have eg : ∀ {β : Type} {x : Option β}, gq (FP.fdiv (FP.i2f (nI (sumTo (fun i => σ (144 + i)) (σ 7)))) (FP.i2f (nI v))) x = x := fun {_ _} => gq_of (by omega)
      have ef := c_floatBits hH
      rw [u_nI] at ef
      have ei := f2i_n (u := FP.fdiv (FP.i2f (nI (sumTo (fun i => σ (144 + i)) (σ 7)))) (FP.i2f (nI v))) (by omega)
      rw [u_i] at ei
      refine ⟨_, PK, PI, M', nI (FP.fdiv (FP.i2f (nI (sumTo (fun i => σ (144 + i)) (σ 7)))) (FP.i2f (nI v))).toNat, ?_, ?_, hRel⟩
      · unfold g_ratio f_X11_ratio f_X11_best
        simp (maxSteps := 3000000) (disch := omega) only [↓nx_q, zb0_s, zb1_s, zb2_s, zb3_s, zb4_s, zb5_s, zb6_s, zb7_s, zb8_s, zb9_s, zb10_s, zb11_s, zb12_s, zb13_s, zb14_s, q_lit, nI_add, pk_mul, e_cl, gi_in, gz_n0, gz_n1, e_gz, si_eq, si_ne, sa_eq, sa_ne, if_true, if_false, ↓reduceIte, k_ltT, k_ltF, k_leT, k_leF, k_eqT, k_eqF, k_m1lt, k_nm1, not_true_eq_false, not_false_eq_true, l0, e1]
        rw [zb1_of (ec _ (fun a b => by simp (maxSteps := 3000000) (disch := omega) only [↓nx_q, zb0_s, zb1_s, zb2_s, zb3_s, zb4_s, zb5_s, zb6_s, zb7_s, zb8_s, zb9_s, zb10_s, zb11_s, zb12_s, zb13_s, zb14_s, q_lit, nI_add, pk_mul, e_cl, gi_in, gz_n0, gz_n1, e_gz, si_eq, si_ne, sa_eq, sa_ne, if_true, if_false, ↓reduceIte, k_ltT, k_ltF, k_leT, k_leF, k_eqT, k_eqF, k_m1lt, k_nm1, not_true_eq_false, not_false_eq_true, l0]))]
        simp (maxSteps := 3000000) (disch := omega) only [↓nx_q, zb0_s, zb1_s, zb2_s, zb3_s, zb4_s, zb5_s, zb6_s, zb7_s, zb8_s, zb9_s, zb10_s, zb11_s, zb12_s, zb13_s, zb14_s, q_lit, nI_add, pk_mul, e_cl, gi_in, gz_n0, gz_n1, e_gz, si_eq, si_ne, sa_eq, sa_ne, if_true, if_false, ↓reduceIte, k_ltT, k_ltF, k_leT, k_leF, k_eqT, k_eqF, k_m1lt, k_nm1, not_true_eq_false, not_false_eq_true, eg, ef]
      · unfold h_ratio f_X12_ratio f_X12_best
        simp (maxSteps := 3000000) (disch := omega) only [↓nx_q, zb0_s, zb1_s, zb2_s, zb3_s, zb4_s, zb5_s, zb6_s, zb7_s, zb8_s, zb9_s, zb10_s, zb11_s, zb12_s, zb13_s, zb14_s, q_lit, nI_add, pk_mul, e_cl, gi_in, gz_n0, gz_n1, e_gz, si_eq, si_ne, sa_eq, sa_ne, if_true, if_false, ↓reduceIte, k_ltT, k_ltF, k_leT, k_leF, k_eqT, k_eqF, k_m1lt, k_nm1, not_true_eq_false, not_false_eq_true, hM0, rw_ap, upd_rw, sa_sa, jn_l, jn_r, jn_4, jn_5, jn_6, jn_ul, jn_ur, jn_u4, jn_u5, jn_u6, e2, hM']
        rw [zb1_of (em _ (fun a b => by simp (maxSteps := 3000000) (disch := omega) only [↓nx_q, zb0_s, zb1_s, zb2_s, zb3_s, zb4_s, zb5_s, zb6_s, zb7_s, zb8_s, zb9_s, zb10_s, zb11_s, zb12_s, zb13_s, zb14_s, q_lit, nI_add, pk_mul, e_cl, gi_in, gz_n0, gz_n1, e_gz, si_eq, si_ne, sa_eq, sa_ne, if_true, if_false, ↓reduceIte, k_ltT, k_ltF, k_leT, k_leF, k_eqT, k_eqF, k_m1lt, k_nm1, not_true_eq_false, not_false_eq_true, hM', rw_ap, upd_rw, sa_sa, jn_l, jn_r, jn_4, jn_5, jn_6, jn_ul, jn_ur, jn_u4, jn_u5, jn_u6]))]
        simp (maxSteps := 3000000) (disch := omega) only [↓nx_q, zb0_s, zb1_s, zb2_s, zb3_s, zb4_s, zb5_s, zb6_s, zb7_s, zb8_s, zb9_s, zb10_s, zb11_s, zb12_s, zb13_s, zb14_s, q_lit, nI_add, pk_mul, e_cl, gi_in, gz_n0, gz_n1, e_gz, si_eq, si_ne, sa_eq, sa_ne, if_true, if_false, ↓reduceIte, k_ltT, k_ltF, k_leT, k_leF, k_eqT, k_eqF, k_m1lt, k_nm1, not_true_eq_false, not_false_eq_true, eg, ei]
