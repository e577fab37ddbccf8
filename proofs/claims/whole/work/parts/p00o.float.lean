/-! ===== all HEAT fades ===== -/
def wrmI (σ : Nat → Nat) (k : Nat) : Nat → Nat → Nat
  | 0 => σ
  | i + 1 => updN (wrmI σ k i) (48 + i) (if i = k then hta_f (htm_f (σ (48 + i))) else htm_f (σ (48 + i)))
def wrm (σ : Nat → Nat) (k : Nat) : Nat → Nat := wrmI σ k (σ 2)
theorem wrmI_fr {σ : Nat → Nat} {k j : Nat} : ∀ {i : Nat}, j < 48 ∨ 48 + i ≤ j → wrmI σ k i j = σ j
  | 0, _ => rfl
  | i + 1, h => by
    show updN _ _ _ _ = _
    rw [updN_ne (by omega), wrmI_fr (by omega)]
theorem wrmI_in {σ : Nat → Nat} {k x : Nat} : ∀ {i : Nat}, x < i → wrmI σ k i (48 + x) = if x = k then hta_f (htm_f (σ (48 + x))) else htm_f (σ (48 + x))
  | 0, h => by omega
  | i + 1, h => by
    show updN _ _ _ _ = _
    by_cases e : x = i
    · subst e
      rw [updN_eq]
    · rw [updN_ne (by omega), wrmI_in (by omega)]
def WFhc (c : Nat) (σ : Nat → Nat) : Prop := ∀ k, k < 8 → HT c (σ (48 + k)) ∧ (σ 2 ≤ k → σ (48 + k) = 0)
theorem m_heats {M : Ob} {σ π : Nat → Nat} {k c : Nat} (hM : M 0 = rw (jn σ π)) (h2 : σ 2 ≤ 8) (hk : k < σ 2) (hc : c ≤ 100) (hh : WFhc c σ) : f_X12_heats M (nI k) = some (sa M 0 (rw (jn (wrm σ k) π))) := by
  unfold f_X12_heats
  refine (zb1_of (zl2_fo (fun i => sa M 0 (rw (jn (wrmI σ k i) π))) (fun i => nI i) (σ 2) (sa M 0 (rw (jn (wrm σ k) π))) (fu_lt (by omega)) ?_ rfl (fun i hi => ?_) ?_)).trans rfl
  · show M = sa M 0 (rw (jn σ π))
    rw [← hM, sa_self]
  · show _ = some (Sum.inl (sa M 0 (rw (jn (updN (wrmI σ k i) (48 + i) (if i = k then hta_f (htm_f (σ (48 + i))) else htm_f (σ (48 + i)))) π)), nI (i + 1)))
    have hi8 := (hh i (by omega)).1
    have h0 := HT_lt (by omega) hi8
    have h1 := HT_lt (by omega) (HT_fm hc hi8).1
    have h2 := HT_lt (by omega) (HT_w hc hi8)
    by_cases q : i = k
    · rw [if_pos q]
      simp (disch := omega) only [↓nx_q, zb0_s, zb1_s, zb2_s, zb3_s, zb4_s, zb5_s, zb6_s, zb7_s, zb8_s, zb9_s, zb10_s, zb11_s, zb12_s, zb13_s, zb14_s, q_lit, nI_add, pk_mul, e_cl, gi_in, gz_n0, gz_n1, e_gz, si_eq, si_ne, sa_eq, sa_ne, if_true, if_false, ↓reduceIte, k_ltT, k_ltF, k_leT, k_leF, k_eqT, k_eqF, k_m1lt, k_nm1, not_true_eq_false, not_false_eq_true, rw_ap, upd_rw, sa_sa, jn_l, jn_r, jn_4, jn_5, jn_6, jn_ul, jn_ur, jn_u4, jn_u5, jn_u6, wrmI_fr, gb_n, u_fm, gq_n, u_fa, f2i_h]
    · rw [if_neg q]
      simp (disch := omega) only [↓nx_q, zb0_s, zb1_s, zb2_s, zb3_s, zb4_s, zb5_s, zb6_s, zb7_s, zb8_s, zb9_s, zb10_s, zb11_s, zb12_s, zb13_s, zb14_s, q_lit, nI_add, pk_mul, e_cl, gi_in, gz_n0, gz_n1, e_gz, si_eq, si_ne, sa_eq, sa_ne, if_true, if_false, ↓reduceIte, k_ltT, k_ltF, k_leT, k_leF, k_eqT, k_eqF, k_m1lt, k_nm1, not_true_eq_false, not_false_eq_true, rw_ap, upd_rw, sa_sa, jn_l, jn_r, jn_4, jn_5, jn_6, jn_ul, jn_ur, jn_u4, jn_u5, jn_u6, wrmI_fr, gb_n, u_fm, gq_n, u_fa, f2i_h]
  · simp (disch := omega) only [↓nx_q, zb0_s, zb1_s, zb2_s, zb3_s, zb4_s, zb5_s, zb6_s, zb7_s, zb8_s, zb9_s, zb10_s, zb11_s, zb12_s, zb13_s, zb14_s, q_lit, nI_add, pk_mul, e_cl, gi_in, gz_n0, gz_n1, e_gz, si_eq, si_ne, sa_eq, sa_ne, if_true, if_false, ↓reduceIte, k_ltT, k_ltF, k_leT, k_leF, k_eqT, k_eqF, k_m1lt, k_nm1, not_true_eq_false, not_false_eq_true, rw_ap, upd_rw, sa_sa, jn_l, jn_r, jn_4, jn_5, jn_6, jn_ul, jn_ur, jn_u4, jn_u5, jn_u6, wrmI_fr]
    rfl
theorem c_warm {o : Ob} {σ : Nat → Nat} {k c : Nat} (ho : RCh o σ) (h2 : σ 2 ≤ 8) (hk : k < σ 2) (hc : c ≤ 100) (hh : WFhc c σ) : Ok (f_X8_warm o (nI k)) (fun o' => RCh o' (wrm σ k)) := by
  unfold f_X8_warm
  rw [ok_zb1]
  refine ok_mono (ok_zl2 (Q := fun o' => (∀ j, j ≠ 6 → o' j = o j) ∧ ∀ x, x < 8 → o' 6 x = nI (htm_f (σ (48 + x)))) (fun i o' kk => kk = nI i ∧ (∀ j, j ≠ 6 → o' j = o j) ∧ (∀ x, x < i → o' 6 x = nI (htm_f (σ (48 + x)))) ∧ ∀ x, i ≤ x → x < 8 → o' 6 x = nI (σ (48 + x))) 8 (fun i o' kk hi hI => ?_) (fu_lt (by omega)) ⟨rfl, fun _ _ => rfl, fun x hx => by omega, fun x _ hx => (ho.2.2.2.2 x hx).2.1⟩) (fun o' hq => ?_)
  · obtain ⟨rfl, hf, ha, hb⟩ := hI
    by_cases q : i = 8
    · subst q
      simp (disch := omega) only [↓nx_q, zb0_s, zb1_s, zb2_s, zb3_s, zb4_s, zb5_s, zb6_s, zb7_s, zb8_s, zb9_s, zb10_s, zb11_s, zb12_s, zb13_s, zb14_s, q_lit, nI_add, pk_mul, e_cl, gi_in, gz_n0, gz_n1, e_gz, si_eq, si_ne, sa_eq, sa_ne, if_true, if_false, ↓reduceIte, k_ltT, k_ltF, k_leT, k_leF, k_eqT, k_eqF, k_m1lt, k_nm1, not_true_eq_false, not_false_eq_true]
      exact ⟨_, rfl, hf, ha⟩
    · have hi8 := (hh i (by omega)).1
      have h1 := HT_lt (by omega) (HT_fm hc hi8).1
      have hbi := hb i (Nat.le_refl _) (by omega)
      simp (disch := omega) only [↓nx_q, zb0_s, zb1_s, zb2_s, zb3_s, zb4_s, zb5_s, zb6_s, zb7_s, zb8_s, zb9_s, zb10_s, zb11_s, zb12_s, zb13_s, zb14_s, q_lit, nI_add, pk_mul, e_cl, gi_in, gz_n0, gz_n1, e_gz, si_eq, si_ne, sa_eq, sa_ne, if_true, if_false, ↓reduceIte, k_ltT, k_ltF, k_leT, k_leF, k_eqT, k_eqF, k_m1lt, k_nm1, not_true_eq_false, not_false_eq_true, hbi, u_fm, gq_n, u_back]
      refine ⟨_, rfl, by omega, rfl, fun j hj => ?_, fun x hx => ?_, fun x hx hx8 => ?_⟩
      · simp (disch := omega) only [si_eq, si_ne, sa_eq, sa_ne, upd_eq, upd_ne, updN_eq, updN_ne]
        exact hf j hj
      · by_cases e : x = i
        · subst e
          simp (disch := omega) only [si_eq, si_ne, sa_eq, sa_ne, upd_eq, upd_ne, updN_eq, updN_ne]
        · simp (disch := omega) only [si_eq, si_ne, sa_eq, sa_ne, upd_eq, upd_ne, updN_eq, updN_ne]
          exact ha x (by omega)
      · simp (disch := omega) only [si_eq, si_ne, sa_eq, sa_ne, upd_eq, upd_ne, updN_eq, updN_ne]
        exact hb x (by omega) hx8
  · obtain ⟨hf, ha⟩ := hq
    have hi8 := (hh k (by omega)).1
    have h1 := HT_lt (by omega) (HT_fm hc hi8).1
    have h2' := HT_lt (by omega) (HT_w hc hi8)
    have hk6 := ha k (by omega)
    simp (disch := omega) only [↓nx_q, zb0_s, zb1_s, zb2_s, zb3_s, zb4_s, zb5_s, zb6_s, zb7_s, zb8_s, zb9_s, zb10_s, zb11_s, zb12_s, zb13_s, zb14_s, q_lit, nI_add, pk_mul, e_cl, gi_in, gz_n0, gz_n1, e_gz, si_eq, si_ne, sa_eq, sa_ne, if_true, if_false, ↓reduceIte, k_ltT, k_ltF, k_leT, k_leF, k_eqT, k_eqF, k_m1lt, k_nm1, not_true_eq_false, not_false_eq_true, hk6, u_fa, gq_n, u_back]
    have e2 : wrm σ k 2 = σ 2 := wrmI_fr (by omega)
    refine ⟨_, rfl, ?_, ?_, ?_, ?_, fun j hj => ?_⟩
    · simp (disch := omega) only [si_eq, si_ne, sa_eq, sa_ne, upd_eq, upd_ne, updN_eq, updN_ne, hf, ho.1]
      exact congrArg nI (wrmI_fr (by omega)).symm
    · simp (disch := omega) only [si_eq, si_ne, sa_eq, sa_ne, upd_eq, upd_ne, updN_eq, updN_ne, hf, ho.2.1]
      exact congrArg nI (wrmI_fr (by omega)).symm
    · simp (disch := omega) only [si_eq, si_ne, sa_eq, sa_ne, upd_eq, upd_ne, updN_eq, updN_ne, hf, ho.2.2.1]
      exact congrArg nI (wrmI_fr (by omega)).symm
    · simp (disch := omega) only [si_eq, si_ne, sa_eq, sa_ne, upd_eq, upd_ne, updN_eq, updN_ne, hf, ho.2.2.2.1]
      exact congrArg nI (lies_congr (by omega) (fun j hj => wrmI_fr (by omega))).symm
    · have hoj := ho.2.2.2.2 j hj
      rw [e2]
      refine ⟨?_, ?_, fun hj2 => ?_⟩
      · simp (disch := omega) only [si_eq, si_ne, sa_eq, sa_ne, upd_eq, upd_ne, updN_eq, updN_ne, hf, hoj.1]
        exact congrArg nI (wrmI_fr (by omega)).symm
      · show sa o' 6 (upd (o' 6) k (nI (hta_f (htm_f (σ (48 + k)))))) 6 j = nI (wrmI σ k (σ 2) (48 + j))
        rw [sa_eq]
        by_cases q : j < σ 2
        · rw [wrmI_in q]
          by_cases e : j = k
          · subst e
            rw [upd_eq, if_pos rfl]
          · rw [upd_ne e, if_neg e, ha j hj]
        · rw [wrmI_fr (by omega), upd_ne (by omega), ha j hj, (hh j hj).2 (by omega), htm_0]
      · simp (disch := omega) only [si_eq, si_ne, sa_eq, sa_ne, upd_eq, upd_ne, updN_eq, updN_ne, hf, hoj.2.2 hj2]
        exact congrArg nI (wrmI_fr (by omega)).symm
