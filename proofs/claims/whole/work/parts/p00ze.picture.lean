/-- the whole picture -/
def PcD (f : Fn) (σ : Nat → Nat) (n : Nat) : Prop := PcA f σ (σ 2) ∧ ∀ p, liesN σ ≤ p → p < n → f p = nI 46
theorem cu_lt {σ : Nat → Nat} {i x : Nat} (hi : i < σ 2) (hb : (σ 3).testBit i = true) (hx : x < σ (8 + i)) : cuN σ i + x < liesN σ := by
  have h1 : cuN σ (i + 1) = cuN σ i + (if (σ 3).testBit i = true then szN σ i else 0) := sumB_s _ _ _
  rw [if_pos hb] at h1
  have h2 : cuN σ (i + 1) ≤ cuN σ (σ 2) := cu_mono (by omega)
  show _ < cuN σ (σ 2)
  have : szN σ i = σ (8 + i) := rfl
  omega
theorem cu_before {σ : Nat → Nat} {k i x : Nat} (hk : k < i) (hb : (σ 3).testBit k = true) (hx : x < σ (8 + k)) : cuN σ k + x < cuN σ i := by
  have h1 : cuN σ (k + 1) = cuN σ k + (if (σ 3).testBit k = true then szN σ k else 0) := sumB_s _ _ _
  rw [if_pos hb] at h1
  have h2 : cuN σ (k + 1) ≤ cuN σ i := cu_mono (by omega)
  have : szN σ k = σ (8 + k) := rfl
  omega
/-- one sign more of ITEM i -/
def PcI (f : Fn) (σ : Nat → Nat) (i x : Nat) : Prop := PcA f σ i ∧ ∀ y, y < x → f (cuN σ i + y) = nI (σ (56 + 6 * i))
theorem PcI_s {f : Fn} {σ : Nat → Nat} {i x : Nat} (h : PcI f σ i x) : PcI (upd f (cuN σ i + x) (nI (σ (56 + 6 * i)))) σ i (x + 1) := by
  refine ⟨fun k hk hb y hy => ?_, fun y hy => ?_⟩
  · have := cu_before hk hb hy
    rw [upd_ne (by omega)]
    exact h.1 k hk hb y hy
  · by_cases e : y = x
    · subst e; rw [upd_eq]
    · rw [upd_ne (by omega)]
      exact h.2 y (by omega)
theorem PcI_end {f : Fn} {σ : Nat → Nat} {i x : Nat} (h : PcI f σ i x) (hx : (σ 3).testBit i = true → x = σ (8 + i)) : PcA f σ (i + 1) := by
  intro k hk hb y hy
  by_cases e : k = i
  · subst e
    rw [hx hb] at h
    exact h.2 y hy
  · exact h.1 k (by omega) hb y hy
theorem c_picture {o w s : Ob} {σ : Nat → Nat} (hw : RCw w σ) (hs : RCh s σ) (hv : Wv σ) (hn : WFn σ) : Ok (f_X11_picture o w s) (fun p => p.2 = nI (σ 0) ∧ p.1 13 0 = nI (σ 0) ∧ PcD (p.1 12) σ (σ 0)) := by
  have h8 := hv.1
  have h3 := Wv_3 hv
  have hr := hv.2.2.1
  have hl := hv.2.2.2.1
  have w0 := hw.1
  have s0 := hs.1
  have s2 := hs.2.2.1
  unfold f_X11_picture
  rw [ok_zb2]
  refine ok_mono (ok_zl3 (Q := fun p => p.2 = nI (liesN σ) ∧ PcA (p.1 12) σ (σ 2)) (fun i o' n k => k = nI i ∧ n = nI (cuN σ i) ∧ PcA (o' 12) σ i) (σ 2) (fun i o' n k hi hI => ?_) (fu_lt (by omega)) ⟨rfl, rfl, fun k hk => by omega⟩) (fun p hp => ?_)
  · obtain ⟨rfl, rfl, hA⟩ := hI
    by_cases q : i = σ 2
    · subst q
      simp (maxSteps := 3000000) (disch := omega) only [↓nx_q, zb0_s, zb1_s, zb2_s, zb3_s, zb4_s, zb5_s, zb6_s, zb7_s, zb8_s, zb9_s, zb10_s, zb11_s, zb12_s, zb13_s, zb14_s, q_lit, nI_add, pk_mul, e_cl, gi_in, gz_n0, gz_n1, e_gz, si_eq, si_ne, sa_eq, sa_ne, if_true, if_false, ↓reduceIte, k_ltT, k_ltF, k_leT, k_leF, k_eqT, k_eqF, k_m1lt, k_nm1, not_true_eq_false, not_false_eq_true, w0]
      exact ⟨_, rfl, rfl, hA⟩
    · have hi2 : i < σ 2 := by omega
      have hlt := let_c hw hn h8 hi2
      have hwi := (hw.2 i hi2).1
      have hsz := (hv.2.2.2.2.1 i hi2).1
      have hcs : cuN σ (i + 1) = cuN σ i + (if (σ 3).testBit i = true then szN σ i else 0) := sumB_s _ _ _
      have hsi : szN σ i = σ (8 + i) := rfl
      by_cases hb : (σ 3).testBit i = true
      · rw [if_pos hb] at hcs
        simp (maxSteps := 3000000) (disch := omega) only [↓nx_q, zb0_s, zb1_s, zb2_s, zb3_s, zb4_s, zb5_s, zb6_s, zb7_s, zb8_s, zb9_s, zb10_s, zb11_s, zb12_s, zb13_s, zb14_s, q_lit, nI_add, pk_mul, e_cl, gi_in, gz_n0, gz_n1, e_gz, si_eq, si_ne, sa_eq, sa_ne, if_true, if_false, ↓reduceIte, k_ltT, k_ltF, k_leT, k_leF, k_eqT, k_eqF, k_m1lt, k_nm1, not_true_eq_false, not_false_eq_true, w0, c_holds s2, if_pos hb, hwi]
        rw [ok_zb2]
        refine ok_mono (ok_zl3 (Q := fun p => p.2 = nI (cuN σ (i + 1)) ∧ PcA (p.1 12) σ (i + 1)) (fun x o' n k => k = nI x ∧ n = nI (cuN σ i + x) ∧ PcI (o' 12) σ i x) (σ (8 + i)) (fun x o2 n k hx hI2 => ?_) (fu_lt (by omega)) ⟨rfl, rfl, hA, fun y hy => by omega⟩) (fun p hp => ?_)
        · obtain ⟨rfl, rfl, hP⟩ := hI2
          by_cases qx : x = σ (8 + i)
          · subst qx
            simp (maxSteps := 3000000) (disch := omega) only [↓nx_q, zb0_s, zb1_s, zb2_s, zb3_s, zb4_s, zb5_s, zb6_s, zb7_s, zb8_s, zb9_s, zb10_s, zb11_s, zb12_s, zb13_s, zb14_s, q_lit, nI_add, pk_mul, e_cl, gi_in, gz_n0, gz_n1, e_gz, si_eq, si_ne, sa_eq, sa_ne, if_true, if_false, ↓reduceIte, k_ltT, k_ltF, k_leT, k_leF, k_eqT, k_eqF, k_m1lt, k_nm1, not_true_eq_false, not_false_eq_true]
            exact ⟨_, rfl, by rw [hcs, hsi], PcI_end hP (fun _ => rfl)⟩
          · have hlt2 := cu_lt hi2 hb (show x < σ (8 + i) by omega)
            simp (maxSteps := 3000000) (disch := omega) only [↓nx_q, zb0_s, zb1_s, zb2_s, zb3_s, zb4_s, zb5_s, zb6_s, zb7_s, zb8_s, zb9_s, zb10_s, zb11_s, zb12_s, zb13_s, zb14_s, q_lit, nI_add, pk_mul, e_cl, gi_in, gz_n0, gz_n1, e_gz, si_eq, si_ne, sa_eq, sa_ne, if_true, if_false, ↓reduceIte, k_ltT, k_ltF, k_leT, k_leF, k_eqT, k_eqF, k_m1lt, k_nm1, not_true_eq_false, not_false_eq_true, hlt]
            refine ⟨_, rfl, by omega, rfl, rfl, ?_⟩
            dsimp only
            rw [sa_eq]
            exact PcI_s hP
        · exact ⟨_, rfl, by omega, rfl, hp.1, hp.2⟩
      · rw [if_neg hb, Nat.add_zero] at hcs
        simp (maxSteps := 3000000) (disch := omega) only [↓nx_q, zb0_s, zb1_s, zb2_s, zb3_s, zb4_s, zb5_s, zb6_s, zb7_s, zb8_s, zb9_s, zb10_s, zb11_s, zb12_s, zb13_s, zb14_s, q_lit, nI_add, pk_mul, e_cl, gi_in, gz_n0, gz_n1, e_gz, si_eq, si_ne, sa_eq, sa_ne, if_true, if_false, ↓reduceIte, k_ltT, k_ltF, k_leT, k_leF, k_eqT, k_eqF, k_m1lt, k_nm1, not_true_eq_false, not_false_eq_true, w0, c_holds s2, if_neg hb]
        rw [ok_zb2]
        refine ⟨(o', nI (cuN σ i)), zl3_fo (fun _ => o') (fun _ => nI (cuN σ i)) (fun _ => nI 0) 0 _ (fu_lt (by decide)) rfl rfl rfl (fun j hj => by omega) ?_, ?_⟩
        · simp (maxSteps := 3000000) (disch := omega) only [↓nx_q, zb0_s, zb1_s, zb2_s, zb3_s, zb4_s, zb5_s, zb6_s, zb7_s, zb8_s, zb9_s, zb10_s, zb11_s, zb12_s, zb13_s, zb14_s, q_lit, nI_add, pk_mul, e_cl, gi_in, gz_n0, gz_n1, e_gz, si_eq, si_ne, sa_eq, sa_ne, if_true, if_false, ↓reduceIte, k_ltT, k_ltF, k_leT, k_leF, k_eqT, k_eqF, k_m1lt, k_nm1, not_true_eq_false, not_false_eq_true]
        · refine ⟨_, rfl, by omega, rfl, by rw [hcs]; rfl, fun k hk hb2 => ?_⟩
          by_cases e : k = i
          · subst e; exact absurd hb2 hb
          · exact hA k (by omega) hb2
  · obtain ⟨o1, n1⟩ := p
    obtain ⟨hp1, hp2⟩ := hp
    dsimp only at hp1 hp2 ⊢
    subst hp1
    rw [ok_zb2]
    refine ok_mono (ok_zl2 (Q := fun p => p.2 = nI (σ 0) ∧ PcD (p.1 12) σ (σ 0)) (fun i o' n => n = nI (liesN σ + i) ∧ PcD (o' 12) σ (liesN σ + i)) (σ 0 - liesN σ) (fun i o' n hi hI => ?_) (fu_lt (by omega)) ⟨rfl, hp2, fun p h1 h2 => by omega⟩) (fun p hp => ?_)
    · obtain ⟨rfl, hD⟩ := hI
      by_cases q : i = σ 0 - liesN σ
      · have e : liesN σ + i = σ 0 := by omega
        rw [e] at hD ⊢
        simp (maxSteps := 3000000) (disch := omega) only [↓nx_q, zb0_s, zb1_s, zb2_s, zb3_s, zb4_s, zb5_s, zb6_s, zb7_s, zb8_s, zb9_s, zb10_s, zb11_s, zb12_s, zb13_s, zb14_s, q_lit, nI_add, pk_mul, e_cl, gi_in, gz_n0, gz_n1, e_gz, si_eq, si_ne, sa_eq, sa_ne, if_true, if_false, ↓reduceIte, k_ltT, k_ltF, k_leT, k_leF, k_eqT, k_eqF, k_m1lt, k_nm1, not_true_eq_false, not_false_eq_true, s0]
        exact ⟨_, rfl, rfl, hD⟩
      · simp (maxSteps := 3000000) (disch := omega) only [↓nx_q, zb0_s, zb1_s, zb2_s, zb3_s, zb4_s, zb5_s, zb6_s, zb7_s, zb8_s, zb9_s, zb10_s, zb11_s, zb12_s, zb13_s, zb14_s, q_lit, nI_add, pk_mul, e_cl, gi_in, gz_n0, gz_n1, e_gz, si_eq, si_ne, sa_eq, sa_ne, if_true, if_false, ↓reduceIte, k_ltT, k_ltF, k_leT, k_leF, k_eqT, k_eqF, k_m1lt, k_nm1, not_true_eq_false, not_false_eq_true, s0]
        refine ⟨_, rfl, by omega, rfl, fun k hk hb x hx => ?_, fun p h1 h2 => ?_⟩
        · have := cu_lt hk hb hx
          simp (disch := omega) only [si_eq, si_ne, sa_eq, sa_ne, upd_eq, upd_ne, updN_eq, updN_ne]
          exact hD.1 k hk hb x hx
        · by_cases e : p = liesN σ + i
          · subst e
            simp (disch := omega) only [si_eq, si_ne, sa_eq, sa_ne, upd_eq, upd_ne, updN_eq, updN_ne]
          · simp (disch := omega) only [si_eq, si_ne, sa_eq, sa_ne, upd_eq, upd_ne, updN_eq, updN_ne]
            exact hD.2 p h1 (by omega)
    · obtain ⟨o2, n2⟩ := p
      obtain ⟨hq1, hq2⟩ := hp
      dsimp only at hq1 hq2 ⊢
      subst hq1
      refine ok_some.mpr ⟨rfl, by show si o2 13 (nI (σ 0)) 13 0 = _; exact si_eq _ _ _ _, ?_⟩
      show PcD (si o2 13 (nI (σ 0)) 12) σ (σ 0)
      rw [si_ne (by decide)]
      exact hq2
theorem m_picture {M : Ob} {σ : Nat → Nat} (hM : M 0 = rw σ) (hv : Wv σ) (hn : WFn σ) : Ok (f_X12_picture M) (fun p => p.2 = nI (σ 0) ∧ p.1 39 0 = nI (σ 0) ∧ PcD (p.1 38) σ (σ 0) ∧ ∀ j, j ≠ 38 → j ≠ 39 → p.1 j = M j) := by
  have h8 := hv.1
  have h3 := Wv_3 hv
  have hr := hv.2.2.1
  have hl := hv.2.2.2.1
  have h46 : vp_nar .byte (nI 46) = nI 46 := rfl
  unfold f_X12_picture
  rw [nx_eq, ok_zb1]
  refine ok_mono (ok_zl2 (Q := fun o' => o' 39 0 = nI (liesN σ) ∧ PcA (o' 38) σ (σ 2) ∧ ∀ j, j ≠ 38 → j ≠ 39 → o' j = M j) (fun i o' k => k = nI i ∧ o' 39 0 = nI (cuN σ i) ∧ PcA (o' 38) σ i ∧ ∀ j, j ≠ 38 → j ≠ 39 → o' j = M j) (σ 2) (fun i o' k hi hI => ?_) (fu_lt (by omega)) ⟨rfl, si_eq _ _ _ _, fun k hk => by omega, fun j a b => si_ne b⟩) (fun p hp => ?_)
  · obtain ⟨rfl, hc, hA, hf⟩ := hI
    have hM' : o' 0 = rw σ := by rw [hf 0 (by decide) (by decide)]; exact hM
    by_cases q : i = σ 2
    · subst q
      simp (maxSteps := 3000000) (disch := omega) only [↓nx_q, zb0_s, zb1_s, zb2_s, zb3_s, zb4_s, zb5_s, zb6_s, zb7_s, zb8_s, zb9_s, zb10_s, zb11_s, zb12_s, zb13_s, zb14_s, q_lit, nI_add, pk_mul, e_cl, gi_in, gz_n0, gz_n1, e_gz, si_eq, si_ne, sa_eq, sa_ne, if_true, if_false, ↓reduceIte, k_ltT, k_ltF, k_leT, k_leF, k_eqT, k_eqF, k_m1lt, k_nm1, not_true_eq_false, not_false_eq_true, hM', rw_ap, upd_rw, sa_sa, jn_l, jn_r, jn_4, jn_5, jn_6, jn_ul, jn_ur, jn_u4, jn_u5, jn_u6]
      exact ⟨_, rfl, hc, hA, hf⟩
    · have hi2 : i < σ 2 := by omega
      have hsz := (hv.2.2.2.2.1 i hi2).1
      have hlet := let_m (hn i hi2).1
      have hnar : vp_nar .byte (nI (σ (56 + 6 * i))) = nI (σ (56 + 6 * i)) := by
        have := pk_vb (nI (σ (56 + 6 * i)))
        rw [hlet] at this
        exact this
      have hcs : cuN σ (i + 1) = cuN σ i + (if (σ 3).testBit i = true then szN σ i else 0) := sumB_s _ _ _
      have hsi : szN σ i = σ (8 + i) := rfl
      simp (maxSteps := 3000000) (disch := omega) only [↓nx_q, zb0_s, zb1_s, zb2_s, zb3_s, zb4_s, zb5_s, zb6_s, zb7_s, zb8_s, zb9_s, zb10_s, zb11_s, zb12_s, zb13_s, zb14_s, q_lit, nI_add, pk_mul, e_cl, gi_in, gz_n0, gz_n1, e_gz, si_eq, si_ne, sa_eq, sa_ne, if_true, if_false, ↓reduceIte, k_ltT, k_ltF, k_leT, k_leF, k_eqT, k_eqF, k_m1lt, k_nm1, not_true_eq_false, not_false_eq_true, hM', rw_ap, upd_rw, sa_sa, jn_l, jn_r, jn_4, jn_5, jn_6, jn_ul, jn_ur, jn_u4, jn_u5, jn_u6]
      rw [ok_zb1]
      by_cases hb : (σ 3).testBit i = true
      · rw [if_pos hb] at hcs
        refine ok_mono (ok_zl2 (Q := fun o2 => o2 39 0 = nI (cuN σ (i + 1)) ∧ PcA (o2 38) σ (i + 1) ∧ ∀ j, j ≠ 38 → j ≠ 39 → o2 j = M j) (fun x o2 k => k = nI x ∧ o2 39 0 = nI (cuN σ i + x) ∧ PcI (o2 38) σ i x ∧ ∀ j, j ≠ 38 → j ≠ 39 → o2 j = M j) (σ (8 + i)) (fun x o2 k hx hI2 => ?_) (fu_lt (by omega)) ⟨rfl, hc, ⟨hA, fun y hy => by omega⟩, hf⟩) (fun p hp => ⟨_, rfl, by omega, rfl, hp⟩)
        obtain ⟨rfl, hc2, hP, hf2⟩ := hI2
        have hM2 : o2 0 = rw σ := by rw [hf2 0 (by decide) (by decide)]; exact hM
        by_cases qx : x = σ (8 + i)
        · subst qx
          simp (maxSteps := 3000000) (disch := omega) only [↓nx_q, zb0_s, zb1_s, zb2_s, zb3_s, zb4_s, zb5_s, zb6_s, zb7_s, zb8_s, zb9_s, zb10_s, zb11_s, zb12_s, zb13_s, zb14_s, q_lit, nI_add, pk_mul, e_cl, gi_in, gz_n0, gz_n1, e_gz, si_eq, si_ne, sa_eq, sa_ne, if_true, if_false, ↓reduceIte, k_ltT, k_ltF, k_leT, k_leF, k_eqT, k_eqF, k_m1lt, k_nm1, not_true_eq_false, not_false_eq_true, hM2, rw_ap, upd_rw, sa_sa, jn_l, jn_r, jn_4, jn_5, jn_6, jn_ul, jn_ur, jn_u4, jn_u5, jn_u6]
          exact ⟨_, rfl, by rw [hc2, hcs, hsi], PcI_end hP (fun _ => rfl), hf2⟩
        · have hlt2 := cu_lt hi2 hb (show x < σ (8 + i) by omega)
          simp (maxSteps := 3000000) (disch := omega) only [↓nx_q, zb0_s, zb1_s, zb2_s, zb3_s, zb4_s, zb5_s, zb6_s, zb7_s, zb8_s, zb9_s, zb10_s, zb11_s, zb12_s, zb13_s, zb14_s, q_lit, nI_add, pk_mul, e_cl, gi_in, gz_n0, gz_n1, e_gz, si_eq, si_ne, sa_eq, sa_ne, if_true, if_false, ↓reduceIte, k_ltT, k_ltF, k_leT, k_leF, k_eqT, k_eqF, k_m1lt, k_nm1, not_true_eq_false, not_false_eq_true, hM2, rw_ap, upd_rw, sa_sa, jn_l, jn_r, jn_4, jn_5, jn_6, jn_ul, jn_ur, jn_u4, jn_u5, jn_u6, m_bitOf, if_pos hb, hc2, hlet, hnar]
          refine ⟨_, rfl, by omega, rfl, ?_, ?_, fun j a b => ?_⟩
          · simp (disch := omega) only [si_eq, si_ne, sa_eq, sa_ne, upd_eq, upd_ne, updN_eq, updN_ne]
            rfl
          · simp (disch := omega) only [si_eq, si_ne, sa_eq, sa_ne, upd_eq, upd_ne, updN_eq, updN_ne]
            exact PcI_s hP
          · simp (disch := omega) only [si_eq, si_ne, sa_eq, sa_ne, upd_eq, upd_ne, updN_eq, updN_ne]
            exact hf2 j a b
      · rw [if_neg hb, Nat.add_zero] at hcs
        refine ⟨o', zl2_fo (fun _ => o') (fun _ => nI 0) 0 _ (fu_lt (by decide)) rfl rfl (fun j hj => by omega) ?_, ?_⟩
        · simp (maxSteps := 3000000) (disch := omega) only [↓nx_q, zb0_s, zb1_s, zb2_s, zb3_s, zb4_s, zb5_s, zb6_s, zb7_s, zb8_s, zb9_s, zb10_s, zb11_s, zb12_s, zb13_s, zb14_s, q_lit, nI_add, pk_mul, e_cl, gi_in, gz_n0, gz_n1, e_gz, si_eq, si_ne, sa_eq, sa_ne, if_true, if_false, ↓reduceIte, k_ltT, k_ltF, k_leT, k_leF, k_eqT, k_eqF, k_m1lt, k_nm1, not_true_eq_false, not_false_eq_true, hM', rw_ap, upd_rw, sa_sa, jn_l, jn_r, jn_4, jn_5, jn_6, jn_ul, jn_ur, jn_u4, jn_u5, jn_u6, m_bitOf, if_neg hb]
        · refine ⟨_, rfl, by omega, rfl, by rw [hcs]; exact hc, fun k hk hb2 => ?_, hf⟩
          by_cases e : k = i
          · subst e; exact absurd hb2 hb
          · exact hA k (by omega) hb2
  · obtain ⟨hc, hA, hf⟩ := hp
    rw [ok_zb1]
    refine ok_mono (ok_zl1 (Q := fun o' => o' 39 0 = nI (σ 0) ∧ PcD (o' 38) σ (σ 0) ∧ ∀ j, j ≠ 38 → j ≠ 39 → o' j = M j) (fun i o' => o' 39 0 = nI (liesN σ + i) ∧ PcD (o' 38) σ (liesN σ + i) ∧ ∀ j, j ≠ 38 → j ≠ 39 → o' j = M j) (σ 0 - liesN σ) (fun i o' hi hI => ?_) (fu_lt (by omega)) ⟨hc, ⟨hA, fun p h1 h2 => by omega⟩, hf⟩) (fun p hp => ok_some.mpr ⟨hp.1, hp⟩)
    obtain ⟨hc2, hD, hf2⟩ := hI
    have hM2 : o' 0 = rw σ := by rw [hf2 0 (by decide) (by decide)]; exact hM
    by_cases q : i = σ 0 - liesN σ
    · have e : liesN σ + i = σ 0 := by omega
      rw [e] at hD hc2
      simp (maxSteps := 3000000) (disch := omega) only [↓nx_q, zb0_s, zb1_s, zb2_s, zb3_s, zb4_s, zb5_s, zb6_s, zb7_s, zb8_s, zb9_s, zb10_s, zb11_s, zb12_s, zb13_s, zb14_s, q_lit, nI_add, pk_mul, e_cl, gi_in, gz_n0, gz_n1, e_gz, si_eq, si_ne, sa_eq, sa_ne, if_true, if_false, ↓reduceIte, k_ltT, k_ltF, k_leT, k_leF, k_eqT, k_eqF, k_m1lt, k_nm1, not_true_eq_false, not_false_eq_true, hM2, rw_ap, upd_rw, sa_sa, jn_l, jn_r, jn_4, jn_5, jn_6, jn_ul, jn_ur, jn_u4, jn_u5, jn_u6, hc2]
      exact ⟨_, rfl, hc2, hD, hf2⟩
    · simp (maxSteps := 3000000) (disch := omega) only [↓nx_q, zb0_s, zb1_s, zb2_s, zb3_s, zb4_s, zb5_s, zb6_s, zb7_s, zb8_s, zb9_s, zb10_s, zb11_s, zb12_s, zb13_s, zb14_s, q_lit, nI_add, pk_mul, e_cl, gi_in, gz_n0, gz_n1, e_gz, si_eq, si_ne, sa_eq, sa_ne, if_true, if_false, ↓reduceIte, k_ltT, k_ltF, k_leT, k_leF, k_eqT, k_eqF, k_m1lt, k_nm1, not_true_eq_false, not_false_eq_true, hM2, rw_ap, upd_rw, sa_sa, jn_l, jn_r, jn_4, jn_5, jn_6, jn_ul, jn_ur, jn_u4, jn_u5, jn_u6, hc2, h46]
      refine ⟨_, rfl, by omega, ?_, ⟨fun k hk hb x hx => ?_, fun p h1 h2 => ?_⟩, fun j a b => ?_⟩
      · simp (disch := omega) only [si_eq, si_ne, sa_eq, sa_ne, upd_eq, upd_ne, updN_eq, updN_ne]
        rfl
      · have := cu_lt hk hb hx
        simp (disch := omega) only [si_eq, si_ne, sa_eq, sa_ne, upd_eq, upd_ne, updN_eq, updN_ne]
        exact hD.1 k hk hb x hx
      · by_cases e : p = liesN σ + i
        · subst e
          simp (disch := omega) only [si_eq, si_ne, sa_eq, sa_ne, upd_eq, upd_ne, updN_eq, updN_ne]
        · simp (disch := omega) only [si_eq, si_ne, sa_eq, sa_ne, upd_eq, upd_ne, updN_eq, updN_ne]
          exact hD.2 p h1 (by omega)
      · simp (disch := omega) only [si_eq, si_ne, sa_eq, sa_ne, upd_eq, upd_ne, updN_eq, updN_ne]
        exact hf2 j a b
theorem R_picture : St_picture Rel := by
  intro V PK PI M hR
  obtain ⟨σ, g, fc, fm, ⟨hM0, hW, hRC⟩, hGC, hGM, hHi, hPl, a, b, c, d, e, f, gg⟩ := hR
  obtain ⟨p, ep, p1, p2, p3⟩ := c_picture (o := V 0) hRC.2.1 hRC.2.2.1 hW.1 hW.2.2.2.2.2.1
  obtain ⟨y, ey, y1, y2, y3, y4⟩ := m_picture hM0 hW.1 hW.2.2.2.2.2.1
  obtain ⟨o0, r⟩ := p
  obtain ⟨M', r'⟩ := y
  dsimp only at p1 p2 p3 y1 y2 y3 y4
  subst p1 y1
  have hr := hW.1.2.2.1
  have hrow : RRow (o0 13 0) (o0 12) (M' 39 0) (M' 38) 20 := by
    refine ⟨σ 0, by omega, p2, y2, fun i hi => ?_⟩
    by_cases q : i < liesN σ
    · obtain ⟨k, x, h1, h2, h3, h4⟩ := cu_find (σ := σ) (n := σ 2) q
      rw [h4, p3.1 k h1 h2 x h3, y3.1 k h1 h2 x h3]
    · rw [p3.2 i (by omega) hi, y3.2 i (by omega) hi]
  have ep' : f_X11_picture (V 0) (V 4) (V 5) = some (o0, nI (σ 0)) := ep
  refine ⟨vu V 0 o0, PK, PI, M', nI (σ 0), ?_, ?_, σ, g, fc, fm, ⟨by rw [y4 0 (by decide) (by decide)]; exact hM0, hW, ?_⟩, ?_, ?_, ?_, ?_, ?_⟩
  · unfold g_picture
    rw [zb2_of ep']
  · unfold h_picture
    rw [zb2_of ey]
  · refine RC_un (V := vu V 0 o0) hRC ?_ ?_ ?_ ?_ ?_ ?_ ?_ <;> simp (disch := omega) only [vu_ne] <;> rfl
  · rw [vu_ne (by decide)]; exact hGC
  · exact GM_fr hGM (y4 19 (by decide) (by decide)) (y4 20 (by decide) (by decide)) (y4 21 (by decide) (by decide))
  · rw [vu_ne (by decide)]
    exact RHist_fr hHi (y4 2 (by decide) (by decide)) (y4 5 (by decide) (by decide))
  · rw [vu_ne (by decide)]; exact hPl
  · refine ⟨?_, ?_, ?_, ?_, RImg_fr e (y4 1 (by decide) (by decide)) (y4 4 (by decide) (by decide)), ?_, ?_⟩
    · rw [vu_ne (by decide)]
      exact RTape_fr a (y4 6 (by decide) (by decide)) (y4 7 (by decide) (by decide))
    · rw [vu_ne (by decide), y4 13 (by decide) (by decide)]; exact b
    · rw [vu_eq]; exact hrow
    · rw [vu_ne (by decide), y4 42 (by decide) (by decide), y4 41 (by decide) (by decide)]; exact d
    · rw [vu_ne (by decide)]; exact f
    · rw [vu_ne (by decide)]; exact gg
