/-! ===== to make way: the class ===== -/
def DD (d : Ob) (D : DL) : Prop := d 0 0 = nI D.length ∧ ∀ (i : Nat) (y : Nat × Nat × Nat), D[i]? = some y → d 1 i = nI y.1 ∧ d 2 i = nI y.2.1 ∧ d 3 i = nI y.2.2
theorem c_add {d : Ob} {D : DL} {a b c : Nat} (h : DD d D) (hl : D.length < 9) : Ok (f_X1_add d (nI a) (nI b) (nI c)) (fun d' => DD d' (D ++ [(a, b, c)])) := by
  obtain ⟨h1, h2⟩ := h
  unfold f_X1_add
  simp (disch := omega) only [↓nx_q, zb0_s, zb1_s, zb2_s, zb3_s, zb4_s, zb5_s, zb6_s, zb7_s, zb8_s, zb9_s, zb10_s, zb11_s, zb12_s, zb13_s, zb14_s, q_lit, nI_add, pk_mul, e_cl, gi_in, gz_n0, gz_n1, e_gz, si_eq, si_ne, sa_eq, sa_ne, if_true, if_false, ↓reduceIte, k_ltT, k_ltF, k_leT, k_leF, k_eqT, k_eqF, k_m1lt, k_nm1, not_true_eq_false, not_false_eq_true, h1]
  refine ⟨_, rfl, ?_, fun i y hy => ?_⟩
  · rw [si_eq, List.length_append]
    rfl
  · simp (disch := omega) only [si_eq, si_ne, sa_eq, sa_ne, upd_eq, upd_ne, updN_eq, updN_ne]
    by_cases e : i = D.length
    · subst e
      rw [List.getElem?_append_right (Nat.le_refl _), Nat.sub_self] at hy
      cases hy
      exact ⟨upd_eq _ _ _, upd_eq _ _ _, upd_eq _ _ _⟩
    · have hi : i < D.length := by
        have := (List.getElem?_eq_some_iff.mp hy).1
        rw [List.length_append] at this
        simp at this
        omega
      rw [List.getElem?_append_left hi] at hy
      rw [upd_ne e, upd_ne e, upd_ne e]
      exact h2 i y hy
theorem DD_0 (d : Ob) : DD (si d 0 (nI 0)) [] := ⟨si_eq _ _ _ _, fun i y h => by simp at h⟩
theorem RCw_congr {w : Ob} {σ σ' : Nat → Nat} (h : RCw w σ) (hl : σ 2 ≤ 8) (e : ∀ j, j ≠ 3 → (j = 2 ∨ (8 ≤ j ∧ j < 32) ∨ (56 ≤ j ∧ j < 104)) → σ' j = σ j) : RCw w σ' := by
  have e2 := e 2 (by decide) (by omega)
  refine ⟨by rw [e2]; exact h.1, fun k hk => ?_⟩
  rw [e2] at hk
  have hp : packN σ' k = packN σ k := by
    unfold packN
    rw [e (56 + 6 * k) (by omega) (by omega), e (56 + 6 * k + 1) (by omega) (by omega), e (56 + 6 * k + 2) (by omega) (by omega), e (56 + 6 * k + 3) (by omega) (by omega), e (56 + 6 * k + 4) (by omega) (by omega), e (56 + 6 * k + 5) (by omega) (by omega)]
  rw [e (8 + k) (by omega) (by omega), e (16 + k) (by omega) (by omega), e (24 + k) (by omega) (by omega), hp]
  exact h.2 k hk
theorem c_lower {o w d : Ob} {σ : Nat → Nat} {D : DL} {k : Nat} (ho : RCh o σ) (hw : RCw w σ) (hd : DD d D) (hv : Wv σ) (hk : k < σ 2) (hb : (σ 3).testBit k = true) (hl : D.length < 9) : Ok (f_X8_lower o w d (nI k)) (fun p => RCh p.1 (dnS σ k) ∧ DD p.2 (D ++ [(2, k, σ (8 + k))])) := by
  obtain ⟨o0, o1, o2, o3, o4⟩ := ho
  have hwk := hw.2 k hk
  have h8 := hv.1
  have h3 := Wv_3 hv
  have hlies := lies_dn h8 (by omega) hk hb
  unfold f_X8_lower
  simp (disch := omega) only [↓nx_q, zb0_s, zb1_s, zb2_s, zb3_s, zb4_s, zb5_s, zb6_s, zb7_s, zb8_s, zb9_s, zb10_s, zb11_s, zb12_s, zb13_s, zb14_s, q_lit, nI_add, pk_mul, e_cl, gi_in, gz_n0, gz_n1, e_gz, si_eq, si_ne, sa_eq, sa_ne, if_true, if_false, ↓reduceIte, k_ltT, k_ltF, k_leT, k_leF, k_eqT, k_eqF, k_m1lt, k_nm1, not_true_eq_false, not_false_eq_true, o2, o3, hwk.1, e_shl1, q_andn', e_sub]
  rw [ok_zb1]
  refine ok_mono (c_add (a := 2) (b := k) (c := σ (8 + k)) hd hl) (fun d' hd' => ok_some.mpr ⟨⟨?_, ?_, ?_, ?_, fun j hj => ?_⟩, hd'⟩)
  · simp (disch := omega) only [si_eq, si_ne, sa_eq, sa_ne, upd_eq, upd_ne, updN_eq, updN_ne, o0, dn_fr]
  · simp (disch := omega) only [si_eq, si_ne, sa_eq, sa_ne, upd_eq, upd_ne, updN_eq, updN_ne, o1, dn_fr]
  · simp (disch := omega) only [si_eq, si_ne, sa_eq, sa_ne, upd_eq, upd_ne, updN_eq, updN_ne, dn_3]
  · simp (disch := omega) only [si_eq, si_ne, sa_eq, sa_ne, upd_eq, upd_ne, updN_eq, updN_ne]
    exact congrArg nI (by omega)
  · have := o4 j hj
    rw [dn_2]
    by_cases e : j = k
    · subst e
      simp (disch := omega) only [si_eq, si_ne, sa_eq, sa_ne, upd_eq, upd_ne, updN_eq, updN_ne, dn_fr, dn_d]
      exact ⟨trivial, this.2⟩
    · simp (disch := omega) only [si_eq, si_ne, sa_eq, sa_ne, upd_eq, upd_ne, updN_eq, updN_ne, dn_fr]
      exact this
theorem c_full {w : Ob} {σ : Nat → Nat} {k : Nat} (hw : RCw w σ) (hi : WFi σ) (h8 : σ 2 ≤ 8) (hk : k < σ 2) : f_X10_fullDensity w (nI k) = some (nI (fulN σ k)) := by
  have hwk := hw.2 k hk
  have hik := hi k hk
  unfold f_X10_fullDensity fulN
  simp (disch := omega) only [↓nx_q, zb0_s, zb1_s, zb2_s, zb3_s, zb4_s, zb5_s, zb6_s, zb7_s, zb8_s, zb9_s, zb10_s, zb11_s, zb12_s, zb13_s, zb14_s, q_lit, nI_add, pk_mul, e_cl, gi_in, gz_n0, gz_n1, e_gz, si_eq, si_ne, sa_eq, sa_ne, if_true, if_false, ↓reduceIte, k_ltT, k_ltF, k_leT, k_leF, k_eqT, k_eqF, k_m1lt, k_nm1, not_true_eq_false, not_false_eq_true, hwk.1, hwk.2.1, gn_ok, e_div]
theorem c_raise {o w d : Ob} {σ : Nat → Nat} {D : DL} {k : Nat} (ho : RCh o σ) (hw : RCw w σ) (hd : DD d D) (hi : WFi σ) (h8 : σ 2 ≤ 8) (hk : k < σ 2) (hb : (σ 3).testBit k = false) (hl : D.length < 9) : Ok (f_X8_raise o w d (nI k)) (fun p => RCh p.1 (upS σ k) ∧ DD p.2 (D ++ [(3, k, σ (16 + k))])) := by
  obtain ⟨o0, o1, o2, o3, o4⟩ := ho
  have hwk := hw.2 k hk
  have hlies := lies_up h8 hk hb
  unfold f_X8_raise
  simp (disch := omega) only [↓nx_q, zb0_s, zb1_s, zb2_s, zb3_s, zb4_s, zb5_s, zb6_s, zb7_s, zb8_s, zb9_s, zb10_s, zb11_s, zb12_s, zb13_s, zb14_s, q_lit, nI_add, pk_mul, e_cl, gi_in, gz_n0, gz_n1, e_gz, si_eq, si_ne, sa_eq, sa_ne, if_true, if_false, ↓reduceIte, k_ltT, k_ltF, k_leT, k_leF, k_eqT, k_eqF, k_m1lt, k_nm1, not_true_eq_false, not_false_eq_true, o2, o3, hwk.1, hwk.2.1, e_shl1, q_or, c_full hw hi h8 hk]
  rw [ok_zb1]
  refine ok_mono (c_add (a := 3) (b := k) (c := σ (16 + k)) hd hl) (fun d' hd' => ok_some.mpr ⟨⟨?_, ?_, ?_, ?_, fun j hj => ?_⟩, hd'⟩)
  · simp (disch := omega) only [si_eq, si_ne, sa_eq, sa_ne, upd_eq, upd_ne, updN_eq, updN_ne, o0, up_fr]
  · simp (disch := omega) only [si_eq, si_ne, sa_eq, sa_ne, upd_eq, upd_ne, updN_eq, updN_ne, o1, up_fr]
  · simp (disch := omega) only [si_eq, si_ne, sa_eq, sa_ne, upd_eq, upd_ne, updN_eq, updN_ne, up_3]
  · simp (disch := omega) only [si_eq, si_ne, sa_eq, sa_ne, upd_eq, upd_ne, updN_eq, updN_ne]
    exact congrArg nI (by omega)
  · have := o4 j hj
    rw [up_2]
    by_cases e : j = k
    · subst e
      simp (disch := omega) only [si_eq, si_ne, sa_eq, sa_ne, upd_eq, upd_ne, updN_eq, updN_ne, up_fr, up_d, up_c]
      exact ⟨trivial, this.2.1, fun _ => trivial⟩
    · simp (disch := omega) only [si_eq, si_ne, sa_eq, sa_ne, upd_eq, upd_ne, updN_eq, updN_ne, up_fr]
      exact this
theorem c_poorest {o w : Ob} {σ : Nat → Nat} (ho : RCh o σ) (hw : RCw w σ) (hv : Wv σ) : f_X8_poorestOnFast o w = some (oI (poor σ (σ 2))) := by
  obtain ⟨o0, o1, o2, o3, o4⟩ := ho
  have h8 := hv.1
  have h3 := Wv_3 hv
  have hw0 := hw.1
  unfold f_X8_poorestOnFast
  refine (zb1_of (zl2_fo (fun i => oI (poor σ i)) (fun i => nI i) (σ 2) (oI (poor σ (σ 2))) (fu_lt (by omega)) rfl rfl (fun i hi => ?_) ?_)).trans rfl
  · show _ = some (Sum.inl (oI (poor σ (i + 1)), nI (i + 1)))
    have hdi := (hv.2.2.2.2.2 i (by omega)).1
    have oi := (o4 i (by omega)).1
    by_cases q : (σ 3).testBit i = true
    · cases hp : poor σ i with
      | none =>
        rw [poor_sN q hp]
        simp (disch := omega) only [↓nx_q, zb0_s, zb1_s, zb2_s, zb3_s, zb4_s, zb5_s, zb6_s, zb7_s, zb8_s, zb9_s, zb10_s, zb11_s, zb12_s, zb13_s, zb14_s, q_lit, nI_add, pk_mul, e_cl, gi_in, gz_n0, gz_n1, e_gz, si_eq, si_ne, sa_eq, sa_ne, if_true, if_false, ↓reduceIte, k_ltT, k_ltF, k_leT, k_leF, k_eqT, k_eqF, k_m1lt, k_nm1, not_true_eq_false, not_false_eq_true, hw0, c_holds o2, if_pos q, hp, oI]
      | some p =>
        have hp1 := poor_some hp
        have hdp := (hv.2.2.2.2.2 p (by omega)).1
        have op := (o4 p (by omega)).1
        rw [poor_sS q hp]
        by_cases q2 : σ (32 + p) ≤ σ (32 + i)
        · simp (disch := omega) only [↓nx_q, zb0_s, zb1_s, zb2_s, zb3_s, zb4_s, zb5_s, zb6_s, zb7_s, zb8_s, zb9_s, zb10_s, zb11_s, zb12_s, zb13_s, zb14_s, q_lit, nI_add, pk_mul, e_cl, gi_in, gz_n0, gz_n1, e_gz, si_eq, si_ne, sa_eq, sa_ne, if_true, if_false, ↓reduceIte, k_ltT, k_ltF, k_leT, k_leF, k_eqT, k_eqF, k_m1lt, k_nm1, not_true_eq_false, not_false_eq_true, hw0, c_holds o2, if_pos q, hp, oI, if_pos q2, k_nm1, oi, op]
        · simp (disch := omega) only [↓nx_q, zb0_s, zb1_s, zb2_s, zb3_s, zb4_s, zb5_s, zb6_s, zb7_s, zb8_s, zb9_s, zb10_s, zb11_s, zb12_s, zb13_s, zb14_s, q_lit, nI_add, pk_mul, e_cl, gi_in, gz_n0, gz_n1, e_gz, si_eq, si_ne, sa_eq, sa_ne, if_true, if_false, ↓reduceIte, k_ltT, k_ltF, k_leT, k_leF, k_eqT, k_eqF, k_m1lt, k_nm1, not_true_eq_false, not_false_eq_true, hw0, c_holds o2, if_pos q, hp, oI, if_neg q2, k_nm1, oi, op]
    · rw [poor_sF q]
      simp (disch := omega) only [↓nx_q, zb0_s, zb1_s, zb2_s, zb3_s, zb4_s, zb5_s, zb6_s, zb7_s, zb8_s, zb9_s, zb10_s, zb11_s, zb12_s, zb13_s, zb14_s, q_lit, nI_add, pk_mul, e_cl, gi_in, gz_n0, gz_n1, e_gz, si_eq, si_ne, sa_eq, sa_ne, if_true, if_false, ↓reduceIte, k_ltT, k_ltF, k_leT, k_leF, k_eqT, k_eqF, k_m1lt, k_nm1, not_true_eq_false, not_false_eq_true, hw0, c_holds o2, if_neg q]
  · simp (disch := omega) only [↓nx_q, zb0_s, zb1_s, zb2_s, zb3_s, zb4_s, zb5_s, zb6_s, zb7_s, zb8_s, zb9_s, zb10_s, zb11_s, zb12_s, zb13_s, zb14_s, q_lit, nI_add, pk_mul, e_cl, gi_in, gz_n0, gz_n1, e_gz, si_eq, si_ne, sa_eq, sa_ne, if_true, if_false, ↓reduceIte, k_ltT, k_ltF, k_leT, k_leF, k_eqT, k_eqF, k_m1lt, k_nm1, not_true_eq_false, not_false_eq_true, hw0]
theorem c_sinkAll {o w : Ob} {σ : Nat → Nat} {b : Nat} (ho : RCh o σ) (hw : RCw w σ) (hv : Wv σ) (hb : ∀ k, k < σ 2 → (σ 3).testBit k = true → b ≤ σ (32 + k)) : Ok (f_X8_sinkAll o w (nI b)) (fun o' => RCh o' (snkI σ b (σ 2))) := by
  have h8 := hv.1
  have h3 := Wv_3 hv
  have hw0 := hw.1
  unfold f_X8_sinkAll
  rw [ok_zb1]
  refine ok_mono (ok_zl2 (Q := fun o' => RCh o' (snkI σ b (σ 2))) (fun i o' k => k = nI i ∧ RCh o' (snkI σ b i)) (σ 2) (fun i o' k hi hI => ?_) (fu_lt (by omega)) ⟨rfl, ho⟩) (fun y hy => ok_some.mpr hy)
  obtain ⟨rfl, hR⟩ := hI
  have hR' := hR
  obtain ⟨o0, o1, o2, o3, o4⟩ := hR'
  have e3 : snkI σ b i 3 = σ 3 := snkI_fr (by omega)
  rw [e3] at o2
  by_cases q : i = σ 2
  · subst q
    simp (disch := omega) only [↓nx_q, zb0_s, zb1_s, zb2_s, zb3_s, zb4_s, zb5_s, zb6_s, zb7_s, zb8_s, zb9_s, zb10_s, zb11_s, zb12_s, zb13_s, zb14_s, q_lit, nI_add, pk_mul, e_cl, gi_in, gz_n0, gz_n1, e_gz, si_eq, si_ne, sa_eq, sa_ne, if_true, if_false, ↓reduceIte, k_ltT, k_ltF, k_leT, k_leF, k_eqT, k_eqF, k_m1lt, k_nm1, not_true_eq_false, not_false_eq_true, hw0]
    exact ⟨_, rfl, hR⟩
  · by_cases q2 : (σ 3).testBit i = true
    · have hbi := hb i (by omega) q2
      have oi := (o4 i (by omega)).1
      have ei : snkI σ b i (32 + i) = σ (32 + i) := snkI_fr (by omega)
      rw [ei] at oi
      have hdi := (hv.2.2.2.2.2 i (by omega)).1
      simp (disch := omega) only [↓nx_q, zb0_s, zb1_s, zb2_s, zb3_s, zb4_s, zb5_s, zb6_s, zb7_s, zb8_s, zb9_s, zb10_s, zb11_s, zb12_s, zb13_s, zb14_s, q_lit, nI_add, pk_mul, e_cl, gi_in, gz_n0, gz_n1, e_gz, si_eq, si_ne, sa_eq, sa_ne, if_true, if_false, ↓reduceIte, k_ltT, k_ltF, k_leT, k_leF, k_eqT, k_eqF, k_m1lt, k_nm1, not_true_eq_false, not_false_eq_true, hw0, c_holds o2, if_pos q2, oi, e_sub]
      refine ⟨_, rfl, by omega, rfl, ?_⟩
      rw [snkI_sT q2]
      refine ⟨?_, ?_, ?_, ?_, fun j hj => ?_⟩
      · simp (disch := omega) only [si_eq, si_ne, sa_eq, sa_ne, upd_eq, upd_ne, updN_eq, updN_ne, o0]
      · simp (disch := omega) only [si_eq, si_ne, sa_eq, sa_ne, upd_eq, upd_ne, updN_eq, updN_ne, o1]
      · simp (disch := omega) only [si_eq, si_ne, sa_eq, sa_ne, upd_eq, upd_ne, updN_eq, updN_ne, o2, e3]
      · simp (disch := omega) only [si_eq, si_ne, sa_eq, sa_ne, upd_eq, upd_ne, updN_eq, updN_ne, o3]
        refine congrArg nI (lies_congr ?_ ?_).symm
        · rw [snkI_fr (by omega)]
          exact h8
        · intro j hj
          rw [updN_ne (by omega)]
      · have := o4 j hj
        by_cases e : j = i
        · subst e
          simp (disch := omega) only [si_eq, si_ne, sa_eq, sa_ne, upd_eq, upd_ne, updN_eq, updN_ne]
          exact ⟨trivial, this.2⟩
        · simp (disch := omega) only [si_eq, si_ne, sa_eq, sa_ne, upd_eq, upd_ne, updN_eq, updN_ne]
          exact this
    · simp (disch := omega) only [↓nx_q, zb0_s, zb1_s, zb2_s, zb3_s, zb4_s, zb5_s, zb6_s, zb7_s, zb8_s, zb9_s, zb10_s, zb11_s, zb12_s, zb13_s, zb14_s, q_lit, nI_add, pk_mul, e_cl, gi_in, gz_n0, gz_n1, e_gz, si_eq, si_ne, sa_eq, sa_ne, if_true, if_false, ↓reduceIte, k_ltT, k_ltF, k_leT, k_leF, k_eqT, k_eqF, k_m1lt, k_nm1, not_true_eq_false, not_false_eq_true, hw0, c_holds o2, if_neg q2]
      refine ⟨_, rfl, by omega, rfl, ?_⟩
      rw [snkI_sF q2]
      exact hR
theorem wy_s {σ : Nat → Nat} {i p : Nat} (hp : poor (wy σ i).1 ((wy σ i).1 2) = some p) : wy σ (i + 1) = if (wy σ i).1 (32 + p) = 0 then (dnS (wy σ i).1 p, (wy σ i).2 ++ [(2, p, (wy σ i).1 (8 + p))]) else (snkI (wy σ i).1 ((wy σ i).1 (32 + p)) ((wy σ i).1 2), (wy σ i).2) := by
  show wst (wy σ i) = _
  unfold wst
  rw [hp]
theorem c_makeWay {o w d : Ob} {σ : Nat → Nat} {D : DL} {need m : Nat} (ho : RCh o σ) (hw : RCw w σ) (hd : DD d D) (hv : Wv σ) (hn : need ≤ σ 0) (hm : m ≤ 16) (hs : stp σ need m) (hl : ∀ i, i < m → ¬ stp σ need i) (hD : D.length + cntB (σ 3) (σ 2) ≤ 8) : Ok (f_X8_makeWay o w d (nI need)) (fun p => RCh p.1 (wy σ m).1 ∧ DD p.2 (D ++ (wy σ m).2)) := by
  unfold f_X8_makeWay
  rw [ok_ze2]
  refine ok_mono (ok_zl3 (Q := fun y => ∃ o' d', (y = Sum.inl (o', d') ∨ y = Sum.inr (o', d')) ∧ RCh o' (wy σ m).1 ∧ DD d' (D ++ (wy σ m).2)) (fun i o' d' k => k = nI i ∧ RCh o' (wy σ i).1 ∧ DD d' (D ++ (wy σ i).2)) m (fun i o' d' k hi hI => ?_) (fu_lt (by omega)) ⟨rfl, ho, by rw [show (wy σ 0).2 = [] from rfl, List.append_nil]; exact hd⟩) (fun y hy => ?_)
  · obtain ⟨rfl, hR, hDD⟩ := hI
    have hvi := Wv_wy hv i
    have h3i := Wv_3 hvi
    have h8i := hvi.1
    have hri := hvi.2.2.1
    have hli := hvi.2.2.2.1
    have e0 : (wy σ i).1 0 = σ 0 := wy_fr hv (by decide) (by omega) i
    have hst : stp σ need i ↔ need ≤ (wy σ i).1 0 - liesN (wy σ i).1 := by
      unfold stp
      omega
    have hfree : f_X8_free o' = some (nI ((wy σ i).1 0 - liesN (wy σ i).1)) := by
      unfold f_X8_free
      rw [hR.1, hR.2.2.2.1, e_sub (by omega)]
    have hwi : RCw w (wy σ i).1 := RCw_congr hw hv.1 (fun j a b => wy_fr hv a (by omega) i)
    have hlen := wy_len hv i
    by_cases q : i = m
    · subst q
      have := hst.mp hs
      by_cases q16 : i = 16
      · subst q16
        simp (disch := omega) only [↓nx_q, zb0_s, zb1_s, zb2_s, zb3_s, zb4_s, zb5_s, zb6_s, zb7_s, zb8_s, zb9_s, zb10_s, zb11_s, zb12_s, zb13_s, zb14_s, q_lit, nI_add, pk_mul, e_cl, gi_in, gz_n0, gz_n1, e_gz, si_eq, si_ne, sa_eq, sa_ne, if_true, if_false, ↓reduceIte, k_ltT, k_ltF, k_leT, k_leF, k_eqT, k_eqF, k_m1lt, k_nm1, not_true_eq_false, not_false_eq_true]
        exact ⟨_, rfl, o', d', Or.inl rfl, hR, hDD⟩
      · simp (disch := omega) only [↓nx_q, zb0_s, zb1_s, zb2_s, zb3_s, zb4_s, zb5_s, zb6_s, zb7_s, zb8_s, zb9_s, zb10_s, zb11_s, zb12_s, zb13_s, zb14_s, q_lit, nI_add, pk_mul, e_cl, gi_in, gz_n0, gz_n1, e_gz, si_eq, si_ne, sa_eq, sa_ne, if_true, if_false, ↓reduceIte, k_ltT, k_ltF, k_leT, k_leF, k_eqT, k_eqF, k_m1lt, k_nm1, not_true_eq_false, not_false_eq_true, hfree]
        exact ⟨_, rfl, o', d', Or.inl rfl, hR, hDD⟩
    · have hns := hl i (by omega)
      have : ¬ need ≤ (wy σ i).1 0 - liesN (wy σ i).1 := fun z => hns (hst.mpr z)
      obtain ⟨p, hp⟩ := way_some hv hn hns
      have hle := c_poorest hR hwi hvi
      rw [hp] at hle
      obtain ⟨p1, p2, p3⟩ := poor_some hp
      have hdp := (hvi.2.2.2.2.2 p (by omega)).1
      have op := (hR.2.2.2.2 p (by omega)).1
      have hw1 := wy_s hp
      have hcp := cnt_pos p1 p2
      by_cases z : (wy σ i).1 (32 + p) = 0
      · rw [if_pos z] at hw1
        simp (disch := omega) only [↓nx_q, zb0_s, zb1_s, zb2_s, zb3_s, zb4_s, zb5_s, zb6_s, zb7_s, zb8_s, zb9_s, zb10_s, zb11_s, zb12_s, zb13_s, zb14_s, q_lit, nI_add, pk_mul, e_cl, gi_in, gz_n0, gz_n1, e_gz, si_eq, si_ne, sa_eq, sa_ne, if_true, if_false, ↓reduceIte, k_ltT, k_ltF, k_leT, k_leF, k_eqT, k_eqF, k_m1lt, k_nm1, not_true_eq_false, not_false_eq_true, hfree, hle, oI, op, z, k_nm1]
        rw [ok_zb2]
        refine ok_mono (c_lower hR hwi hDD hvi p1 p2 (by rw [List.length_append]; omega)) (fun y hy => ⟨_, rfl, by omega, rfl, ?_⟩)
        rw [hw1, ← List.append_assoc]
        exact hy
      · rw [if_neg z] at hw1
        simp (disch := omega) only [↓nx_q, zb0_s, zb1_s, zb2_s, zb3_s, zb4_s, zb5_s, zb6_s, zb7_s, zb8_s, zb9_s, zb10_s, zb11_s, zb12_s, zb13_s, zb14_s, q_lit, nI_add, pk_mul, e_cl, gi_in, gz_n0, gz_n1, e_gz, si_eq, si_ne, sa_eq, sa_ne, if_true, if_false, ↓reduceIte, k_ltT, k_ltF, k_leT, k_leF, k_eqT, k_eqF, k_m1lt, k_nm1, not_true_eq_false, not_false_eq_true, hfree, hle, oI, op, k_nm1]
        rw [ok_zb1]
        refine ok_mono (c_sinkAll hR hwi hvi p3) (fun y hy => ⟨_, rfl, by omega, rfl, ?_⟩)
        rw [hw1]
        exact ⟨hy, hDD⟩
  · obtain ⟨o', d', rfl | rfl, hq⟩ := hy
    · exact ⟨_, rfl, hq⟩
    · exact ⟨_, rfl, hq⟩
