/-! ===== whole states: alike rows, copies ===== -/
/-- alike where it counts -/
def Al (σ τ : Nat → Nat) : Prop := ∀ j, j ≠ 4 → j ≠ 5 → j ≠ 6 → j < 544 → τ j = σ j
theorem Al_jn (σ π : Nat → Nat) : Al σ (jn σ π) := fun _ a b c d => jn_l a b c d
theorem WF_al {σ τ : Nat → Nat} (h : WF σ) (e : Al σ τ) : WF τ := by
  obtain ⟨w1, w2, w3, w4, w5, w6, w7⟩ := h
  have e2 : τ 2 = σ 2 := e 2 (by decide) (by decide) (by decide) (by decide)
  have e3 : τ 3 = σ 3 := e 3 (by decide) (by decide) (by decide) (by decide)
  have e0 : τ 0 = σ 0 := e 0 (by decide) (by decide) (by decide) (by decide)
  have e1 : τ 1 = σ 1 := e 1 (by decide) (by decide) (by decide) (by decide)
  have e7 : τ 7 = σ 7 := e 7 (by decide) (by decide) (by decide) (by decide)
  have eh : ∀ j, 8 ≤ j → j < 544 → τ j = σ j := fun j a b => e j (by omega) (by omega) (by omega) b
  have h8 := w1.1
  refine ⟨?_, by rw [e1]; exact w2, by rw [e7]; exact w3, ?_, ?_, WFn_congr w6 h8 e2 (fun j a b => eh j (by omega) (by omega)), ?_⟩
  · obtain ⟨a, b, c, d, f, g⟩ := w1
    refine ⟨by rw [e2]; exact a, by rw [e2, e3]; exact b, by rw [e0]; exact c, ?_, ?_, ?_⟩
    · rw [e0]
      have : liesN τ = liesN σ := by
        unfold liesN
        rw [e2, e3]
        exact sumB_congr (fun _ _ => rfl) (fun j hj _ => eh (8 + j) (by omega) (by omega))
      omega
    · intro j hj
      rw [e2] at hj
      rw [eh (8 + j) (by omega) (by omega), eh (16 + j) (by omega) (by omega), eh (24 + j) (by omega) (by omega)]
      exact f j hj
    · intro j hj
      rw [e3, eh (32 + j) (by omega) (by omega)]
      exact g j hj
  · intro j hj
    rw [e7, e2, eh (48 + j) (by omega) (by omega)]
    exact w4 j hj
  · intro j hj
    rw [e2] at hj
    rw [eh (40 + j) (by omega) (by omega)]
    exact w5 j hj
  · intro i hi
    rw [e7] at hi
    have hl := w7 i hi
    rw [eh (104 + i) (by omega) (by omega), eh (144 + i) (by omega) (by omega), eh (184 + i) (by omega) (by omega), e2]
    refine ⟨hl.1, hl.2.1, hl.2.2.1, fun x hx => ?_⟩
    rw [eh (224 + 8 * i + x) (by omega) (by omega)]
    exact hl.2.2.2 x hx
theorem RCh_al {o : Ob} {σ τ : Nat → Nat} (h : RCh o σ) (h8 : σ 2 ≤ 8) (e : Al σ τ) : RCh o τ := by
  have e2 : τ 2 = σ 2 := e 2 (by decide) (by decide) (by decide) (by decide)
  have e3 : τ 3 = σ 3 := e 3 (by decide) (by decide) (by decide) (by decide)
  obtain ⟨a, b, c, d, f⟩ := h
  refine ⟨by rw [e 0 (by decide) (by decide) (by decide) (by decide)]; exact a, by rw [e 1 (by decide) (by decide) (by decide) (by decide)]; exact b, by rw [e3]; exact c, ?_, fun j hj => ?_⟩
  · rw [d]
    refine congrArg nI ?_
    unfold liesN
    rw [e2, e3]
    exact sumB_congr (fun _ _ => rfl) (fun j hj _ => (e (8 + j) (by omega) (by omega) (by omega) (by omega)).symm)
  · rw [e2, e (32 + j) (by omega) (by omega) (by omega) (by omega), e (48 + j) (by omega) (by omega) (by omega) (by omega), e (40 + j) (by omega) (by omega) (by omega) (by omega)]
    exact f j hj
/-- from the parts of a call to the whole -/
theorem RC_of {o w s l b0 b1 b2 g : Ob} {σ : Nat → Nat} {x : PQ} (h : CS o w s l b0 b1 b2 g σ x) (hw : WF σ) : RC (v7 o w s l b0 b1 b2) (jn σ x.1) := by
  obtain ⟨c4, ⟨⟨c5, c6⟩, r0, r1, r2, hg, hB⟩, cw, ch, cl⟩ := h
  have e := Al_jn σ x.1
  have eB : ∀ j, 544 ≤ j → jn σ x.1 j = x.1 j := fun j hj => jn_r hj
  refine ⟨⟨?_, ?_, ?_⟩, RCw_congr cw hw.1.1 (fun j _ hj => e j (by omega) (by omega) (by omega) (by omega)), RCh_al ch hw.1.1 e, RCl_congr cl hw.2.2.1 (fun j hj => e j (by omega) (by omega) (by omega) (by omega)), RCb_congr r0 (fun j h1 h2 => eB j (by omega)) (fun j h1 h2 => eB j (by omega)), RCb_congr r1 (fun j h1 h2 => eB j (by omega)) (fun j h1 h2 => eB j (by omega)), RCb_congr r2 (fun j h1 h2 => eB j (by omega)) (fun j h1 h2 => eB j (by omega))⟩
  · rw [jn_4]; exact c4
  · rw [jn_5]; exact c5
  · rw [jn_6]; exact c6
theorem RC_BW3 {u : Nat → Ob} {σ : Nat → Nat} (h : RC u σ) : BW3 σ := by
  intro b hb
  rcases (by omega : b = 0 ∨ b = 1 ∨ b = 2) with rfl | rfl | rfl
  · exact BW_of h.2.2.2.2.1
  · exact BW_of h.2.2.2.2.2.1
  · exact BW_of h.2.2.2.2.2.2
theorem CS_of {u : Nat → Ob} {g : Ob} {σ : Nat → Nat} {n : Nat} {fl : Bool} (h : RC u σ) (hg : GC g n fl) : CS (u 0) (u 1) (u 2) (u 3) (u 4) (u 5) (u 6) g σ (σ, n, fl) := ⟨h.1.1, ⟨h.1.2, h.2.2.2.2.1, h.2.2.2.2.2.1, h.2.2.2.2.2.2, hg, RC_BW3 h⟩, h.2.1, h.2.2.1, h.2.2.2.1⟩
theorem MS_of {M : Ob} {u : Nat → Ob} {σ : Nat → Nat} {n : Nat} {fl : Bool} (hM : M 0 = rw σ) (h : RC u σ) (hg : GM M n fl) : MS M σ (σ, n, fl) := ⟨by rw [jn_self]; exact hM, hg, RC_BW3 h⟩
/-- rows that are alike in all their cells -/
theorem RC_all {u : Nat → Ob} {σ τ : Nat → Nat} (h : RC u σ) (hw : WF σ) (e : ∀ j, j < 835 → τ j = σ j) : RC u τ := by
  obtain ⟨⟨a, b, c⟩, rw, rh, rl, r0, r1, r2⟩ := h
  refine ⟨⟨by rw [e 4 (by decide)]; exact a, by rw [e 5 (by decide)]; exact b, by rw [e 6 (by decide)]; exact c⟩, RCw_congr rw hw.1.1 (fun j _ hj => e j (by omega)), RCh_al rh hw.1.1 (fun j _ _ _ hj => e j (by omega)), RCl_congr rl hw.2.2.1 (fun j hj => e j (by omega)), RCb_congr r0 (fun j h1 h2 => e j (by omega)) (fun j h1 h2 => e j (by omega)), RCb_congr r1 (fun j h1 h2 => e j (by omega)) (fun j h1 h2 => e j (by omega)), RCb_congr r2 (fun j h1 h2 => e j (by omega)) (fun j h1 h2 => e j (by omega))⟩
/-! copies -/
theorem c_cpW {o p : Ob} {σ : Nat → Nat} (h : RCw p σ) (h8 : σ 2 ≤ 8) : Ok (f_X10_copyFrom o p) (fun o' => RCw o' σ) := by
  unfold f_X10_copyFrom
  simp (maxSteps := 3000000) (disch := omega) only [↓nx_q, zb0_s, zb1_s, zb2_s, zb3_s, zb4_s, zb5_s, zb6_s, zb7_s, zb8_s, zb9_s, zb10_s, zb11_s, zb12_s, zb13_s, zb14_s, q_lit, nI_add, pk_mul, e_cl, gi_in, gz_n0, gz_n1, e_gz, si_eq, si_ne, sa_eq, sa_ne, if_true, if_false, ↓reduceIte, k_ltT, k_ltF, k_leT, k_leF, k_eqT, k_eqF, k_m1lt, k_nm1, not_true_eq_false, not_false_eq_true, gc_in]
  refine ⟨_, rfl, ?_, fun k hk => ?_⟩
  · simp (disch := omega) only [si_eq, si_ne, sa_eq, sa_ne, upd_eq, upd_ne, updN_eq, updN_ne, h.1]
  · simp (disch := omega) only [si_eq, si_ne, sa_eq, sa_ne, upd_eq, upd_ne, updN_eq, updN_ne, pk_cpy_in, Nat.sub_zero, Nat.zero_add]
    exact h.2 k hk
theorem c_cpH {o p : Ob} {σ : Nat → Nat} (h : RCh p σ) : Ok (f_X8_copyFrom o p) (fun o' => RCh o' σ) := by
  unfold f_X8_copyFrom
  simp (maxSteps := 3000000) (disch := omega) only [↓nx_q, zb0_s, zb1_s, zb2_s, zb3_s, zb4_s, zb5_s, zb6_s, zb7_s, zb8_s, zb9_s, zb10_s, zb11_s, zb12_s, zb13_s, zb14_s, q_lit, nI_add, pk_mul, e_cl, gi_in, gz_n0, gz_n1, e_gz, si_eq, si_ne, sa_eq, sa_ne, if_true, if_false, ↓reduceIte, k_ltT, k_ltF, k_leT, k_leF, k_eqT, k_eqF, k_m1lt, k_nm1, not_true_eq_false, not_false_eq_true, gc_in]
  refine ⟨_, rfl, ?_, ?_, ?_, ?_, fun k hk => ?_⟩
  · simp (disch := omega) only [si_eq, si_ne, sa_eq, sa_ne, upd_eq, upd_ne, updN_eq, updN_ne, h.1]
  · simp (disch := omega) only [si_eq, si_ne, sa_eq, sa_ne, upd_eq, upd_ne, updN_eq, updN_ne, h.2.1]
  · simp (disch := omega) only [si_eq, si_ne, sa_eq, sa_ne, upd_eq, upd_ne, updN_eq, updN_ne, h.2.2.1]
  · simp (disch := omega) only [si_eq, si_ne, sa_eq, sa_ne, upd_eq, upd_ne, updN_eq, updN_ne, h.2.2.2.1]
  · simp (disch := omega) only [si_eq, si_ne, sa_eq, sa_ne, upd_eq, upd_ne, updN_eq, updN_ne, pk_cpy_in, Nat.sub_zero, Nat.zero_add]
    exact h.2.2.2.2 k hk
theorem c_cpL {o p : Ob} {σ : Nat → Nat} (h : RCl p σ) (h7 : σ 7 ≤ 40) : Ok (f_X4_copyFrom o p) (fun o' => RCl o' σ) := by
  have h0 := h.1
  unfold f_X4_copyFrom
  simp (maxSteps := 3000000) (disch := omega) only [↓nx_q, zb0_s, zb1_s, zb2_s, zb3_s, zb4_s, zb5_s, zb6_s, zb7_s, zb8_s, zb9_s, zb10_s, zb11_s, zb12_s, zb13_s, zb14_s, q_lit, nI_add, pk_mul, e_cl, gi_in, gz_n0, gz_n1, e_gz, si_eq, si_ne, sa_eq, sa_ne, if_true, if_false, ↓reduceIte, k_ltT, k_ltF, k_leT, k_leF, k_eqT, k_eqF, k_m1lt, k_nm1, not_true_eq_false, not_false_eq_true, h0, gc_in]
  refine ⟨_, rfl, ?_, fun i hi => ?_⟩
  · simp (disch := omega) only [si_eq, si_ne, sa_eq, sa_ne, upd_eq, upd_ne, updN_eq, updN_ne]
  · have hi' := h.2 i hi
    simp (disch := omega) only [si_eq, si_ne, sa_eq, sa_ne, upd_eq, upd_ne, updN_eq, updN_ne, pk_cpy_in, Nat.sub_zero, Nat.zero_add]
    refine ⟨hi'.1, hi'.2.1, hi'.2.2.1, fun x hx => ?_⟩
    rw [pk_cpy_in (by omega) (by omega), Nat.sub_zero, Nat.zero_add]
    exact hi'.2.2.2 x hx
theorem c_cpB {o p : Ob} {σ : Nat → Nat} {b : Nat} (h : RCb p σ b) : Ok (f_X0_copyFrom o p) (fun o' => RCb o' σ b) := by
  unfold f_X0_copyFrom
  rcases h with ⟨h0, h1, h2⟩ | ⟨h0, h1, h2, h3, h4, h5, h6, h7, h8, h9, h10, h11⟩
  · simp (maxSteps := 3000000) (disch := omega) only [↓nx_q, zb0_s, zb1_s, zb2_s, zb3_s, zb4_s, zb5_s, zb6_s, zb7_s, zb8_s, zb9_s, zb10_s, zb11_s, zb12_s, zb13_s, zb14_s, q_lit, nI_add, pk_mul, e_cl, gi_in, gz_n0, gz_n1, e_gz, si_eq, si_ne, sa_eq, sa_ne, if_true, if_false, ↓reduceIte, k_ltT, k_ltF, k_leT, k_leF, k_eqT, k_eqF, k_m1lt, k_nm1, not_true_eq_false, not_false_eq_true, h1, h2, gc_in]
    refine ⟨_, rfl, Or.inl ⟨h0, ?_, ?_⟩⟩
    · simp (disch := omega) only [si_eq, si_ne, sa_eq, sa_ne, upd_eq, upd_ne, updN_eq, updN_ne]
    · simp (disch := omega) only [si_eq, si_ne, sa_eq, sa_ne, upd_eq, upd_ne, updN_eq, updN_ne]
  · simp (maxSteps := 3000000) (disch := omega) only [↓nx_q, zb0_s, zb1_s, zb2_s, zb3_s, zb4_s, zb5_s, zb6_s, zb7_s, zb8_s, zb9_s, zb10_s, zb11_s, zb12_s, zb13_s, zb14_s, q_lit, nI_add, pk_mul, e_cl, gi_in, gz_n0, gz_n1, e_gz, si_eq, si_ne, sa_eq, sa_ne, if_true, if_false, ↓reduceIte, k_ltT, k_ltF, k_leT, k_leF, k_eqT, k_eqF, k_m1lt, k_nm1, not_true_eq_false, not_false_eq_true, h1, h7, gc_in]
    refine ⟨_, rfl, Or.inr ⟨h0, ?_, h2, h3, h4, ?_, ?_, ?_, ?_, ?_, ?_, fun i hi => ?_⟩⟩
    · simp (disch := omega) only [si_eq, si_ne, sa_eq, sa_ne, upd_eq, upd_ne, updN_eq, updN_ne]
    · simp (disch := omega) only [si_eq, si_ne, sa_eq, sa_ne, upd_eq, upd_ne, updN_eq, updN_ne, h5]
    · simp (disch := omega) only [si_eq, si_ne, sa_eq, sa_ne, upd_eq, upd_ne, updN_eq, updN_ne, h6]
    · simp (disch := omega) only [si_eq, si_ne, sa_eq, sa_ne, upd_eq, upd_ne, updN_eq, updN_ne]
    · simp (disch := omega) only [si_eq, si_ne, sa_eq, sa_ne, upd_eq, upd_ne, updN_eq, updN_ne, h8]
    · simp (disch := omega) only [si_eq, si_ne, sa_eq, sa_ne, upd_eq, upd_ne, updN_eq, updN_ne, h9]
    · simp (disch := omega) only [si_eq, si_ne, sa_eq, sa_ne, upd_eq, upd_ne, updN_eq, updN_ne, h10]
    · simp (disch := omega) only [si_eq, si_ne, sa_eq, sa_ne, upd_eq, upd_ne, updN_eq, updN_ne, pk_cpy_in, Nat.sub_zero, Nat.zero_add]
      exact h11 i hi
theorem loop3 {χ : Type} {a0 a1 a2 a0' a1' a2' : Ob} {B : Ob → Ob → Ob → Int32 → Option ((Ob × Ob × Ob × Int32) ⊕ (Ob × Ob × Ob))} {f : Ob → Ob → Ob → Option χ} {Q : χ → Prop} (s0 : B a0 a1 a2 (nI 0) = some (Sum.inl (a0', a1, a2, nI 1))) (s1 : B a0' a1 a2 (nI 1) = some (Sum.inl (a0', a1', a2, nI 2))) (s2 : B a0' a1' a2 (nI 2) = some (Sum.inl (a0', a1', a2', nI 3))) (s3 : B a0' a1' a2' (nI 3) = some (Sum.inr (a0', a1', a2'))) (hQ : Ok (f a0' a1' a2') Q) : Ok (zb3 (zl4 B FU a0 a1 a2 (nI 0)) f) Q := by
  have : zl4 B FU a0 a1 a2 (nI 0) = some (a0', a1', a2') := zl4_fo (fun j => if j = 0 then a0 else a0') (fun j => if j ≤ 1 then a1 else a1') (fun j => if j ≤ 2 then a2 else a2') (fun j => nI j) 3 _ (fu_lt (by decide)) rfl rfl rfl rfl (fun j hj => by
    rcases (by omega : j = 0 ∨ j = 1 ∨ j = 2) with rfl | rfl | rfl
    · exact s0
    · exact s1
    · exact s2) s3
  rw [zb3_of this]
  exact hQ
theorem c_copy {d0 d1 d2 d3 d4 d5 d6 : Ob} {u : Nat → Ob} {σ : Nat → Nat} (h : RC u σ) (h8 : σ 2 ≤ 8) (h7 : σ 7 ≤ 40) : Ok (f_X9_copyFrom d0 d1 d2 d3 d4 d5 d6 (u 0) (u 1) (u 2) (u 3) (u 4) (u 5) (u 6)) (fun y => RC (v7 y.1 y.2.1 y.2.2.1 y.2.2.2.1 y.2.2.2.2.1 y.2.2.2.2.2.1 y.2.2.2.2.2.2) σ) := by
  obtain ⟨rs, rw, rh, rl, r0, r1, r2⟩ := h
  obtain ⟨b0, e0, q0⟩ := c_cpB (o := d4) r0
  obtain ⟨b1, e1, q1⟩ := c_cpB (o := d5) r1
  obtain ⟨b2, e2, q2⟩ := c_cpB (o := d6) r2
  unfold f_X9_copyFrom
  rw [ok_zb1]
  refine ok_mono (c_cpW rw h8) (fun w' hw' => ?_)
  rw [ok_zb1]
  refine ok_mono (c_cpH rh) (fun s' hs' => ?_)
  rw [ok_zb1]
  refine ok_mono (c_cpL rl h7) (fun l' hl' => ?_)
  rw [nx_eq, nx_eq, nx_eq]
  refine loop3 (a0' := b0) (a1' := b1) (a2' := b2) ?_ ?_ ?_ ?_ ?_
  · simp (maxSteps := 3000000) (disch := omega) only [↓nx_q, zb0_s, zb1_s, zb2_s, zb3_s, zb4_s, zb5_s, zb6_s, zb7_s, zb8_s, zb9_s, zb10_s, zb11_s, zb12_s, zb13_s, zb14_s, q_lit, nI_add, pk_mul, e_cl, gi_in, gz_n0, gz_n1, e_gz, si_eq, si_ne, sa_eq, sa_ne, if_true, if_false, ↓reduceIte, k_ltT, k_ltF, k_leT, k_leF, k_eqT, k_eqF, k_m1lt, k_nm1, not_true_eq_false, not_false_eq_true, e0]
  · simp (maxSteps := 3000000) (disch := omega) only [↓nx_q, zb0_s, zb1_s, zb2_s, zb3_s, zb4_s, zb5_s, zb6_s, zb7_s, zb8_s, zb9_s, zb10_s, zb11_s, zb12_s, zb13_s, zb14_s, q_lit, nI_add, pk_mul, e_cl, gi_in, gz_n0, gz_n1, e_gz, si_eq, si_ne, sa_eq, sa_ne, if_true, if_false, ↓reduceIte, k_ltT, k_ltF, k_leT, k_leF, k_eqT, k_eqF, k_m1lt, k_nm1, not_true_eq_false, not_false_eq_true, e1]
  · simp (maxSteps := 3000000) (disch := omega) only [↓nx_q, zb0_s, zb1_s, zb2_s, zb3_s, zb4_s, zb5_s, zb6_s, zb7_s, zb8_s, zb9_s, zb10_s, zb11_s, zb12_s, zb13_s, zb14_s, q_lit, nI_add, pk_mul, e_cl, gi_in, gz_n0, gz_n1, e_gz, si_eq, si_ne, sa_eq, sa_ne, if_true, if_false, ↓reduceIte, k_ltT, k_ltF, k_leT, k_leF, k_eqT, k_eqF, k_m1lt, k_nm1, not_true_eq_false, not_false_eq_true, e2]
  · simp (maxSteps := 3000000) (disch := omega) only [↓nx_q, zb0_s, zb1_s, zb2_s, zb3_s, zb4_s, zb5_s, zb6_s, zb7_s, zb8_s, zb9_s, zb10_s, zb11_s, zb12_s, zb13_s, zb14_s, q_lit, nI_add, pk_mul, e_cl, gi_in, gz_n0, gz_n1, e_gz, si_eq, si_ne, sa_eq, sa_ne, if_true, if_false, ↓reduceIte, k_ltT, k_ltF, k_leT, k_leF, k_eqT, k_eqF, k_m1lt, k_nm1, not_true_eq_false, not_false_eq_true]
  · refine ok_some.mpr ⟨⟨?_, ?_, ?_⟩, hw', hs', hl', q0, q1, q2⟩
    · show si (si (si d0 4 (u 0 4 0)) 5 (u 0 5 0)) 6 (u 0 6 0) 4 0 = _
      simp (disch := omega) only [si_eq, si_ne, sa_eq, sa_ne, upd_eq, upd_ne, updN_eq, updN_ne, rs.1]
    · show si (si (si d0 4 (u 0 4 0)) 5 (u 0 5 0)) 6 (u 0 6 0) 5 0 = _
      simp (disch := omega) only [si_eq, si_ne, sa_eq, sa_ne, upd_eq, upd_ne, updN_eq, updN_ne, rs.2.1]
    · show si (si (si d0 4 (u 0 4 0)) 5 (u 0 5 0)) 6 (u 0 6 0) 6 0 = _
      simp (disch := omega) only [si_eq, si_ne, sa_eq, sa_ne, upd_eq, upd_ne, updN_eq, updN_ne, rs.2.2]
