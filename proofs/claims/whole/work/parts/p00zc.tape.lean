/-! ===== the tape ===== -/
theorem i8_and (y : Int32) : (y &&& nI 255).toInt8 = y.toInt8 := by
  apply Int8.toBitVec_inj.mp
  show (y.toBitVec &&& BitVec.ofNat 32 255).signExtend 8 = y.toBitVec.signExtend 8
  rw [BitVec.signExtend_eq_setWidth_of_le _ (by decide), BitVec.signExtend_eq_setWidth_of_le _ (by decide)]
  apply BitVec.eq_of_getLsbD_eq
  intro i hi
  rw [BitVec.getLsbD_setWidth, BitVec.getLsbD_setWidth, BitVec.getLsbD_and]
  have : (BitVec.ofNat 32 255).getLsbD i = true := by
    have : ∀ i : Fin 8, (BitVec.ofNat 32 255).getLsbD i.val = true := by decide
    exact this ⟨i, hi⟩
  rw [this, Bool.and_true]
def byN (v : Int32) (i : Nat) : Nat := ((v >>> (nI (24 - 8 * i) &&& nI 31)) &&& nI 255).toBitVec.toNat
theorem by_lt (v : Int32) (i : Nat) : byN v i < 256 := by
  obtain ⟨j, hj, e⟩ := pk_andE (v >>> (nI (24 - 8 * i) &&& nI 31)) (m := nI 255) 8 (by decide)
  unfold byN
  rw [e]
  show (BitVec.ofNat 32 j).toNat < 256
  rw [BitVec.toNat_ofNat]
  exact Nat.lt_of_le_of_lt (Nat.mod_le _ _) hj
theorem by_c (v : Int32) (i : Nat) : (v >>> (nI (24 - 8 * i) &&& nI 31)) &&& nI 255 = nI (byN v i) := by
  apply Int32.toBitVec_inj.mp
  show _ = BitVec.ofNat 32 _
  unfold byN
  simp
theorem by_m (v : Int32) (i : Nat) : (v >>> (nI (24 - 8 * i) &&& nI 31)).toInt8.toInt32 = (nI (byN v i)).toInt8.toInt32 := by
  rw [← by_c, i8_and]
def t4 (t : Nat → Nat) (n : Nat) (v : Int32) : Nat → Nat → Nat
  | 0 => t
  | i + 1 => updN (t4 t n v i) (n + i) (byN v i)
def TC (o : Ob) (n : Nat) (t : Nat → Nat) : Prop := o 1 0 = nI n ∧ ∀ i, i < n → t i < 256 ∧ o 0 i = nI (t i)
def TM (M : Ob) (n : Nat) (t : Nat → Nat) : Prop := M 7 0 = nI n ∧ ∀ i, i < n → M 6 i = (nI (t i)).toInt8.toInt32
def k8 (i : Nat) : Int32 := if i < 4 then nI (24 - 8 * i) else -nI 8
theorem k8_s {i : Nat} (h : i < 4) : nI (24 - 8 * i) + -nI 8 = k8 (i + 1) := by
  rcases (by omega : i = 0 ∨ i = 1 ∨ i = 2 ∨ i = 3) with rfl | rfl | rfl | rfl <;> decide
theorem c_addNumber {o : Ob} {n : Nat} {t : Nat → Nat} {v : Int32} (h : TC o n t) (hn : n + 4 ≤ 440) : Ok (f_X6_addNumber o v) (fun o' => TC o' (n + 4) (t4 t n v 4) ∧ ∀ j, j ≠ 0 → j ≠ 1 → o' j = o j) := by
  unfold f_X6_addNumber
  rw [ok_zb1]
  refine ok_mono (ok_zl2 (Q := fun o' => TC o' (n + 4) (t4 t n v 4) ∧ ∀ j, j ≠ 0 → j ≠ 1 → o' j = o j) (fun i o' kk => kk = k8 i ∧ TC o' (n + i) (t4 t n v i) ∧ ∀ j, j ≠ 0 → j ≠ 1 → o' j = o j) 4 (fun i o' kk hi hI => ?_) (fu_lt (by decide)) ⟨rfl, h, fun _ _ _ => rfl⟩) (fun y hy => ok_some.mpr hy)
  obtain ⟨rfl, ⟨h1, h2⟩, hf⟩ := hI
  by_cases q : i = 4
  · subst q
    rw [if_pos (show k8 4 < 0 by decide)]
    exact ⟨_, rfl, ⟨h1, h2⟩, hf⟩
  · rw [show k8 i = nI (24 - 8 * i) from if_pos (by omega)]
    simp (maxSteps := 3000000) (disch := omega) only [↓nx_q, zb0_s, zb1_s, zb2_s, zb3_s, zb4_s, zb5_s, zb6_s, zb7_s, zb8_s, zb9_s, zb10_s, zb11_s, zb12_s, zb13_s, zb14_s, q_lit, nI_add, pk_mul, e_cl, gi_in, gz_n0, gz_n1, e_gz, si_eq, si_ne, sa_eq, sa_ne, if_true, if_false, ↓reduceIte, k_ltT, k_ltF, k_leT, k_leF, k_eqT, k_eqF, k_m1lt, k_nm1, not_true_eq_false, not_false_eq_true, h1, by_c, k8_s (show i < 4 by omega)]
    refine ⟨_, rfl, by omega, rfl, ⟨?_, fun j hj => ?_⟩, fun j a b => ?_⟩
    · simp (disch := omega) only [si_eq, si_ne, sa_eq, sa_ne, upd_eq, upd_ne, updN_eq, updN_ne]
      exact congrArg nI (by omega)
    · show updN (t4 t n v i) (n + i) (byN v i) j < 256 ∧ _ = nI (updN (t4 t n v i) (n + i) (byN v i) j)
      by_cases e : j = n + i
      · subst e
        simp (disch := omega) only [si_eq, si_ne, sa_eq, sa_ne, upd_eq, upd_ne, updN_eq, updN_ne]
        exact ⟨by_lt v i, trivial⟩
      · simp (disch := omega) only [si_eq, si_ne, sa_eq, sa_ne, upd_eq, upd_ne, updN_eq, updN_ne]
        exact h2 j (by omega)
    · simp (disch := omega) only [si_eq, si_ne, sa_eq, sa_ne, upd_eq, upd_ne, updN_eq, updN_ne]
      exact hf j a b
theorem m_four {M : Ob} {n : Nat} {t : Nat → Nat} {v : Int32} (h : TM M n t) (hn : n + 4 ≤ 440) : Ok (f_X12_four M v) (fun M' => TM M' (n + 4) (t4 t n v 4) ∧ ∀ j, j ≠ 6 → j ≠ 7 → M' j = M j) := by
  unfold f_X12_four
  rw [ok_zb1]
  refine ok_mono (ok_zl2 (Q := fun M' => TM M' (n + 4) (t4 t n v 4) ∧ ∀ j, j ≠ 6 → j ≠ 7 → M' j = M j) (fun i M' kk => kk = k8 i ∧ TM M' (n + i) (t4 t n v i) ∧ ∀ j, j ≠ 6 → j ≠ 7 → M' j = M j) 4 (fun i M' kk hi hI => ?_) (fu_lt (by decide)) ⟨rfl, h, fun _ _ _ => rfl⟩) (fun y hy => ok_some.mpr hy)
  obtain ⟨rfl, ⟨h1, h2⟩, hf⟩ := hI
  by_cases q : i = 4
  · subst q
    rw [if_pos (show k8 4 < 0 by decide)]
    exact ⟨_, rfl, ⟨h1, h2⟩, hf⟩
  · rw [show k8 i = nI (24 - 8 * i) from if_pos (by omega)]
    simp (maxSteps := 3000000) (disch := omega) only [↓nx_q, zb0_s, zb1_s, zb2_s, zb3_s, zb4_s, zb5_s, zb6_s, zb7_s, zb8_s, zb9_s, zb10_s, zb11_s, zb12_s, zb13_s, zb14_s, q_lit, nI_add, pk_mul, e_cl, gi_in, gz_n0, gz_n1, e_gz, si_eq, si_ne, sa_eq, sa_ne, if_true, if_false, ↓reduceIte, k_ltT, k_ltF, k_leT, k_leF, k_eqT, k_eqF, k_m1lt, k_nm1, not_true_eq_false, not_false_eq_true, h1, pk_vb, by_m, k8_s (show i < 4 by omega)]
    refine ⟨_, rfl, by omega, rfl, ⟨?_, fun j hj => ?_⟩, fun j a b => ?_⟩
    · simp (disch := omega) only [si_eq, si_ne, sa_eq, sa_ne, upd_eq, upd_ne, updN_eq, updN_ne]
      exact congrArg nI (by omega)
    · show _ = (nI (updN (t4 t n v i) (n + i) (byN v i) j)).toInt8.toInt32
      by_cases e : j = n + i
      · subst e
        simp (disch := omega) only [si_eq, si_ne, sa_eq, sa_ne, upd_eq, upd_ne, updN_eq, updN_ne]
      · simp (disch := omega) only [si_eq, si_ne, sa_eq, sa_ne, upd_eq, upd_ne, updN_eq, updN_ne]
        exact h2 j (by omega)
    · simp (disch := omega) only [si_eq, si_ne, sa_eq, sa_ne, upd_eq, upd_ne, updN_eq, updN_ne]
      exact hf j a b
theorem RTape_of {o M : Ob} {n : Nat} {t : Nat → Nat} (hn : n ≤ 440) (h1 : TC o n t) (h2 : TM M n t) : RTape o M := ⟨n, t, hn, h1.1, h2.1, fun i hi => ⟨(h1.2 i hi).1, (h1.2 i hi).2, h2.2 i hi⟩⟩
/-- the reader alone has changed -/
theorem Rel_tape {V : Nat → Ob} {PK PI : PV} {M M' : Ob} {o1 : Ob} (hR : Rel V PK PI M) (hT : RTape o1 M') (h2 : o1 2 0 = M' 13 0) (hf : ∀ j, (j < 6 ∨ 19 ≤ j) → j ≠ 3 → M' j = M j) : Rel (vu V 1 o1) PK PI M' := by
  obtain ⟨σ, g, fc, fm, ⟨hM0, hW, hRC⟩, hGC, hGM, hHi, hPl, a, b, c, d, e, f, gg⟩ := hR
  refine ⟨σ, g, fc, fm, ⟨by rw [hf 0 (by omega) (by omega)]; exact hM0, hW, ?_⟩, ?_, GM_fr hGM (hf 19 (by omega) (by omega)) (hf 20 (by omega) (by omega)) (hf 21 (by omega) (by omega)), ?_, ?_, ?_, ?_, ?_, ?_, RImg_fr e (hf 1 (by omega) (by omega)) (hf 4 (by omega) (by omega)), ?_, ?_⟩
  · refine RC_un (V := vu V 1 o1) hRC ?_ ?_ ?_ ?_ ?_ ?_ ?_ <;> simp (disch := omega) only [vu_ne] <;> rfl
  · rw [vu_ne (by decide)]; exact hGC
  · rw [vu_ne (by decide)]
    exact RHist_fr hHi (hf 2 (by omega) (by omega)) (hf 5 (by omega) (by omega))
  · rw [vu_ne (by decide)]; exact hPl
  · rw [vu_eq]; exact hT
  · rw [vu_eq]; exact h2
  · rw [vu_ne (by decide), hf 39 (by omega) (by omega), hf 38 (by omega) (by omega)]; exact c
  · rw [vu_ne (by decide), hf 42 (by omega) (by omega), hf 41 (by omega) (by omega)]; exact d
  · rw [vu_ne (by decide)]; exact f
  · rw [vu_ne (by decide)]; exact gg
theorem R_feed : St_feed Rel := by
  intro V PK PI M v1 v2 v3 v4 v5 hR
  have hR0 := hR
  obtain ⟨σ, g, fc, fm, ⟨hM0, hW, hRC⟩, hGC, hGM, hHi, hPl, ⟨n, t, hn, h1, h2, h3⟩, hfa, -⟩ := hR0
  by_cases q : n + 20 ≤ 440
  · have c0 : TC (V 1) n t := ⟨h1, fun i hi => ⟨(h3 i hi).1, (h3 i hi).2.1⟩⟩
    have m0 : TM M n t := ⟨h2, fun i hi => (h3 i hi).2.2⟩
    obtain ⟨o1, e1, c1, f1⟩ := c_addNumber (v := v1) c0 (by omega)
    obtain ⟨o2, e2, c2, f2⟩ := c_addNumber (v := v2) c1 (by omega)
    obtain ⟨o3, e3, c3, f3⟩ := c_addNumber (v := v3) c2 (by omega)
    obtain ⟨o4, e4, c4, f4⟩ := c_addNumber (v := v4) c3 (by omega)
    obtain ⟨o5, e5, c5, f5⟩ := c_addNumber (v := v5) c4 (by omega)
    obtain ⟨M1, d1, m1, g1⟩ := m_four (v := v1) m0 (by omega)
    obtain ⟨M2, d2, m2, g2⟩ := m_four (v := v2) m1 (by omega)
    obtain ⟨M3, d3, m3, g3⟩ := m_four (v := v3) m2 (by omega)
    obtain ⟨M4, d4, m4, g4⟩ := m_four (v := v4) m3 (by omega)
    obtain ⟨M5, d5, m5, g5⟩ := m_four (v := v5) m4 (by omega)
    have hh : f_X6_hasPlaceFor (V 1) (nI 20) = some (nI 1) := by
      unfold f_X6_hasPlaceFor
      simp (maxSteps := 3000000) (disch := omega) only [↓nx_q, zb0_s, zb1_s, zb2_s, zb3_s, zb4_s, zb5_s, zb6_s, zb7_s, zb8_s, zb9_s, zb10_s, zb11_s, zb12_s, zb13_s, zb14_s, q_lit, nI_add, pk_mul, e_cl, gi_in, gz_n0, gz_n1, e_gz, si_eq, si_ne, sa_eq, sa_ne, if_true, if_false, ↓reduceIte, k_ltT, k_ltF, k_leT, k_leF, k_eqT, k_eqF, k_m1lt, k_nm1, not_true_eq_false, not_false_eq_true, h1]
    refine ⟨vu V 1 o5, PK, PI, M5, nI (n + 4 + 4 + 4 + 4 + 4), ?_, ?_, Rel_tape hR (RTape_of (by omega) c5 m5) ?_ (fun j a b => ?_)⟩
    · unfold g_feed f_X11_feed
      simp (maxSteps := 3000000) (disch := omega) only [↓nx_q, zb0_s, zb1_s, zb2_s, zb3_s, zb4_s, zb5_s, zb6_s, zb7_s, zb8_s, zb9_s, zb10_s, zb11_s, zb12_s, zb13_s, zb14_s, q_lit, nI_add, pk_mul, e_cl, gi_in, gz_n0, gz_n1, e_gz, si_eq, si_ne, sa_eq, sa_ne, if_true, if_false, ↓reduceIte, k_ltT, k_ltF, k_leT, k_leF, k_eqT, k_eqF, k_m1lt, k_nm1, not_true_eq_false, not_false_eq_true, hh, e1, e2, e3, e4, e5, c5.1]
    · unfold h_feed f_X12_feed
      simp (maxSteps := 3000000) (disch := omega) only [↓nx_q, zb0_s, zb1_s, zb2_s, zb3_s, zb4_s, zb5_s, zb6_s, zb7_s, zb8_s, zb9_s, zb10_s, zb11_s, zb12_s, zb13_s, zb14_s, q_lit, nI_add, pk_mul, e_cl, gi_in, gz_n0, gz_n1, e_gz, si_eq, si_ne, sa_eq, sa_ne, if_true, if_false, ↓reduceIte, k_ltT, k_ltF, k_leT, k_leF, k_eqT, k_eqF, k_m1lt, k_nm1, not_true_eq_false, not_false_eq_true, h2, d1, d2, d3, d4, d5, m5.1]
    · rw [f5 2 (by decide) (by decide), f4 2 (by decide) (by decide), f3 2 (by decide) (by decide), f2 2 (by decide) (by decide), f1 2 (by decide) (by decide), g5 13 (by decide) (by decide), g4 13 (by decide) (by decide), g3 13 (by decide) (by decide), g2 13 (by decide) (by decide), g1 13 (by decide) (by decide)]
      exact hfa
    · rw [g5 j (by omega) (by omega), g4 j (by omega) (by omega), g3 j (by omega) (by omega), g2 j (by omega) (by omega), g1 j (by omega) (by omega)]
  · have hh : f_X6_hasPlaceFor (V 1) (nI 20) = some (nI 0) := by
      unfold f_X6_hasPlaceFor
      simp (maxSteps := 3000000) (disch := omega) only [↓nx_q, zb0_s, zb1_s, zb2_s, zb3_s, zb4_s, zb5_s, zb6_s, zb7_s, zb8_s, zb9_s, zb10_s, zb11_s, zb12_s, zb13_s, zb14_s, q_lit, nI_add, pk_mul, e_cl, gi_in, gz_n0, gz_n1, e_gz, si_eq, si_ne, sa_eq, sa_ne, if_true, if_false, ↓reduceIte, k_ltT, k_ltF, k_leT, k_leF, k_eqT, k_eqF, k_m1lt, k_nm1, not_true_eq_false, not_false_eq_true, h1]
    refine ⟨V, PK, PI, M, -1, ?_, ?_, hR⟩
    · unfold g_feed f_X11_feed
      simp (maxSteps := 3000000) (disch := omega) only [↓nx_q, zb0_s, zb1_s, zb2_s, zb3_s, zb4_s, zb5_s, zb6_s, zb7_s, zb8_s, zb9_s, zb10_s, zb11_s, zb12_s, zb13_s, zb14_s, q_lit, nI_add, pk_mul, e_cl, gi_in, gz_n0, gz_n1, e_gz, si_eq, si_ne, sa_eq, sa_ne, if_true, if_false, ↓reduceIte, k_ltT, k_ltF, k_leT, k_leF, k_eqT, k_eqF, k_m1lt, k_nm1, not_true_eq_false, not_false_eq_true, hh, vu_self]
    · unfold h_feed f_X12_feed
      simp (maxSteps := 3000000) (disch := omega) only [↓nx_q, zb0_s, zb1_s, zb2_s, zb3_s, zb4_s, zb5_s, zb6_s, zb7_s, zb8_s, zb9_s, zb10_s, zb11_s, zb12_s, zb13_s, zb14_s, q_lit, nI_add, pk_mul, e_cl, gi_in, gz_n0, gz_n1, e_gz, si_eq, si_ne, sa_eq, sa_ne, if_true, if_false, ↓reduceIte, k_ltT, k_ltF, k_leT, k_leF, k_eqT, k_eqF, k_m1lt, k_nm1, not_true_eq_false, not_false_eq_true, h2]
theorem R_end : St_end Rel := by
  intro V PK PI M v1 hR
  have hR0 := hR
  obtain ⟨σ, g, fc, fm, ⟨hM0, hW, hRC⟩, hGC, hGM, hHi, hPl, ⟨n, t, hn, h1, h2, h3⟩, hfa, -⟩ := hR0
  rcases q_rng v1 (n := n + 1) (by omega) with ⟨k, hk, rfl⟩ | ho
  · refine ⟨vu V 1 (si (V 1) 1 (nI k)), PK, PI, si M 7 (nI k), nI 1, ?_, ?_, Rel_tape hR ⟨k, t, by omega, si_eq _ _ _ _, si_eq _ _ _ _, fun i hi => ?_⟩ ?_ (fun j a b => ?_)⟩
    · unfold g_end f_X11_end
      simp (maxSteps := 3000000) (disch := omega) only [↓nx_q, zb0_s, zb1_s, zb2_s, zb3_s, zb4_s, zb5_s, zb6_s, zb7_s, zb8_s, zb9_s, zb10_s, zb11_s, zb12_s, zb13_s, zb14_s, q_lit, nI_add, pk_mul, e_cl, gi_in, gz_n0, gz_n1, e_gz, si_eq, si_ne, sa_eq, sa_ne, if_true, if_false, ↓reduceIte, k_ltT, k_ltF, k_leT, k_leF, k_eqT, k_eqF, k_m1lt, k_nm1, not_true_eq_false, not_false_eq_true, h1]
    · unfold h_end f_X12_end
      simp (maxSteps := 3000000) (disch := omega) only [↓nx_q, zb0_s, zb1_s, zb2_s, zb3_s, zb4_s, zb5_s, zb6_s, zb7_s, zb8_s, zb9_s, zb10_s, zb11_s, zb12_s, zb13_s, zb14_s, q_lit, nI_add, pk_mul, e_cl, gi_in, gz_n0, gz_n1, e_gz, si_eq, si_ne, sa_eq, sa_ne, if_true, if_false, ↓reduceIte, k_ltT, k_ltF, k_leT, k_leF, k_eqT, k_eqF, k_m1lt, k_nm1, not_true_eq_false, not_false_eq_true, h2]
    · simp (disch := omega) only [si_eq, si_ne, sa_eq, sa_ne, upd_eq, upd_ne, updN_eq, updN_ne]
      exact h3 i (by omega)
    · simp (disch := omega) only [si_eq, si_ne, sa_eq, sa_ne, upd_eq, upd_ne, updN_eq, updN_ne]
      exact hfa
    · rw [si_ne (by omega)]
  · refine ⟨V, PK, PI, M, nI 0, ?_, ?_, hR⟩
    · unfold g_end f_X11_end
      rcases ho with h | h
      · simp (maxSteps := 3000000) (disch := omega) only [↓nx_q, zb0_s, zb1_s, zb2_s, zb3_s, zb4_s, zb5_s, zb6_s, zb7_s, zb8_s, zb9_s, zb10_s, zb11_s, zb12_s, zb13_s, zb14_s, q_lit, nI_add, pk_mul, e_cl, gi_in, gz_n0, gz_n1, e_gz, si_eq, si_ne, sa_eq, sa_ne, if_true, if_false, ↓reduceIte, k_ltT, k_ltF, k_leT, k_leF, k_eqT, k_eqF, k_m1lt, k_nm1, not_true_eq_false, not_false_eq_true, o_neg h, vu_self]
      · have := o_big2 (b := n) (by omega) h
        simp (maxSteps := 3000000) (disch := omega) only [↓nx_q, zb0_s, zb1_s, zb2_s, zb3_s, zb4_s, zb5_s, zb6_s, zb7_s, zb8_s, zb9_s, zb10_s, zb11_s, zb12_s, zb13_s, zb14_s, q_lit, nI_add, pk_mul, e_cl, gi_in, gz_n0, gz_n1, e_gz, si_eq, si_ne, sa_eq, sa_ne, if_true, if_false, ↓reduceIte, k_ltT, k_ltF, k_leT, k_leF, k_eqT, k_eqF, k_m1lt, k_nm1, not_true_eq_false, not_false_eq_true, h1, this.2.2.1, this.2.2.2, vu_self]
    · unfold h_end f_X12_end
      rcases ho with h | h
      · simp (maxSteps := 3000000) (disch := omega) only [↓nx_q, zb0_s, zb1_s, zb2_s, zb3_s, zb4_s, zb5_s, zb6_s, zb7_s, zb8_s, zb9_s, zb10_s, zb11_s, zb12_s, zb13_s, zb14_s, q_lit, nI_add, pk_mul, e_cl, gi_in, gz_n0, gz_n1, e_gz, si_eq, si_ne, sa_eq, sa_ne, if_true, if_false, ↓reduceIte, k_ltT, k_ltF, k_leT, k_leF, k_eqT, k_eqF, k_m1lt, k_nm1, not_true_eq_false, not_false_eq_true, o_neg h]
      · have := o_big2 (b := n) (by omega) h
        simp (maxSteps := 3000000) (disch := omega) only [↓nx_q, zb0_s, zb1_s, zb2_s, zb3_s, zb4_s, zb5_s, zb6_s, zb7_s, zb8_s, zb9_s, zb10_s, zb11_s, zb12_s, zb13_s, zb14_s, q_lit, nI_add, pk_mul, e_cl, gi_in, gz_n0, gz_n1, e_gz, si_eq, si_ne, sa_eq, sa_ne, if_true, if_false, ↓reduceIte, k_ltT, k_ltF, k_leT, k_leF, k_eqT, k_eqF, k_m1lt, k_nm1, not_true_eq_false, not_false_eq_true, h2, this.2.2.1, this.2.2.2]
