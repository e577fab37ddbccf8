/-! ===== ROOM, RULE anew ===== -/
theorem e_bv {f k : Nat} (hf : f < 2147483648) (hk : k < 32) : (nI f >>> (nI k &&& nI 31)) &&& nI 1 = nI (if f.testBit k = true then 1 else 0) := by
  rw [q_31 (by omega), q_shr hf (by omega), q_and, show (1 : Nat) = 2 ^ 1 - 1 from rfl, Nat.and_two_pow_sub_one_eq_mod, Nat.testBit_eq_decide_div_mod_eq]
  have := Nat.mod_lt (f / 2 ^ k) (show 0 < 2 by decide)
  by_cases h : f / 2 ^ k % 2 = 1
  · simp [h]
  · have h0 : f / 2 ^ k % 2 = 0 := by omega
    simp [h0]
theorem m_ones {f : Nat} (hf : f < 2147483648) : f_X12_ones (nI f) = some (nI (cntB f 32)) := by
  unfold f_X12_ones
  refine (zb1_of (zl2_fo (fun i => nI (cntB f i)) (fun i => nI i) 32 (nI (cntB f 32)) (fu_lt (by decide)) rfl rfl (fun i hi => ?_) ?_)).trans rfl
  · simp (maxSteps := 3000000) (disch := omega) only [↓nx_q, zb0_s, zb1_s, zb2_s, zb3_s, zb4_s, zb5_s, zb6_s, zb7_s, zb8_s, zb9_s, zb10_s, zb11_s, zb12_s, zb13_s, zb14_s, q_lit, nI_add, pk_mul, e_cl, gi_in, gz_n0, gz_n1, e_gz, si_eq, si_ne, sa_eq, sa_ne, if_true, if_false, ↓reduceIte, k_ltT, k_ltF, k_leT, k_leF, k_eqT, k_eqF, k_m1lt, k_nm1, not_true_eq_false, not_false_eq_true, e_bv]
    rfl
  · simp (maxSteps := 3000000) (disch := omega) only [↓nx_q, zb0_s, zb1_s, zb2_s, zb3_s, zb4_s, zb5_s, zb6_s, zb7_s, zb8_s, zb9_s, zb10_s, zb11_s, zb12_s, zb13_s, zb14_s, q_lit, nI_add, pk_mul, e_cl, gi_in, gz_n0, gz_n1, e_gz, si_eq, si_ne, sa_eq, sa_ne, if_true, if_false, ↓reduceIte, k_ltT, k_ltF, k_leT, k_leF, k_eqT, k_eqF, k_m1lt, k_nm1, not_true_eq_false, not_false_eq_true]
theorem bc_all : ∀ f : Fin 256, f_J6_bitCount_0f7a4 (nI f.val) = some (nI (cntB f.val 32)) := by decide +kernel
theorem c_bitCount {f : Nat} (hf : f < 256) : f_J6_bitCount_0f7a4 (nI f) = some (nI (cntB f 32)) := bc_all ⟨f, hf⟩
def emI (b : Nat → Nat) : Nat → Nat → Nat
  | 0 => b
  | i + 1 => updN (updN (updN (emI b i) (32 + i) 0) (40 + i) 0) (48 + i) 0
theorem emI_fr {b : Nat → Nat} {j : Nat} : ∀ {i : Nat}, i ≤ 8 → j < 32 ∨ 56 ≤ j → emI b i j = b j
  | 0, _, _ => rfl
  | i + 1, hi, h => by
    show updN _ _ _ _ = _
    rw [updN_ne (by omega), updN_ne (by omega), updN_ne (by omega), emI_fr (by omega) h]
theorem emI_z {b : Nat → Nat} {k : Nat} : ∀ {i : Nat}, i ≤ 8 → k < i → emI b i (32 + k) = 0 ∧ emI b i (40 + k) = 0 ∧ emI b i (48 + k) = 0
  | 0, _, h => by omega
  | i + 1, hi, h => by
    show updN _ _ _ _ = 0 ∧ updN _ _ _ _ = 0 ∧ updN _ _ _ _ = 0
    by_cases e : k = i
    · subst e
      simp (disch := omega) only [updN_eq, updN_ne]
      exact ⟨trivial, trivial, trivial⟩
    · simp (disch := omega) only [updN_ne]
      exact emI_z (by omega) (by omega)
/-- all goes DOWN -/
def emN (σ : Nat → Nat) : Nat → Nat := emI (updN (updN σ 3 0) 7 0) 8
theorem em_fr {σ : Nat → Nat} {j : Nat} (h3 : j ≠ 3) (h7 : j ≠ 7) (h : j < 32 ∨ 56 ≤ j) : emN σ j = σ j := by
  unfold emN
  rw [emI_fr (Nat.le_refl _) h, updN_ne h7, updN_ne h3]
theorem em_3 (σ : Nat → Nat) : emN σ 3 = 0 := by
  unfold emN
  rw [emI_fr (Nat.le_refl _) (by omega), updN_ne (by decide), updN_eq]
theorem em_7 (σ : Nat → Nat) : emN σ 7 = 0 := by
  unfold emN
  rw [emI_fr (Nat.le_refl _) (by omega), updN_eq]
theorem em_z (σ : Nat → Nat) {k : Nat} (hk : k < 8) : emN σ (32 + k) = 0 ∧ emN σ (40 + k) = 0 ∧ emN σ (48 + k) = 0 := emI_z (Nat.le_refl _) hk
theorem m_empties {M : Ob} {σ : Nat → Nat} (hM : M 0 = rw σ) (h3 : σ 3 < 2147483648) : f_X12_empties M = some (sa M 0 (rw (emN σ)), nI (cntB (σ 3) 32)) := by
  unfold f_X12_empties
  simp (maxSteps := 3000000) (disch := omega) only [↓nx_q, zb0_s, zb1_s, zb2_s, zb3_s, zb4_s, zb5_s, zb6_s, zb7_s, zb8_s, zb9_s, zb10_s, zb11_s, zb12_s, zb13_s, zb14_s, q_lit, nI_add, pk_mul, e_cl, gi_in, gz_n0, gz_n1, e_gz, si_eq, si_ne, sa_eq, sa_ne, if_true, if_false, ↓reduceIte, k_ltT, k_ltF, k_leT, k_leF, k_eqT, k_eqF, k_m1lt, k_nm1, not_true_eq_false, not_false_eq_true, hM, rw_ap, upd_rw, sa_sa, jn_l, jn_r, jn_4, jn_5, jn_6, jn_ul, jn_ur, jn_u4, jn_u5, jn_u6, m_ones]
  refine (zb1_of (zl2_fo (fun i => sa M 0 (rw (emI (updN (updN σ 3 0) 7 0) i))) (fun i => nI i) 8 (sa M 0 (rw (emN σ))) (fu_lt (by decide)) rfl rfl (fun i hi => ?_) ?_)).trans rfl
  · simp (maxSteps := 3000000) (disch := omega) only [↓nx_q, zb0_s, zb1_s, zb2_s, zb3_s, zb4_s, zb5_s, zb6_s, zb7_s, zb8_s, zb9_s, zb10_s, zb11_s, zb12_s, zb13_s, zb14_s, q_lit, nI_add, pk_mul, e_cl, gi_in, gz_n0, gz_n1, e_gz, si_eq, si_ne, sa_eq, sa_ne, if_true, if_false, ↓reduceIte, k_ltT, k_ltF, k_leT, k_leF, k_eqT, k_eqF, k_m1lt, k_nm1, not_true_eq_false, not_false_eq_true, rw_ap, upd_rw, sa_sa, jn_l, jn_r, jn_4, jn_5, jn_6, jn_ul, jn_ur, jn_u4, jn_u5, jn_u6]
    rfl
  · simp (maxSteps := 3000000) (disch := omega) only [↓nx_q, zb0_s, zb1_s, zb2_s, zb3_s, zb4_s, zb5_s, zb6_s, zb7_s, zb8_s, zb9_s, zb10_s, zb11_s, zb12_s, zb13_s, zb14_s, q_lit, nI_add, pk_mul, e_cl, gi_in, gz_n0, gz_n1, e_gz, si_eq, si_ne, sa_eq, sa_ne, if_true, if_false, ↓reduceIte, k_ltT, k_ltF, k_leT, k_leF, k_eqT, k_eqF, k_m1lt, k_nm1, not_true_eq_false, not_false_eq_true]
    rfl
theorem c_begin (o : Ob) (r q : Int32) : Ok (f_X8_begin o r q) (fun o' => o' 0 0 = r ∧ o' 1 0 = q ∧ o' 2 0 = nI 0 ∧ o' 3 0 = nI 0 ∧ ∀ k, k < 8 → o' 4 k = nI 0 ∧ o' 5 k = nI 0 ∧ o' 6 k = nI 0) := by
  have hz : UInt32.toInt32 FP.fconst0 = nI 0 := rfl
  unfold f_X8_begin
  rw [nx_eq, nx_eq, nx_eq, nx_eq, ok_zb1]
  refine ok_mono (ok_zl2 (Q := fun o' => o' 0 0 = r ∧ o' 1 0 = q ∧ o' 2 0 = nI 0 ∧ o' 3 0 = nI 0 ∧ ∀ k, k < 8 → o' 4 k = nI 0 ∧ o' 5 k = nI 0 ∧ o' 6 k = nI 0) (fun i o' kk => kk = nI i ∧ o' 0 0 = r ∧ o' 1 0 = q ∧ o' 2 0 = nI 0 ∧ o' 3 0 = nI 0 ∧ ∀ k, k < i → o' 4 k = nI 0 ∧ o' 5 k = nI 0 ∧ o' 6 k = nI 0) 8 (fun i o' kk hi hI => ?_) (fu_lt (by decide)) ⟨rfl, ?_, ?_, ?_, ?_, fun k hk => by omega⟩) (fun y hy => ok_some.mpr hy)
  · obtain ⟨rfl, a, b, c, d, e⟩ := hI
    by_cases z : i = 8
    · subst z
      simp (maxSteps := 3000000) (disch := omega) only [↓nx_q, zb0_s, zb1_s, zb2_s, zb3_s, zb4_s, zb5_s, zb6_s, zb7_s, zb8_s, zb9_s, zb10_s, zb11_s, zb12_s, zb13_s, zb14_s, q_lit, nI_add, pk_mul, e_cl, gi_in, gz_n0, gz_n1, e_gz, si_eq, si_ne, sa_eq, sa_ne, if_true, if_false, ↓reduceIte, k_ltT, k_ltF, k_leT, k_leF, k_eqT, k_eqF, k_m1lt, k_nm1, not_true_eq_false, not_false_eq_true]
      exact ⟨_, rfl, a, b, c, d, e⟩
    · simp (maxSteps := 3000000) (disch := omega) only [↓nx_q, zb0_s, zb1_s, zb2_s, zb3_s, zb4_s, zb5_s, zb6_s, zb7_s, zb8_s, zb9_s, zb10_s, zb11_s, zb12_s, zb13_s, zb14_s, q_lit, nI_add, pk_mul, e_cl, gi_in, gz_n0, gz_n1, e_gz, si_eq, si_ne, sa_eq, sa_ne, if_true, if_false, ↓reduceIte, k_ltT, k_ltF, k_leT, k_leF, k_eqT, k_eqF, k_m1lt, k_nm1, not_true_eq_false, not_false_eq_true, hz]
      refine ⟨_, rfl, by omega, rfl, ?_, ?_, ?_, ?_, fun k hk => ?_⟩
      · simp (disch := omega) only [si_eq, si_ne, sa_eq, sa_ne, upd_eq, upd_ne, updN_eq, updN_ne, a]
      · simp (disch := omega) only [si_eq, si_ne, sa_eq, sa_ne, upd_eq, upd_ne, updN_eq, updN_ne, b]
      · simp (disch := omega) only [si_eq, si_ne, sa_eq, sa_ne, upd_eq, upd_ne, updN_eq, updN_ne, c]
      · simp (disch := omega) only [si_eq, si_ne, sa_eq, sa_ne, upd_eq, upd_ne, updN_eq, updN_ne, d]
      · by_cases e2 : k = i
        · subst e2
          simp (disch := omega) only [si_eq, si_ne, sa_eq, sa_ne, upd_eq, upd_ne, updN_eq, updN_ne]
          exact ⟨trivial, trivial, trivial⟩
        · simp (disch := omega) only [si_eq, si_ne, sa_eq, sa_ne, upd_eq, upd_ne, updN_eq, updN_ne]
          exact e k (by omega)
  · simp (disch := omega) only [si_eq, si_ne, sa_eq, sa_ne, upd_eq, upd_ne, updN_eq, updN_ne]
  · simp (disch := omega) only [si_eq, si_ne, sa_eq, sa_ne, upd_eq, upd_ne, updN_eq, updN_ne]
  · simp (disch := omega) only [si_eq, si_ne, sa_eq, sa_ne, upd_eq, upd_ne, updN_eq, updN_ne]
    rfl
  · simp (disch := omega) only [si_eq, si_ne, sa_eq, sa_ne, upd_eq, upd_ne, updN_eq, updN_ne]
    rfl
theorem lies_e {σ : Nat → Nat} (h : σ 3 = 0) : liesN σ = 0 := by
  unfold liesN
  rw [h, sumB_0]
/-- a state from an empty shelf -/
theorem WF_em {σ τ : Nat → Nat} (hw : WF σ) (hr : 1 ≤ τ 0 ∧ τ 0 ≤ 20) (hq : τ 1 ≤ 2) (e : ∀ j, 2 ≤ j → τ j = emN σ j) : WF τ := by
  obtain ⟨w1, w2, w3, w4, w5, w6, w7⟩ := hw
  have h8 := w1.1
  have e2 : τ 2 = σ 2 := by rw [e 2 (by decide), em_fr (by decide) (by decide) (by omega)]
  have e3 : τ 3 = 0 := by rw [e 3 (by decide), em_3]
  have e7 : τ 7 = 0 := by rw [e 7 (by decide), em_7]
  refine ⟨⟨by omega, by rw [e3]; exact Nat.two_pow_pos _, hr, by rw [lies_e e3]; omega, fun k hk => ?_, fun k hk => ?_⟩, hq, by omega, fun k hk => ?_, fun k hk => ?_, WFn_congr w6 h8 e2 (fun j a b => ?_), fun i hi => by omega⟩
  · rw [e2] at hk
    rw [e (8 + k) (by omega), e (16 + k) (by omega), e (24 + k) (by omega), em_fr (by omega) (by omega) (by omega), em_fr (by omega) (by omega) (by omega), em_fr (by omega) (by omega) (by omega)]
    exact w1.2.2.2.2.1 k hk
  · rw [e (32 + k) (by omega), (em_z σ hk).1]
    exact ⟨by omega, fun _ => rfl⟩
  · rw [e (48 + k) (by omega), (em_z σ hk).2.2]
    exact ⟨Or.inl rfl, fun _ => rfl⟩
  · rw [e2] at hk
    rw [e (40 + k) (by omega), (em_z σ (show k < 8 by omega)).2.1]
    decide
  · rw [e j (by omega), em_fr (by omega) (by omega) (by omega)]
/-- both start anew -/
theorem anew_both {V : Nat → Ob} {PK PI : PV} {M : Ob} {σ τ : Nat → Nat} {g : Nat} {fc fm : Bool} {room rule : Nat} (hR : RelS V PK PI M σ g fc fm) (hr : 1 ≤ room ∧ room ≤ 20) (hq : rule ≤ 2) (h0 : τ 0 = room) (h1 : τ 1 = rule) (hτ : ∀ j, 2 ≤ j → τ j = σ j) : ∃ (o5 o6 o10 o14 : Ob) (PK' : PV) (M2 : Ob), f_X11_startAnew (V 3) (V 4) (V 5) (V 6) (V 7) (V 8) (V 9) (V 10) (V 14) PK (nI room) (nI rule) = some (o5, o6, o10, o14, PK', nI (cntB (σ 3) 32)) ∧ f_X12_keeps M = some M2 ∧ M2 0 = rw σ ∧ f_X12_empties (sa M2 0 (rw τ)) = some (sa M2 0 (rw (emN τ)), nI (cntB (σ 3) 32)) ∧ Rel (vu (vu (vu (vu V 5 o5) 6 o6) 10 o10) 14 o14) PK' PI (sa M2 0 (rw (emN τ))) := by
  obtain ⟨⟨hM0, hW, hRC⟩, hGC, hGM, hHi, hPl, hO⟩ := hR
  have h3 := Wv_3 hW.1
  have t3 := hτ 3 (by decide)
  obtain ⟨o10, PK', M2, ek, em, hH, hf⟩ := keep_both (u := fun i => V (3 + i)) hHi hM0 hRC hW
  obtain ⟨o5, e5, b0, b1, b2, b3, b4⟩ := c_begin (V 5) (nI room) (nI rule)
  have o2 : V 5 2 0 = nI (σ 3) := hRC.2.2.1.2.2.1
  have hM2 : M2 0 = rw σ := by rw [hf 0 (by decide) (by decide)]; exact hM0
  have hfo := @RPlan_forget (V 14) (emN τ)
  have eτ : ∀ j, 2 ≤ j → emN τ j = emN σ j := by
    intro j hj
    by_cases q3 : j = 3
    · subst q3
      rw [em_3, em_3]
    · by_cases q7 : j = 7
      · subst q7
        rw [em_7, em_7]
      · by_cases q : j < 32 ∨ 56 ≤ j
        · rw [em_fr q3 q7 q, em_fr q3 q7 q, hτ j hj]
        · by_cases c1 : j < 40
          · obtain ⟨k, hk, rfl⟩ : ∃ k, k < 8 ∧ j = 32 + k := ⟨j - 32, by omega, by omega⟩
            rw [(em_z τ hk).1, (em_z σ hk).1]
          · by_cases c2 : j < 48
            · obtain ⟨k, hk, rfl⟩ : ∃ k, k < 8 ∧ j = 40 + k := ⟨j - 40, by omega, by omega⟩
              rw [(em_z τ hk).2.1, (em_z σ hk).2.1]
            · obtain ⟨k, hk, rfl⟩ : ∃ k, k < 8 ∧ j = 48 + k := ⟨j - 48, by omega, by omega⟩
              rw [(em_z τ hk).2.2, (em_z σ hk).2.2]
  have r0 : emN τ 0 = room := by rw [em_fr (by decide) (by decide) (by omega)]; exact h0
  have r1 : emN τ 1 = rule := by rw [em_fr (by decide) (by decide) (by omega)]; exact h1
  have hW' : WF (emN τ) := WF_em hW (by rw [r0]; exact hr) (by rw [r1]; exact hq) eτ
  refine ⟨o5, si (V 6) 0 (nI 0), o10, si (si (V 14) 7 (-nI 1)) 8 (-nI 1), PK', M2, ?_, em, hM2, ?_, emN τ, g, fc, fm, ⟨sa_eq _ _ _, hW', ?_⟩, ?_, ?_, ?_, ?_, ?_⟩
  · have ek' : f_X3_keep (V 10) (V 3) (V 4) (V 5) (V 6) (V 7) (V 8) (V 9) PK = some (o10, PK') := ek
    unfold f_X11_startAnew
    simp (maxSteps := 3000000) (disch := omega) only [↓nx_q, zb0_s, zb1_s, zb2_s, zb3_s, zb4_s, zb5_s, zb6_s, zb7_s, zb8_s, zb9_s, zb10_s, zb11_s, zb12_s, zb13_s, zb14_s, q_lit, nI_add, pk_mul, e_cl, gi_in, gz_n0, gz_n1, e_gz, si_eq, si_ne, sa_eq, sa_ne, if_true, if_false, ↓reduceIte, k_ltT, k_ltF, k_leT, k_leF, k_eqT, k_eqF, k_m1lt, k_nm1, not_true_eq_false, not_false_eq_true, ek', hfo.1, o2, c_bitCount h3, e5]
  · rw [m_empties (sa_eq _ _ _) (by rw [t3]; omega), sa_sa, t3]
  · obtain ⟨rs, rw', rh, rl, rb0, rb1, rb2⟩ := hRC
    have ef : ∀ j, j = 2 ∨ (4 ≤ j ∧ j < 7) ∨ (8 ≤ j ∧ j < 32) ∨ 56 ≤ j → emN τ j = σ j := fun j hj => by rw [em_fr (by omega) (by omega) (by omega), hτ j (by omega)]
    refine RC_un (o := V 3) (w := V 4) (s := o5) (l := si (V 6) 0 (nI 0)) (b0 := V 7) (b1 := V 8) (b2 := V 9) ⟨⟨?_, ?_, ?_⟩, RCw_congr rw' hW.1.1 (fun j _ hj => ef j (by omega)), ⟨?_, ?_, ?_, ?_, fun k hk => ?_⟩, ⟨?_, fun i hi => ?_⟩, RCb_congr rb0 (fun j _ _ => ef j (by omega)) (fun j _ _ => ef j (by omega)), RCb_congr rb1 (fun j _ _ => ef j (by omega)) (fun j _ _ => ef j (by omega)), RCb_congr rb2 (fun j _ _ => ef j (by omega)) (fun j _ _ => ef j (by omega))⟩ ?_ ?_ ?_ ?_ ?_ ?_ ?_
    · rw [ef 4 (by omega)]; exact rs.1
    · rw [ef 5 (by omega)]; exact rs.2.1
    · rw [ef 6 (by omega)]; exact rs.2.2
    · rw [r0]; exact b0
    · rw [r1]; exact b1
    · rw [em_3]; exact b2
    · rw [lies_e (em_3 τ)]; exact b3
    · have z := em_z τ hk
      rw [z.1, z.2.1, z.2.2]
      exact ⟨(b4 k hk).1, (b4 k hk).2.2, fun _ => (b4 k hk).2.1⟩
    · rw [em_7]
      show si (V 6) 0 (nI 0) 0 0 = nI 0
      exact si_eq _ _ _ _
    · rw [em_7] at hi; omega
    all_goals simp (disch := omega) only [vu_eq, vu_ne]
  · simp (disch := omega) only [vu_eq, vu_ne]
    exact hGC
  · exact GM_fr hGM (by rw [sa_ne (by decide), hf 19 (by decide) (by decide)]) (by rw [sa_ne (by decide), hf 20 (by decide) (by decide)]) (by rw [sa_ne (by decide), hf 21 (by decide) (by decide)])
  · simp (disch := omega) only [vu_eq, vu_ne]
    exact RHist_fr hH (sa_ne (by decide)) (sa_ne (by decide))
  · simp (disch := omega) only [vu_eq, vu_ne]
    exact hfo.2.1
  · refine RelO_fr hO ?_ ?_ ?_ ?_ ?_ (fun j hj => ?_)
    · simp (disch := omega) only [vu_eq, vu_ne]
    · simp (disch := omega) only [vu_eq, vu_ne]
    · simp (disch := omega) only [vu_eq, vu_ne]
    · simp (disch := omega) only [vu_eq, vu_ne, si_eq, si_ne, sa_eq, sa_ne, upd_eq, upd_ne, updN_eq, updN_ne]
    · simp (disch := omega) only [vu_eq, vu_ne]
    · rw [sa_ne (by omega), hf j (by omega) (by omega)]
theorem m_isInN {a b k : Nat} (hk : k < 2147483648) (hb : b < 2147483648) (ha : a < 2147483648) : f_X12_isIn (nI k) (nI a) (nI b) = some (if a ≤ k ∧ k ≤ b then nI 1 else nI 0) := by
  rw [m_isIn]
  have h1 : nI a ≤ nI k ↔ a ≤ k := nI_leI (by omega) (by omega)
  have h2 : nI k ≤ nI b ↔ k ≤ b := nI_leI (by omega) (by omega)
  by_cases q : a ≤ k ∧ k ≤ b
  · rw [if_pos q, if_pos ⟨h1.mpr q.1, h2.mpr q.2⟩]
    rfl
  · rw [if_neg q, if_neg (fun z => q ⟨h1.mp z.1, h2.mp z.2⟩)]
    rfl
theorem m_isInO {a b : Nat} {v : Int32} (hb : b + 1 < 2147483648) (h : v < 0 ∨ nI (b + 1) ≤ v) (ha : a < 2147483648) : f_X12_isIn v (nI a) (nI b) = some (nI 0) := by
  rw [m_isIn]
  refine congrArg some (if_neg (fun q => ?_))
  rcases h with h2 | h2
  · exact absurd (Int32.lt_of_le_of_lt q.1 h2) (fun z => absurd (nI_pos (n := a) (by omega)) (fun y => y z))
  · exact absurd (Int32.le_trans h2 q.2) (nI_ge (by omega) (by omega))
/-- outside 0 .. b: conditions -/
theorem o_big2 {v : Int32} {b : Nat} (hn : b + 1 < 2147483648) (h : nI (b + 1) ≤ v) : (nI b < v) = True ∧ (v < nI 1) = False ∧ (v < nI 0) = False ∧ (v ≤ nI b) = False := by
  have h1 : nI b < v := Int32.lt_of_lt_of_le (nI_lt (by omega) (by omega)) h
  refine ⟨eq_true h1, eq_false (fun q => ?_), eq_false (fun q => ?_), eq_false (Int32.not_le.mpr h1)⟩
  · exact absurd (Int32.lt_of_le_of_lt h q) (nI_nlt (a := b + 1) (b := 1) (by omega) (by omega))
  · exact absurd (Int32.lt_of_le_of_lt h q) (nI_pos (n := b + 1) (by omega))
theorem o_neg2 {v : Int32} (h : v < 0) : (v < nI 1) = True ∧ (v < nI 0) = True := ⟨eq_true (Int32.lt_trans h (show (0 : Int32) < nI 1 by decide)), eq_true h⟩
theorem R_room : St_room Rel := by
  intro V PK PI M v1 hR
  obtain ⟨σ, g, fc, fm, hR⟩ := hR
  have hR0 := hR
  obtain ⟨⟨hM0, hW, hRC⟩, hGC, hGM, hHi, hPl, hO⟩ := hR0
  have s0 : V 5 0 0 = nI (σ 0) := hRC.2.2.1.1
  have s1 : V 5 1 0 = nI (σ 1) := hRC.2.2.1.2.1
  have hr := hW.1.2.2.1
  rcases q_rng v1 (n := 21) (by decide) with ⟨k, hk, rfl⟩ | ho
  · have e1 := m_isInN (a := 1) (b := 20) (k := k) (by omega) (by decide) (by decide)
    by_cases q0 : k = 0
    · subst q0
      rw [if_neg (by omega)] at e1
      refine ⟨V, PK, PI, M, -1, ?_, ?_, σ, g, fc, fm, hR⟩
      · unfold g_room f_X11_room
        simp (maxSteps := 3000000) (disch := omega) only [↓nx_q, zb0_s, zb1_s, zb2_s, zb3_s, zb4_s, zb5_s, zb6_s, zb7_s, zb8_s, zb9_s, zb10_s, zb11_s, zb12_s, zb13_s, zb14_s, q_lit, nI_add, pk_mul, e_cl, gi_in, gz_n0, gz_n1, e_gz, si_eq, si_ne, sa_eq, sa_ne, if_true, if_false, ↓reduceIte, k_ltT, k_ltF, k_leT, k_leF, k_eqT, k_eqF, k_m1lt, k_nm1, not_true_eq_false, not_false_eq_true, vu_self]
      · unfold h_room f_X12_room
        simp (maxSteps := 3000000) (disch := omega) only [↓nx_q, zb0_s, zb1_s, zb2_s, zb3_s, zb4_s, zb5_s, zb6_s, zb7_s, zb8_s, zb9_s, zb10_s, zb11_s, zb12_s, zb13_s, zb14_s, q_lit, nI_add, pk_mul, e_cl, gi_in, gz_n0, gz_n1, e_gz, si_eq, si_ne, sa_eq, sa_ne, if_true, if_false, ↓reduceIte, k_ltT, k_ltF, k_leT, k_leF, k_eqT, k_eqF, k_m1lt, k_nm1, not_true_eq_false, not_false_eq_true, e1]
    · rw [if_pos (by omega)] at e1
      by_cases q1 : k = σ 0
      · refine ⟨V, PK, PI, M, -1, ?_, ?_, σ, g, fc, fm, hR⟩
        · unfold g_room f_X11_room
          simp (maxSteps := 3000000) (disch := omega) only [↓nx_q, zb0_s, zb1_s, zb2_s, zb3_s, zb4_s, zb5_s, zb6_s, zb7_s, zb8_s, zb9_s, zb10_s, zb11_s, zb12_s, zb13_s, zb14_s, q_lit, nI_add, pk_mul, e_cl, gi_in, gz_n0, gz_n1, e_gz, si_eq, si_ne, sa_eq, sa_ne, if_true, if_false, ↓reduceIte, k_ltT, k_ltF, k_leT, k_leF, k_eqT, k_eqF, k_m1lt, k_nm1, not_true_eq_false, not_false_eq_true, s0, vu_self]
        · unfold h_room f_X12_room
          simp (maxSteps := 3000000) (disch := omega) only [↓nx_q, zb0_s, zb1_s, zb2_s, zb3_s, zb4_s, zb5_s, zb6_s, zb7_s, zb8_s, zb9_s, zb10_s, zb11_s, zb12_s, zb13_s, zb14_s, q_lit, nI_add, pk_mul, e_cl, gi_in, gz_n0, gz_n1, e_gz, si_eq, si_ne, sa_eq, sa_ne, if_true, if_false, ↓reduceIte, k_ltT, k_ltF, k_leT, k_leF, k_eqT, k_eqF, k_m1lt, k_nm1, not_true_eq_false, not_false_eq_true, e1, hM0, rw_ap, upd_rw, sa_sa, jn_l, jn_r, jn_4, jn_5, jn_6, jn_ul, jn_ur, jn_u4, jn_u5, jn_u6]
      · obtain ⟨o5, o6, o10, o14, PK', M2, e2, e3, e4, e5, hRel⟩ := anew_both (τ := updN σ 0 k) (room := k) (rule := σ 1) hR (by omega) hW.2.1 (updN_eq _ _ _) (updN_ne (by decide)) (fun j hj => updN_ne (by omega))
        refine ⟨_, PK', PI, _, nI (cntB (σ 3) 32), ?_, ?_, hRel⟩
        · unfold g_room f_X11_room
          simp (maxSteps := 3000000) (disch := omega) only [↓nx_q, zb0_s, zb1_s, zb2_s, zb3_s, zb4_s, zb5_s, zb6_s, zb7_s, zb8_s, zb9_s, zb10_s, zb11_s, zb12_s, zb13_s, zb14_s, q_lit, nI_add, pk_mul, e_cl, gi_in, gz_n0, gz_n1, e_gz, si_eq, si_ne, sa_eq, sa_ne, if_true, if_false, ↓reduceIte, k_ltT, k_ltF, k_leT, k_leF, k_eqT, k_eqF, k_m1lt, k_nm1, not_true_eq_false, not_false_eq_true, s0, s1, e2]
        · unfold h_room f_X12_room
          simp (maxSteps := 3000000) (disch := omega) only [↓nx_q, zb0_s, zb1_s, zb2_s, zb3_s, zb4_s, zb5_s, zb6_s, zb7_s, zb8_s, zb9_s, zb10_s, zb11_s, zb12_s, zb13_s, zb14_s, q_lit, nI_add, pk_mul, e_cl, gi_in, gz_n0, gz_n1, e_gz, si_eq, si_ne, sa_eq, sa_ne, if_true, if_false, ↓reduceIte, k_ltT, k_ltF, k_leT, k_leF, k_eqT, k_eqF, k_m1lt, k_nm1, not_true_eq_false, not_false_eq_true, e1, hM0, rw_ap, upd_rw, sa_sa, jn_l, jn_r, jn_4, jn_5, jn_6, jn_ul, jn_ur, jn_u4, jn_u5, jn_u6, e3, e4, e5]
  · have e1 := m_isInO (a := 1) (b := 20) (by decide) ho (by decide)
    refine ⟨V, PK, PI, M, -1, ?_, ?_, σ, g, fc, fm, hR⟩
    · unfold g_room f_X11_room
      rcases ho with h | h
      · simp (maxSteps := 3000000) (disch := omega) only [↓nx_q, zb0_s, zb1_s, zb2_s, zb3_s, zb4_s, zb5_s, zb6_s, zb7_s, zb8_s, zb9_s, zb10_s, zb11_s, zb12_s, zb13_s, zb14_s, q_lit, nI_add, pk_mul, e_cl, gi_in, gz_n0, gz_n1, e_gz, si_eq, si_ne, sa_eq, sa_ne, if_true, if_false, ↓reduceIte, k_ltT, k_ltF, k_leT, k_leF, k_eqT, k_eqF, k_m1lt, k_nm1, not_true_eq_false, not_false_eq_true, (o_neg2 h).1, vu_self]
      · have := o_big2 (b := 20) (by decide) h
        simp (maxSteps := 3000000) (disch := omega) only [↓nx_q, zb0_s, zb1_s, zb2_s, zb3_s, zb4_s, zb5_s, zb6_s, zb7_s, zb8_s, zb9_s, zb10_s, zb11_s, zb12_s, zb13_s, zb14_s, q_lit, nI_add, pk_mul, e_cl, gi_in, gz_n0, gz_n1, e_gz, si_eq, si_ne, sa_eq, sa_ne, if_true, if_false, ↓reduceIte, k_ltT, k_ltF, k_leT, k_leF, k_eqT, k_eqF, k_m1lt, k_nm1, not_true_eq_false, not_false_eq_true, this.1, this.2.1, vu_self]
    · unfold h_room f_X12_room
      simp (maxSteps := 3000000) (disch := omega) only [↓nx_q, zb0_s, zb1_s, zb2_s, zb3_s, zb4_s, zb5_s, zb6_s, zb7_s, zb8_s, zb9_s, zb10_s, zb11_s, zb12_s, zb13_s, zb14_s, q_lit, nI_add, pk_mul, e_cl, gi_in, gz_n0, gz_n1, e_gz, si_eq, si_ne, sa_eq, sa_ne, if_true, if_false, ↓reduceIte, k_ltT, k_ltF, k_leT, k_leF, k_eqT, k_eqF, k_m1lt, k_nm1, not_true_eq_false, not_false_eq_true, e1]
theorem R_rule : St_rule Rel := by
  intro V PK PI M v1 hR
  obtain ⟨σ, g, fc, fm, hR⟩ := hR
  have hR0 := hR
  obtain ⟨⟨hM0, hW, hRC⟩, hGC, hGM, hHi, hPl, hO⟩ := hR0
  have s0 : V 5 0 0 = nI (σ 0) := hRC.2.2.1.1
  have s1 : V 5 1 0 = nI (σ 1) := hRC.2.2.1.2.1
  have hr := hW.2.1
  rcases q_rng v1 (n := 3) (by decide) with ⟨k, hk, rfl⟩ | ho
  · have e1 := m_isInN (a := 0) (b := 2) (k := k) (by omega) (by decide) (by decide)
    rw [if_pos (by omega)] at e1
    by_cases q1 : k = σ 1
    · refine ⟨V, PK, PI, M, -1, ?_, ?_, σ, g, fc, fm, hR⟩
      · unfold g_rule f_X11_rule
        simp (maxSteps := 3000000) (disch := omega) only [↓nx_q, zb0_s, zb1_s, zb2_s, zb3_s, zb4_s, zb5_s, zb6_s, zb7_s, zb8_s, zb9_s, zb10_s, zb11_s, zb12_s, zb13_s, zb14_s, q_lit, nI_add, pk_mul, e_cl, gi_in, gz_n0, gz_n1, e_gz, si_eq, si_ne, sa_eq, sa_ne, if_true, if_false, ↓reduceIte, k_ltT, k_ltF, k_leT, k_leF, k_eqT, k_eqF, k_m1lt, k_nm1, not_true_eq_false, not_false_eq_true, s1, vu_self]
      · unfold h_rule f_X12_rule
        simp (maxSteps := 3000000) (disch := omega) only [↓nx_q, zb0_s, zb1_s, zb2_s, zb3_s, zb4_s, zb5_s, zb6_s, zb7_s, zb8_s, zb9_s, zb10_s, zb11_s, zb12_s, zb13_s, zb14_s, q_lit, nI_add, pk_mul, e_cl, gi_in, gz_n0, gz_n1, e_gz, si_eq, si_ne, sa_eq, sa_ne, if_true, if_false, ↓reduceIte, k_ltT, k_ltF, k_leT, k_leF, k_eqT, k_eqF, k_m1lt, k_nm1, not_true_eq_false, not_false_eq_true, e1, hM0, rw_ap, upd_rw, sa_sa, jn_l, jn_r, jn_4, jn_5, jn_6, jn_ul, jn_ur, jn_u4, jn_u5, jn_u6]
    · obtain ⟨o5, o6, o10, o14, PK', M2, e2, e3, e4, e5, hRel⟩ := anew_both (τ := updN σ 1 k) (room := σ 0) (rule := k) hR hW.1.2.2.1 (by omega) (updN_ne (by decide)) (updN_eq _ _ _) (fun j hj => updN_ne (by omega))
      refine ⟨_, PK', PI, _, nI (cntB (σ 3) 32), ?_, ?_, hRel⟩
      · unfold g_rule f_X11_rule
        simp (maxSteps := 3000000) (disch := omega) only [↓nx_q, zb0_s, zb1_s, zb2_s, zb3_s, zb4_s, zb5_s, zb6_s, zb7_s, zb8_s, zb9_s, zb10_s, zb11_s, zb12_s, zb13_s, zb14_s, q_lit, nI_add, pk_mul, e_cl, gi_in, gz_n0, gz_n1, e_gz, si_eq, si_ne, sa_eq, sa_ne, if_true, if_false, ↓reduceIte, k_ltT, k_ltF, k_leT, k_leF, k_eqT, k_eqF, k_m1lt, k_nm1, not_true_eq_false, not_false_eq_true, s0, s1, e2]
      · unfold h_rule f_X12_rule
        simp (maxSteps := 3000000) (disch := omega) only [↓nx_q, zb0_s, zb1_s, zb2_s, zb3_s, zb4_s, zb5_s, zb6_s, zb7_s, zb8_s, zb9_s, zb10_s, zb11_s, zb12_s, zb13_s, zb14_s, q_lit, nI_add, pk_mul, e_cl, gi_in, gz_n0, gz_n1, e_gz, si_eq, si_ne, sa_eq, sa_ne, if_true, if_false, ↓reduceIte, k_ltT, k_ltF, k_leT, k_leF, k_eqT, k_eqF, k_m1lt, k_nm1, not_true_eq_false, not_false_eq_true, e1, hM0, rw_ap, upd_rw, sa_sa, jn_l, jn_r, jn_4, jn_5, jn_6, jn_ul, jn_ur, jn_u4, jn_u5, jn_u6, e3, e4, e5]
  · have e1 := m_isInO (a := 0) (b := 2) (by decide) ho (by decide)
    refine ⟨V, PK, PI, M, -1, ?_, ?_, σ, g, fc, fm, hR⟩
    · unfold g_rule f_X11_rule
      rcases ho with h | h
      · simp (maxSteps := 3000000) (disch := omega) only [↓nx_q, zb0_s, zb1_s, zb2_s, zb3_s, zb4_s, zb5_s, zb6_s, zb7_s, zb8_s, zb9_s, zb10_s, zb11_s, zb12_s, zb13_s, zb14_s, q_lit, nI_add, pk_mul, e_cl, gi_in, gz_n0, gz_n1, e_gz, si_eq, si_ne, sa_eq, sa_ne, if_true, if_false, ↓reduceIte, k_ltT, k_ltF, k_leT, k_leF, k_eqT, k_eqF, k_m1lt, k_nm1, not_true_eq_false, not_false_eq_true, (o_neg2 h).2, vu_self]
      · have := o_big2 (b := 2) (by decide) h
        simp (maxSteps := 3000000) (disch := omega) only [↓nx_q, zb0_s, zb1_s, zb2_s, zb3_s, zb4_s, zb5_s, zb6_s, zb7_s, zb8_s, zb9_s, zb10_s, zb11_s, zb12_s, zb13_s, zb14_s, q_lit, nI_add, pk_mul, e_cl, gi_in, gz_n0, gz_n1, e_gz, si_eq, si_ne, sa_eq, sa_ne, if_true, if_false, ↓reduceIte, k_ltT, k_ltF, k_leT, k_leF, k_eqT, k_eqF, k_m1lt, k_nm1, not_true_eq_false, not_false_eq_true, this.1, this.2.2.1, vu_self]
    · unfold h_rule f_X12_rule
      simp (maxSteps := 3000000) (disch := omega) only [↓nx_q, zb0_s, zb1_s, zb2_s, zb3_s, zb4_s, zb5_s, zb6_s, zb7_s, zb8_s, zb9_s, zb10_s, zb11_s, zb12_s, zb13_s, zb14_s, q_lit, nI_add, pk_mul, e_cl, gi_in, gz_n0, gz_n1, e_gz, si_eq, si_ne, sa_eq, sa_ne, if_true, if_false, ↓reduceIte, k_ltT, k_ltF, k_leT, k_leF, k_eqT, k_eqF, k_m1lt, k_nm1, not_true_eq_false, not_false_eq_true, e1]
