/-! ===== BOOKS: entries ===== -/
def tkN (b kd : Nat) : Bool := b == 0 || (b == 1 && decide (kd < 2)) || (b == 2 && decide (1 < kd)) || (b == 3 && kd == 3)
def bkN (σ : Nat → Nat) (b kd it am : Nat) : Nat → Nat :=
  if σ (544 + 7 * b) = 0 then σ
  else if σ (544 + 7 * b + 3) = σ (544 + 7 * b + 2) then updN σ (544 + 7 * b + 5) (σ (544 + 7 * b + 5) + 1)
  else if tkN (σ (544 + 7 * b + 1)) kd = true then updN (updN (updN (updN (updN σ (565 + 90 * b + 3 * σ (544 + 7 * b + 3)) kd) (565 + 90 * b + 3 * σ (544 + 7 * b + 3) + 1) it) (565 + 90 * b + 3 * σ (544 + 7 * b + 3) + 2) am) (544 + 7 * b + 3) (σ (544 + 7 * b + 3) + 1)) (544 + 7 * b + 6) (σ (544 + 7 * b + 6) + am)
  else updN σ (544 + 7 * b + 4) (σ (544 + 7 * b + 4) + 1)
def BW (σ : Nat → Nat) (b : Nat) : Prop := σ (544 + 7 * b) = 0 ∨ (σ (544 + 7 * b) = 1 ∧ σ (544 + 7 * b + 1) ≤ 3 ∧ σ (544 + 7 * b + 2) ≤ 30 ∧ σ (544 + 7 * b + 3) ≤ σ (544 + 7 * b + 2))
theorem BW_of {o : Ob} {σ : Nat → Nat} {b : Nat} (h : RCb o σ b) : BW σ b := by
  rcases h with h | h
  · exact Or.inl h.1
  · exact Or.inr ⟨h.1, h.2.2.1, h.2.2.2.1, h.2.2.2.2.1⟩
theorem BW_congr {σ σ' : Nat → Nat} {b : Nat} (h : BW σ b) (e : ∀ j, 544 + 7 * b ≤ j → j < 544 + 7 * b + 7 → σ' j = σ j) : BW σ' b := by
  unfold BW
  rw [e _ (by omega) (by omega), e _ (by omega) (by omega), e _ (by omega) (by omega), e _ (by omega) (by omega)]
  exact h
theorem RCb_congr {o : Ob} {σ σ' : Nat → Nat} {b : Nat} (h : RCb o σ b) (e : ∀ j, 544 + 7 * b ≤ j → j < 544 + 7 * b + 7 → σ' j = σ j) (e2 : ∀ j, 565 + 90 * b ≤ j → j < 565 + 90 * b + 90 → σ' j = σ j) : RCb o σ' b := by
  have q : ∀ i, i < 7 → σ' (544 + 7 * b + i) = σ (544 + 7 * b + i) := fun i hi => e _ (by omega) (by omega)
  have q0 := q 0 (by decide)
  rw [Nat.add_zero] at q0
  unfold RCb
  rw [q0, q 1 (by decide), q 2 (by decide), q 3 (by decide), q 4 (by decide), q 5 (by decide), q 6 (by decide)]
  rcases h with h | ⟨h0, h1, h2, h3, h4, h5, h6, h7, h8, h9, h10, h11⟩
  · exact Or.inl h
  · refine Or.inr ⟨h0, h1, h2, h3, h4, h5, h6, h7, h8, h9, h10, fun i hi => ?_⟩
    rw [e2 _ (by omega) (by omega), e2 _ (by omega) (by omega), e2 _ (by omega) (by omega)]
    exact h11 i hi
theorem bkN_fr {σ : Nat → Nat} {b kd it am j : Nat} (h : BW σ b) (h1 : j < 544 + 7 * b ∨ 544 + 7 * b + 7 ≤ j) (h2 : j < 565 + 90 * b ∨ 565 + 90 * b + 90 ≤ j) : bkN σ b kd it am j = σ j := by
  unfold bkN
  by_cases q : σ (544 + 7 * b) = 0
  · rw [if_pos q]
  · rw [if_neg q]
    obtain ⟨-, -, h4, h5⟩ := h.resolve_left q
    by_cases q2 : σ (544 + 7 * b + 3) = σ (544 + 7 * b + 2)
    · rw [if_pos q2, updN_ne (by omega)]
    · rw [if_neg q2]
      by_cases q3 : tkN (σ (544 + 7 * b + 1)) kd = true
      · rw [if_pos q3, updN_ne (by omega), updN_ne (by omega), updN_ne (by omega), updN_ne (by omega), updN_ne (by omega)]
      · rw [if_neg q3, updN_ne (by omega)]
theorem m_isTaken {b kd : Nat} (hb : b ≤ 3) (hk : kd ≤ 3) : f_X12_isTaken (nI b) (nI kd) = some (if tkN b kd = true then 1 else 0) := by
  have : ∀ b : Fin 4, ∀ kd : Fin 4, f_X12_isTaken (nI b.val) (nI kd.val) = some (if tkN b.val kd.val = true then 1 else 0) := by decide
  exact this ⟨b, by omega⟩ ⟨kd, by omega⟩
theorem c_takes {o : Ob} {b kd : Nat} (ho : o 1 0 = nI b) (hb : b ≤ 3) (hk : kd ≤ 3) : f_X0_takes o (nI kd) = some (if tkN b kd = true then 1 else 0) := by
  have : ∀ b : Fin 4, ∀ kd : Fin 4, f_X0_takes (fun _ _ => nI b.val) (nI kd.val) = some (if tkN b.val kd.val = true then 1 else 0) := by decide
  have h := this ⟨b, by omega⟩ ⟨kd, by omega⟩
  rw [← h]
  unfold f_X0_takes
  rw [ho]
theorem c_write {o : Ob} {σ : Nat → Nat} {b kd it am : Nat} (h : RCb o σ b) (hk : kd ≤ 3) : ∃ o', f_X0_write o (nI kd) (nI it) (nI am) = some o' ∧ RCb o' (bkN σ b kd it am) b := by
  unfold f_X0_write bkN
  rcases h with ⟨h0, h1, h2⟩ | ⟨h0, h1, h2, h3, h4, h5, h6, h7, h8, h9, h10, h11⟩
  · refine ⟨o, ?_, ?_⟩
    · simp (disch := omega) only [↓nx_q, zb0_s, zb1_s, zb2_s, zb3_s, zb4_s, zb5_s, zb6_s, zb7_s, zb8_s, zb9_s, zb10_s, zb11_s, zb12_s, zb13_s, zb14_s, q_lit, nI_add, pk_mul, e_cl, gi_in, gz_n0, gz_n1, e_gz, si_eq, si_ne, sa_eq, sa_ne, if_true, if_false, ↓reduceIte, k_ltT, k_ltF, k_leT, k_leF, k_eqT, k_eqF, k_m1lt, k_nm1, not_true_eq_false, not_false_eq_true, h1]
    · rw [if_pos h0]
      exact Or.inl ⟨h0, h1, h2⟩
  · have n0 : ¬ σ (544 + 7 * b) = 0 := by omega
    by_cases q : σ (544 + 7 * b + 3) = σ (544 + 7 * b + 2)
    · simp (disch := omega) only [↓nx_q, zb0_s, zb1_s, zb2_s, zb3_s, zb4_s, zb5_s, zb6_s, zb7_s, zb8_s, zb9_s, zb10_s, zb11_s, zb12_s, zb13_s, zb14_s, q_lit, nI_add, pk_mul, e_cl, gi_in, gz_n0, gz_n1, e_gz, si_eq, si_ne, sa_eq, sa_ne, if_true, if_false, ↓reduceIte, k_ltT, k_ltF, k_leT, k_leF, k_eqT, k_eqF, k_m1lt, k_nm1, not_true_eq_false, not_false_eq_true, h1, h6, h7, if_neg n0, if_pos q]
      refine ⟨_, rfl, Or.inr ?_⟩
      simp (disch := omega) only [si_eq, si_ne, sa_eq, sa_ne, upd_eq, upd_ne, updN_eq, updN_ne]
      refine ⟨h0, h1, h2, h3, h4, h5, h6, h7, h8, ?_, h10, fun i hi => h11 i hi⟩
      rw [h9, nI_add]
    · by_cases q2 : tkN (σ (544 + 7 * b + 1)) kd = true
      · simp (disch := omega) only [↓nx_q, zb0_s, zb1_s, zb2_s, zb3_s, zb4_s, zb5_s, zb6_s, zb7_s, zb8_s, zb9_s, zb10_s, zb11_s, zb12_s, zb13_s, zb14_s, q_lit, nI_add, pk_mul, e_cl, gi_in, gz_n0, gz_n1, e_gz, si_eq, si_ne, sa_eq, sa_ne, if_true, if_false, ↓reduceIte, k_ltT, k_ltF, k_leT, k_leF, k_eqT, k_eqF, k_m1lt, k_nm1, not_true_eq_false, not_false_eq_true, h1, h6, h7, if_neg n0, if_neg q, c_takes h5 h2 hk, if_pos q2]
        refine ⟨_, rfl, Or.inr ?_⟩
        simp (disch := omega) only [si_eq, si_ne, sa_eq, sa_ne, upd_eq, upd_ne, updN_eq, updN_ne]
        refine ⟨h0, h1, h2, h3, by omega, h5, h6, trivial, h8, h9, ?_, fun i hi => ?_⟩
        · rw [h10, nI_add]
        · by_cases e : i = σ (544 + 7 * b + 3)
          · subst e
            simp (disch := omega) only [si_eq, si_ne, sa_eq, sa_ne, upd_eq, upd_ne, updN_eq, updN_ne]
            exact ⟨trivial, trivial, trivial⟩
          · simp (disch := omega) only [si_eq, si_ne, sa_eq, sa_ne, upd_eq, upd_ne, updN_eq, updN_ne]
            exact h11 i (by omega)
      · simp (disch := omega) only [↓nx_q, zb0_s, zb1_s, zb2_s, zb3_s, zb4_s, zb5_s, zb6_s, zb7_s, zb8_s, zb9_s, zb10_s, zb11_s, zb12_s, zb13_s, zb14_s, q_lit, nI_add, pk_mul, e_cl, gi_in, gz_n0, gz_n1, e_gz, si_eq, si_ne, sa_eq, sa_ne, if_true, if_false, ↓reduceIte, k_ltT, k_ltF, k_leT, k_leF, k_eqT, k_eqF, k_m1lt, k_nm1, not_true_eq_false, not_false_eq_true, h1, h6, h7, if_neg n0, if_neg q, c_takes h5 h2 hk, if_neg q2]
        refine ⟨_, rfl, Or.inr ?_⟩
        simp (disch := omega) only [si_eq, si_ne, sa_eq, sa_ne, upd_eq, upd_ne, updN_eq, updN_ne]
        refine ⟨h0, h1, h2, h3, h4, h5, h6, h7, ?_, h9, h10, fun i hi => h11 i hi⟩
        rw [h8, nI_add]
/-! ===== the model's entry ===== -/
def entN (π : Nat → Nat) (kd it am : Nat) : Nat → Nat := bkN (bkN (bkN π 0 kd it am) 1 kd it am) 2 kd it am
def entI (π : Nat → Nat) (kd it am : Nat) : Nat → Nat → Nat
  | 0 => π
  | i + 1 => bkN (entI π kd it am i) i kd it am
theorem bkN_BW {π : Nat → Nat} {b kd it am : Nat} (h : BW π b) : BW (bkN π b kd it am) b := by
  rcases h with h | ⟨h1, h2, h3, h4⟩
  · unfold bkN
    rw [if_pos h]
    exact Or.inl h
  · unfold bkN
    rw [if_neg (by omega)]
    refine Or.inr ?_
    by_cases q : π (544 + 7 * b + 3) = π (544 + 7 * b + 2)
    · rw [if_pos q]
      simp (disch := omega) only [updN_ne]
      exact ⟨h1, h2, h3, h4⟩
    · rw [if_neg q]
      by_cases q2 : tkN (π (544 + 7 * b + 1)) kd = true
      · rw [if_pos q2]
        simp (disch := omega) only [updN_ne, updN_eq]
        exact ⟨h1, h2, h3, by omega⟩
      · rw [if_neg q2]
        simp (disch := omega) only [updN_ne]
        exact ⟨h1, h2, h3, h4⟩
def BW3 (π : Nat → Nat) : Prop := ∀ b, b < 3 → BW π b
theorem bkN_BW3 {π : Nat → Nat} {b kd it am : Nat} (hb : b < 3) (h : BW3 π) : BW3 (bkN π b kd it am) := by
  intro c hc
  by_cases e : c = b
  · subst e
    exact bkN_BW (h c hc)
  · exact BW_congr (h c hc) (fun j h1 h2 => bkN_fr (h b hb) (by omega) (by omega))
theorem entI_BW3 {π : Nat → Nat} {kd it am : Nat} (h : BW3 π) : ∀ {i : Nat}, i ≤ 3 → BW3 (entI π kd it am i)
  | 0, _ => h
  | i + 1, hi => bkN_BW3 (by omega) (entI_BW3 h (by omega))
theorem m_entry {M : Ob} {σ π : Nat → Nat} {kd it am : Nat} (hM : M 0 = rw (jn σ π)) (hB : BW3 π) (hk : kd ≤ 3) : f_X12_entry M (nI kd) (nI it) (nI am) = some (sa M 0 (rw (jn σ (entN π kd it am)))) := by
  unfold f_X12_entry
  refine (zb1_of (zl2_fo (fun i => sa M 0 (rw (jn σ (entI π kd it am i)))) (fun i => nI i) 3 (sa M 0 (rw (jn σ (entN π kd it am)))) (fu_lt (by decide)) ?_ rfl (fun i hi => ?_) ?_)).trans rfl
  · show M = sa M 0 (rw (jn σ π))
    rw [← hM, sa_self]
  · have hBi := entI_BW3 (kd := kd) (it := it) (am := am) hB (i := i) (by omega) i hi
    show _ = some (Sum.inl (sa M 0 (rw (jn σ (bkN (entI π kd it am i) i kd it am))), nI (i + 1)))
    generalize entI π kd it am i = ρ at *
    unfold bkN
    rcases hBi with h0 | ⟨h0, h1, h2, h3⟩
    · simp (disch := omega) only [↓nx_q, zb0_s, zb1_s, zb2_s, zb3_s, zb4_s, zb5_s, zb6_s, zb7_s, zb8_s, zb9_s, zb10_s, zb11_s, zb12_s, zb13_s, zb14_s, q_lit, nI_add, pk_mul, e_cl, gi_in, gz_n0, gz_n1, e_gz, si_eq, si_ne, sa_eq, sa_ne, if_true, if_false, ↓reduceIte, k_ltT, k_ltF, k_leT, k_leF, k_eqT, k_eqF, k_m1lt, k_nm1, not_true_eq_false, not_false_eq_true, rw_ap, upd_rw, sa_sa, jn_l, jn_r, jn_4, jn_5, jn_6, jn_ul, jn_ur, jn_u4, jn_u5, jn_u6, h0]
    · have n0 : ¬ ρ (544 + 7 * i) = 0 := by omega
      by_cases q : ρ (544 + 7 * i + 3) = ρ (544 + 7 * i + 2)
      · simp (disch := omega) only [↓nx_q, zb0_s, zb1_s, zb2_s, zb3_s, zb4_s, zb5_s, zb6_s, zb7_s, zb8_s, zb9_s, zb10_s, zb11_s, zb12_s, zb13_s, zb14_s, q_lit, nI_add, pk_mul, e_cl, gi_in, gz_n0, gz_n1, e_gz, si_eq, si_ne, sa_eq, sa_ne, if_true, if_false, ↓reduceIte, k_ltT, k_ltF, k_leT, k_leF, k_eqT, k_eqF, k_m1lt, k_nm1, not_true_eq_false, not_false_eq_true, rw_ap, upd_rw, sa_sa, jn_l, jn_r, jn_4, jn_5, jn_6, jn_ul, jn_ur, jn_u4, jn_u5, jn_u6, if_neg n0, if_pos q]
      · have ht := m_isTaken h1 hk
        by_cases q2 : tkN (ρ (544 + 7 * i + 1)) kd = true
        · rw [if_pos q2] at ht
          simp (disch := omega) only [↓nx_q, zb0_s, zb1_s, zb2_s, zb3_s, zb4_s, zb5_s, zb6_s, zb7_s, zb8_s, zb9_s, zb10_s, zb11_s, zb12_s, zb13_s, zb14_s, q_lit, nI_add, pk_mul, e_cl, gi_in, gz_n0, gz_n1, e_gz, si_eq, si_ne, sa_eq, sa_ne, if_true, if_false, ↓reduceIte, k_ltT, k_ltF, k_leT, k_leF, k_eqT, k_eqF, k_m1lt, k_nm1, not_true_eq_false, not_false_eq_true, rw_ap, upd_rw, sa_sa, jn_l, jn_r, jn_4, jn_5, jn_6, jn_ul, jn_ur, jn_u4, jn_u5, jn_u6, if_neg n0, if_neg q, if_pos q2, ht]
          simp (disch := omega) only [si_eq, si_ne, sa_eq, sa_ne, upd_eq, upd_ne, updN_eq, updN_ne]
        · rw [if_neg q2] at ht
          simp (disch := omega) only [↓nx_q, zb0_s, zb1_s, zb2_s, zb3_s, zb4_s, zb5_s, zb6_s, zb7_s, zb8_s, zb9_s, zb10_s, zb11_s, zb12_s, zb13_s, zb14_s, q_lit, nI_add, pk_mul, e_cl, gi_in, gz_n0, gz_n1, e_gz, si_eq, si_ne, sa_eq, sa_ne, if_true, if_false, ↓reduceIte, k_ltT, k_ltF, k_leT, k_leF, k_eqT, k_eqF, k_m1lt, k_nm1, not_true_eq_false, not_false_eq_true, rw_ap, upd_rw, sa_sa, jn_l, jn_r, jn_4, jn_5, jn_6, jn_ul, jn_ur, jn_u4, jn_u5, jn_u6, if_neg n0, if_neg q, if_neg q2, ht]
  · simp (disch := omega) only [↓nx_q, zb0_s, zb1_s, zb2_s, zb3_s, zb4_s, zb5_s, zb6_s, zb7_s, zb8_s, zb9_s, zb10_s, zb11_s, zb12_s, zb13_s, zb14_s, q_lit, nI_add, pk_mul, e_cl, gi_in, gz_n0, gz_n1, e_gz, si_eq, si_ne, sa_eq, sa_ne, if_true, if_false, ↓reduceIte, k_ltT, k_ltF, k_leT, k_leF, k_eqT, k_eqF, k_m1lt, k_nm1, not_true_eq_false, not_false_eq_true]
    rfl
