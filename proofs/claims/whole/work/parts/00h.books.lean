/-! ===== BOOKS: entries ===== -/
def tkN (b kd : Nat) : Bool := b == 0 || (b == 1 && decide (kd < 2)) || (b == 2 && decide (1 < kd)) || (b == 3 && kd == 3)
def bkN (σ : Nat → Nat) (b kd it am : Nat) : Nat → Nat :=
  if σ (544 + 7 * b) = 0 then σ
  else if σ (544 + 7 * b + 3) = σ (544 + 7 * b + 2) then updN σ (544 + 7 * b + 5) (σ (544 + 7 * b + 5) + 1)
  else if tkN (σ (544 + 7 * b + 1)) kd = true then updN (updN (updN (updN (updN σ (565 + 90 * b + 3 * σ (544 + 7 * b + 3)) kd) (565 + 90 * b + 3 * σ (544 + 7 * b + 3) + 1) it) (565 + 90 * b + 3 * σ (544 + 7 * b + 3) + 2) am) (544 + 7 * b + 3) (σ (544 + 7 * b + 3) + 1)) (544 + 7 * b + 6) (σ (544 + 7 * b + 6) + am)
  else updN σ (544 + 7 * b + 4) (σ (544 + 7 * b + 4) + 1)
def BW (σ : Nat → Nat) (b : Nat) : Prop := σ (544 + 7 * b) = 0 ∨ (σ (544 + 7 * b) = 1 ∧ σ (544 + 7 * b + 1) ≤ 3 ∧ σ (544 + 7 * b + 2) ≤ 30 ∧ σ (544 + 7 * b + 3) ≤ σ (544 + 7 * b + 2))
theorem BW_of {o : Ob} {σ : Nat → Nat} {b : Nat} (h : RCb o σ b) : BW σ b := by
  rcases h with h | h
  · exact Or.inl h.1
  · exact Or.inr ⟨h.1, h.2.2.1, h.2.2.2.1, h.2.2.2.2.1⟩
theorem BW_congr {σ σ' : Nat → Nat} {b : Nat} (h : BW σ b) (e : ∀ j, 544 + 7 * b ≤ j → j < 544 + 7 * b + 7 → σ' j = σ j) : BW σ' b := by
  unfold BW
  rw [e _ (by omega) (by omega), e _ (by omega) (by omega), e _ (by omega) (by omega), e _ (by omega) (by omega)]
  exact h
theorem RCb_congr {o : Ob} {σ σ' : Nat → Nat} {b : Nat} (h : RCb o σ b) (e : ∀ j, 544 + 7 * b ≤ j → j < 544 + 7 * b + 7 → σ' j = σ j) (e2 : ∀ j, 565 + 90 * b ≤ j → j < 565 + 90 * b + 90 → σ' j = σ j) : RCb o σ' b := by
  have q : ∀ i, i < 7 → σ' (544 + 7 * b + i) = σ (544 + 7 * b + i) := fun i hi => e _ (by omega) (by omega)
  have q0 := q 0 (by decide)
  rw [Nat.add_zero] at q0
  unfold RCb
  rw [q0, q 1 (by decide), q 2 (by decide), q 3 (by decide), q 4 (by decide), q 5 (by decide), q 6 (by decide)]
  rcases h with h | ⟨h0, h1, h2, h3, h4, h5, h6, h7, h8, h9, h10, h11⟩
  · exact Or.inl h
  · refine Or.inr ⟨h0, h1, h2, h3, h4, h5, h6, h7, h8, h9, h10, fun i hi => ?_⟩
    rw [e2 _ (by omega) (by omega), e2 _ (by omega) (by omega), e2 _ (by omega) (by omega)]
    exact h11 i hi
theorem bkN_fr {σ : Nat → Nat} {b kd it am j : Nat} (h : BW σ b) (h1 : j < 544 + 7 * b ∨ 544 + 7 * b + 7 ≤ j) (h2 : j < 565 + 90 * b ∨ 565 + 90 * b + 90 ≤ j) : bkN σ b kd it am j = σ j := by
  unfold bkN
  by_cases q : σ (544 + 7 * b) = 0
  · rw [if_pos q]
  · rw [if_neg q]
    obtain ⟨-, -, h4, h5⟩ := h.resolve_left q
    by_cases q2 : σ (544 + 7 * b + 3) = σ (544 + 7 * b + 2)
    · rw [if_pos q2, updN_ne (by omega)]
    · rw [if_neg q2]
      by_cases q3 : tkN (σ (544 + 7 * b + 1)) kd = true
      · rw [if_pos q3, updN_ne (by omega), updN_ne (by omega), updN_ne (by omega), updN_ne (by omega), updN_ne (by omega)]
      · rw [if_neg q3, updN_ne (by omega)]
theorem m_isTaken {b kd : Nat} (hb : b ≤ 3) (hk : kd ≤ 3) : f_X12_isTaken (nI b) (nI kd) = some (if tkN b kd = true then 1 else 0) := by
  have : ∀ b : Fin 4, ∀ kd : Fin 4, f_X12_isTaken (nI b.val) (nI kd.val) = some (if tkN b.val kd.val = true then 1 else 0) := by decide
  exact this ⟨b, by omega⟩ ⟨kd, by omega⟩
theorem c_takes {o : Ob} {b kd : Nat} (ho : o 1 0 = nI b) (hb : b ≤ 3) (hk : kd ≤ 3) : f_X0_takes o (nI kd) = some (if tkN b kd = true then 1 else 0) := by
  have : ∀ b : Fin 4, ∀ kd : Fin 4, f_X0_takes (fun _ _ => nI b.val) (nI kd.val) = some (if tkN b.val kd.val = true then 1 else 0) := by decide
  have h := this ⟨b, by omega⟩ ⟨kd, by omega⟩
  rw [← h]
  unfold f_X0_takes
  rw [ho]
theorem c_write {o : Ob} {σ : Nat → Nat} {b kd it am : Nat} (h : RCb o σ b) (hk : kd ≤ 3) : ∃ o', f_X0_write o (nI kd) (nI it) (nI am) = some o' ∧ RCb o' (bkN σ b kd it am) b := by
  unfold f_X0_write bkN
  rcases h with ⟨h0, h1, h2⟩ | ⟨h0, h1, h2, h3, h4, h5, h6, h7, h8, h9, h10, h11⟩
  · refine ⟨o, ?_, ?_⟩
    · rw [h1, if_pos rfl]
    · rw [if_pos h0]
      exact Or.inl ⟨h0, h1, h2⟩
  · rw [h1, h6, h7, if_neg (by decide), if_neg (by omega)]
    by_cases q : σ (544 + 7 * b + 3) = σ (544 + 7 * b + 2)
    · rw [q, if_neg (nI_nlt (Nat.le_refl _) (by omega)), if_pos rfl, nx_eq]
      refine ⟨_, rfl, Or.inr ?_⟩
      rw [updN_ne (by omega), updN_ne (by omega), updN_ne (by omega), updN_ne (by omega), updN_ne (by omega), updN_eq, updN_ne (by omega)]
      rw [si_ne (by decide), si_ne (by decide), si_ne (by decide), si_ne (by decide), si_ne (by decide), si_ne (by decide), si_ne (by decide), si_ne (by decide), si_ne (by decide), si_eq]
      refine ⟨h0, h1, h2, h3, h4, h5, h6, h7, h8, ?_, h10, fun i hi => ?_⟩
      · rw [h9]
        exact nI_1 _
      · rw [updN_ne (by omega), updN_ne (by omega), updN_ne (by omega)]
        exact h11 i hi
    · rw [if_pos (nI_lt (by omega) (by omega)), if_neg q, c_takes h5 h2 hk, zb1_s]
      by_cases q2 : tkN (σ (544 + 7 * b + 1)) kd = true
      · rw [if_pos q2, if_pos q2, if_neg (by decide)]
        simp (disch := omega) only [nx_eq, si_eq, si_ne, sa_eq, sa_ne, h7, gi_in, nI_clamp]
        refine ⟨_, rfl, Or.inr ?_⟩
        simp (disch := omega) only [updN_eq, updN_ne, si_eq, si_ne, sa_eq, sa_ne]
        refine ⟨h0, h1, h2, h3, by omega, h5, h6, ?_, h8, h9, ?_, fun i hi => ?_⟩
        · exact nI_1 _
        · rw [h10]
          exact nI_add _ _
        · by_cases e : i = σ (544 + 7 * b + 3)
          · subst e
            simp (disch := omega) only [updN_eq, updN_ne, upd_eq]
            exact ⟨trivial, trivial, trivial⟩
          · simp (disch := omega) only [updN_ne, upd_ne]
            exact h11 i (by omega)
      · rw [if_neg q2, if_neg q2, if_pos rfl, nx_eq]
        refine ⟨_, rfl, Or.inr ?_⟩
        simp (disch := omega) only [updN_eq, updN_ne, si_eq, si_ne]
        refine ⟨h0, h1, h2, h3, h4, h5, h6, h7, ?_, h9, h10, fun i hi => h11 i hi⟩
        rw [h8]
        exact nI_1 _
