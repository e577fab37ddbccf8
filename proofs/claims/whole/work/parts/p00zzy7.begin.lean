/-! ===== both at their start ===== -/
theorem R_start : Rel V0 (fun _ => none) (fun _ => none) M0 := by
  have v5 : V0 5 = si (si oz 0 (nI 6)) 1 (nI 1) := rfl
  have v14 : V0 14 = si (si (si oz 0 (nI 1)) 7 (-nI 1)) 8 (-nI 1) := rfl
  have v15 : V0 15 = si (si (si oz 0 (nI 0)) 7 (-nI 1)) 8 (-nI 1) := rfl
  have vz : ∀ i, i ≠ 5 → i ≠ 13 → i ≠ 14 → i ≠ 15 → V0 i = oz := fun i a b c d => by
    unfold V0
    rw [if_neg a, if_neg b, if_neg c, if_neg d]
  have mz : ∀ j, j ≠ 0 → M0 j = oz j := fun j h => by
    unfold M0
    rw [sa_ne h]
  have o0 : ∀ i k, oz i k = nI 0 := fun _ _ => rfl
  obtain ⟨σ, hσ⟩ : ∃ σ : Nat → Nat, σ = updN (updN (fun _ => 0) 0 6) 1 1 := ⟨_, rfl⟩
  have hM : M0 0 = rw σ := by
    rw [hσ]
    unfold M0
    rw [sa_eq]
    show upd (upd (rw (fun _ => 0)) 0 (nI 6)) 1 (nI 1) = _
    rw [upd_rw, upd_rw]
  have s0 : σ 0 = 6 := by rw [hσ, updN_ne (by decide), updN_eq]
  have s1 : σ 1 = 1 := by rw [hσ, updN_eq]
  have sz : ∀ k, 2 ≤ k → σ k = 0 := fun k h => by rw [hσ, updN_ne (by omega), updN_ne (by omega)]
  have s2 := sz 2 (by decide)
  have s3 := sz 3 (by decide)
  have s7 := sz 7 (by decide)
  have cb : ∀ i, RCb oz σ i := fun i => Or.inl ⟨sz _ (by omega), rfl, rfl⟩
  refine ⟨σ, 0, false, true, ⟨hM, ?_, ?_⟩, ?_, ?_, ?_, ?_, ?_⟩
  · refine ⟨⟨by omega, by rw [s3]; exact Nat.two_pow_pos _, by omega, by rw [lies_e s3]; omega, fun k hk => by omega, fun k hk => ?_⟩, by omega, by omega, fun k hk => ?_, fun k hk => by omega, fun k hk => by omega, fun i hi => by omega⟩
    · rw [sz (32 + k) (by omega)]
      exact ⟨by omega, fun _ => rfl⟩
    · rw [sz (48 + k) (by omega)]
      exact ⟨Or.inl rfl, fun _ => rfl⟩
  · refine RC_un (o := oz) (w := oz) (s := si (si oz 0 (nI 6)) 1 (nI 1)) (l := oz) (b0 := oz) (b1 := oz) (b2 := oz) ⟨⟨?_, ?_, ?_⟩, ⟨?_, fun k hk => by omega⟩, ⟨?_, ?_, ?_, ?_, fun k hk => ?_⟩, ⟨?_, fun i hi => by omega⟩, cb 0, cb 1, cb 2⟩ (vz 3 (by decide) (by decide) (by decide) (by decide)) (vz 4 (by decide) (by decide) (by decide) (by decide)) v5 (vz 6 (by decide) (by decide) (by decide) (by decide)) (vz 7 (by decide) (by decide) (by decide) (by decide)) (vz 8 (by decide) (by decide) (by decide) (by decide)) (vz 9 (by decide) (by decide) (by decide) (by decide))
    · rw [sz 4 (by decide)]; rfl
    · rw [sz 5 (by decide)]; rfl
    · rw [sz 6 (by decide)]; rfl
    · rw [s2]; rfl
    · rw [s0]
      show si (si oz 0 (nI 6)) 1 (nI 1) 0 0 = _
      simp (disch := omega) only [si_eq, si_ne, sa_eq, sa_ne, upd_eq, upd_ne, updN_eq, updN_ne]
    · rw [s1]
      show si (si oz 0 (nI 6)) 1 (nI 1) 1 0 = _
      simp (disch := omega) only [si_eq, si_ne, sa_eq, sa_ne, upd_eq, upd_ne, updN_eq, updN_ne]
    · rw [s3]
      show si (si oz 0 (nI 6)) 1 (nI 1) 2 0 = _
      simp (disch := omega) only [si_eq, si_ne, sa_eq, sa_ne, upd_eq, upd_ne, updN_eq, updN_ne]
      rfl
    · rw [lies_e s3]
      show si (si oz 0 (nI 6)) 1 (nI 1) 3 0 = _
      simp (disch := omega) only [si_eq, si_ne, sa_eq, sa_ne, upd_eq, upd_ne, updN_eq, updN_ne]
      rfl
    · rw [sz (32 + k) (by omega), sz (40 + k) (by omega), sz (48 + k) (by omega)]
      show si (si oz 0 (nI 6)) 1 (nI 1) 4 k = _ ∧ si (si oz 0 (nI 6)) 1 (nI 1) 6 k = _ ∧ (_ → si (si oz 0 (nI 6)) 1 (nI 1) 5 k = _)
      simp (disch := omega) only [si_eq, si_ne, sa_eq, sa_ne, upd_eq, upd_ne, updN_eq, updN_ne]
      exact ⟨rfl, rfl, fun _ => rfl⟩
    · rw [s7]; rfl
  · rw [vz 11 (by decide) (by decide) (by decide) (by decide)]
    exact ⟨by decide, rfl, rfl, fun i hi => absurd hi (Nat.not_lt_zero _)⟩
  · exact ⟨by decide, by rw [mz 20 (by decide)]; rfl, by rw [mz 21 (by decide)]; rfl, fun i hi => absurd hi (Nat.not_lt_zero _)⟩
  · rw [vz 10 (by decide) (by decide) (by decide) (by decide)]
    exact ⟨0, 0, fun _ _ => 0, by decide, by decide, rfl, rfl, by rw [mz 5 (by decide)]; rfl, fun j hj => absurd hj (Nat.not_lt_zero _)⟩
  · rw [v14]
    refine Or.inl ⟨?_, ?_⟩
    · simp (disch := omega) only [si_eq, si_ne, sa_eq, sa_ne, upd_eq, upd_ne, updN_eq, updN_ne]
    · simp (disch := omega) only [si_eq, si_ne, sa_eq, sa_ne, upd_eq, upd_ne, updN_eq, updN_ne]
  · unfold RelO
    rw [vz 0 (by decide) (by decide) (by decide) (by decide), vz 1 (by decide) (by decide) (by decide) (by decide), vz 16 (by decide) (by decide) (by decide) (by decide), v14, v15, mz 13 (by decide), mz 39 (by decide), mz 38 (by decide), mz 42 (by decide), mz 41 (by decide)]
    refine ⟨⟨0, fun _ => 0, by decide, rfl, by rw [mz 7 (by decide)]; rfl, fun i hi => absurd hi (Nat.not_lt_zero _)⟩, rfl, ⟨0, by decide, rfl, rfl, fun i hi => absurd hi (Nat.not_lt_zero _)⟩, ⟨0, by decide, rfl, rfl, fun i hi => absurd hi (Nat.not_lt_zero _)⟩, fun k hk => Or.inl ⟨by rw [mz 4 (by decide)]; rfl, rfl⟩, ?_, ?_⟩
    · simp (disch := omega) only [si_eq, si_ne, sa_eq, sa_ne, upd_eq, upd_ne, updN_eq, updN_ne]
    · simp (disch := omega) only [si_eq, si_ne, sa_eq, sa_ne, upd_eq, upd_ne, updN_eq, updN_ne]
