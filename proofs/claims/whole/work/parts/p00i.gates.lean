/-! ===== GATES ===== -/
def GM (M : Ob) (g : Nat) (fl : Bool) : Prop := g ≤ 15 ∧ M 20 0 = nI (4 * g) ∧ (M 21 0 = if fl then nI 0 else nI 1) ∧ ∀ i, i < 4 * g → M 19 i = nI (i % 4 + 1)
def GC (o : Ob) (g : Nat) (fl : Bool) : Prop := g ≤ 15 ∧ o 1 0 = nI (4 * g) ∧ (o 2 0 = if fl then nI 1 else nI 0) ∧ ∀ i, i < 4 * g → o 0 i = nI (i % 4 + 1)
def psg (g : Nat) (fl : Bool) : Nat := if (if fl then 0 else g) < 15 then (if fl then 0 else g) + 1 else 15
theorem psg_f (g : Nat) : psg g false = if g < 15 then g + 1 else 15 := rfl
theorem psg_t (g : Nat) : psg g true = 1 := rfl
theorem psg_le (g : Nat) (fl : Bool) : psg g fl ≤ 15 := by
  cases fl
  · rw [psg_f]
    split <;> omega
  · rw [psg_t]
    decide
theorem m_gatesLoop {M : Ob} {g : Nat} (h : GM M g false) {F : Nat} (hF : 4 < F) : Ok (ze1 (zl2 (fun (o14 : Ob) (k15 : Int32) => (
  if (5 : Int32) ≤ k15 then (
  some (.inr (.inl o14))
  ) else (
  if o14 20 0 = (60 : Int32) then (
  some (.inr (.inr o14))
  ) else (
  gi (o14 20 0) 60 <|
  nx (sa o14 19 (upd (o14 19) (Int32.toNatClampNeg (o14 20 0)) k15)) fun o20 =>
  nx (si o20 20 ((o20 20 0) + (1 : Int32))) fun o21 =>
  nx (k15 + (1 : Int32)) fun x22 =>
  some (.inl (o21, x22))
  )
  )
  )) F M (1 : Int32)) (fun r => some r) <| fun (o16 : Ob) =>
  some o16) (fun M' => GM M' (psg g false) false ∧ ∀ j, j ≠ 19 → j ≠ 20 → j ≠ 21 → M' j = M j) := by
  obtain ⟨h1, h2, h3, h4⟩ := h
  rw [ok_ze1]
  refine ok_mono (ok_zl2 (Q := fun x => ∃ o, (x = Sum.inl o ∨ x = Sum.inr o) ∧ GM o (psg g false) false ∧ ∀ j, j ≠ 19 → j ≠ 20 → j ≠ 21 → o j = M j) (fun i o k => k = nI (1 + i) ∧ (i = 0 ∨ g < 15) ∧ o 20 0 = nI (4 * g + i) ∧ o 21 0 = nI 1 ∧ (∀ j, j < 4 * g + i → o 19 j = nI (j % 4 + 1)) ∧ ∀ j, j ≠ 19 → j ≠ 20 → j ≠ 21 → o j = M j) 4 (fun i o k hi hI => ?_) hF ⟨rfl, Or.inl rfl, h2, h3, h4, fun _ _ _ _ => rfl⟩) (fun x hx => ?_)
  · obtain ⟨rfl, hg, e20, e21, e19, hf⟩ := hI
    have hgi : 4 * g + i ≤ 64 := by omega
    by_cases q : i = 4
    · simp (disch := omega) only [↓nx_q, zb0_s, zb1_s, zb2_s, zb3_s, zb4_s, zb5_s, zb6_s, zb7_s, zb8_s, zb9_s, zb10_s, zb11_s, zb12_s, zb13_s, zb14_s, q_lit, nI_add, pk_mul, e_cl, gi_in, gz_n0, gz_n1, e_gz, si_eq, si_ne, sa_eq, sa_ne, if_true, if_false, ↓reduceIte, k_ltT, k_ltF, k_leT, k_leF, k_eqT, k_eqF, k_m1lt, k_nm1, not_true_eq_false, not_false_eq_true]
      refine ⟨_, rfl, o, Or.inl rfl, ⟨psg_le _ _, ?_, e21, ?_⟩, hf⟩
      · rw [e20]
        unfold psg
        rw [if_pos (by simp; omega)]
        congr 1
        simp
        omega
      · intro j hj
        unfold psg at hj
        rw [if_pos (by simp; omega)] at hj
        exact e19 j (by simp at hj; omega)
    · by_cases q2 : 4 * g + i = 60
      · simp (disch := omega) only [↓nx_q, zb0_s, zb1_s, zb2_s, zb3_s, zb4_s, zb5_s, zb6_s, zb7_s, zb8_s, zb9_s, zb10_s, zb11_s, zb12_s, zb13_s, zb14_s, q_lit, nI_add, pk_mul, e_cl, gi_in, gz_n0, gz_n1, e_gz, si_eq, si_ne, sa_eq, sa_ne, if_true, if_false, ↓reduceIte, k_ltT, k_ltF, k_leT, k_leF, k_eqT, k_eqF, k_m1lt, k_nm1, not_true_eq_false, not_false_eq_true, e20]
        refine ⟨_, rfl, o, Or.inr rfl, ⟨psg_le _ _, ?_, e21, ?_⟩, hf⟩
        · rw [e20]
          unfold psg
          rw [if_neg (by simp; omega)]
          congr 1
        · intro j hj
          unfold psg at hj
          rw [if_neg (by simp; omega)] at hj
          exact e19 j (by omega)
      · simp (disch := omega) only [↓nx_q, zb0_s, zb1_s, zb2_s, zb3_s, zb4_s, zb5_s, zb6_s, zb7_s, zb8_s, zb9_s, zb10_s, zb11_s, zb12_s, zb13_s, zb14_s, q_lit, nI_add, pk_mul, e_cl, gi_in, gz_n0, gz_n1, e_gz, si_eq, si_ne, sa_eq, sa_ne, if_true, if_false, ↓reduceIte, k_ltT, k_ltF, k_leT, k_leF, k_eqT, k_eqF, k_m1lt, k_nm1, not_true_eq_false, not_false_eq_true, e20]
        refine ⟨_, rfl, by omega, ?_, Or.inr (by omega), ?_, ?_, ?_, ?_⟩
        · exact congrArg nI (by omega)
        · simp (disch := omega) only [si_eq, si_ne, sa_eq, sa_ne, upd_eq, upd_ne, updN_eq, updN_ne]
          exact congrArg nI (by omega)
        · simp (disch := omega) only [si_eq, si_ne, sa_eq, sa_ne, upd_eq, upd_ne, updN_eq, updN_ne, e21]
        · intro j hj
          by_cases e : j = 4 * g + i
          · subst e
            simp (disch := omega) only [si_eq, si_ne, sa_eq, sa_ne, upd_eq, upd_ne, updN_eq, updN_ne]
            congr 1
            omega
          · simp (disch := omega) only [si_eq, si_ne, sa_eq, sa_ne, upd_eq, upd_ne, updN_eq, updN_ne]
            exact e19 j (by omega)
        · intro j a b c
          simp (disch := omega) only [si_eq, si_ne, sa_eq, sa_ne, upd_eq, upd_ne, updN_eq, updN_ne]
          exact hf j a b c
  · obtain ⟨o, rfl | rfl, hq⟩ := hx
    · exact ⟨o, rfl, hq⟩
    · exact ⟨o, rfl, hq⟩
theorem m_gatesOpen {M : Ob} {g : Nat} {fl : Bool} (h : GM M g fl) : Ok (f_X12_gatesOpen M) (fun M' => GM M' (psg g fl) false ∧ ∀ j, j ≠ 19 → j ≠ 20 → j ≠ 21 → M' j = M j) := by
  obtain ⟨h1, h2, h3, h4⟩ := h
  unfold f_X12_gatesOpen
  cases fl
  · rw [nx_eq, if_neg (by rw [h3]; decide)]
    refine ok_mono (m_gatesLoop (M := si M 21 1) (g := g) ⟨h1, ?_, ?_, ?_⟩ (fu_lt (by decide))) (fun M' hq => ⟨hq.1, fun j a b c => ?_⟩)
    · simp (disch := omega) only [si_eq, si_ne, sa_eq, sa_ne, upd_eq, upd_ne, updN_eq, updN_ne, h2]
    · exact si_eq _ _ _ _
    · intro i hi
      simp (disch := omega) only [si_eq, si_ne, sa_eq, sa_ne, upd_eq, upd_ne, updN_eq, updN_ne]
      exact h4 i hi
    · rw [hq.2 j a b c, si_ne c]
  · rw [nx_eq, if_pos (by rw [h3]; rfl), nx_eq]
    refine ok_mono (m_gatesLoop (M := si (si M 20 0) 21 1) (g := 0) ⟨by omega, ?_, ?_, ?_⟩ (fu_lt (by decide))) (fun M' hq => ⟨hq.1, fun j a b c => ?_⟩)
    · simp (disch := omega) only [si_eq, si_ne, sa_eq, sa_ne, upd_eq, upd_ne, updN_eq, updN_ne]
      rfl
    · exact si_eq _ _ _ _
    · intro i hi
      omega
    · rw [hq.2 j a b c, si_ne c, si_ne b]
theorem c_passLoop {M : Ob} {g : Nat} (h : GC M g false) {F : Nat} (hF : 4 < F) : Ok (zb1 (zl2 (fun (o14 : Ob) (k15 : Int32) => (
  if (4 : Int32) < k15 then (
  some (.inr o14)
  ) else (
  if (60 : Int32) ≤ o14 1 0 then (
  some (.inr o14)
  ) else (
  nx (si o14 1 ((o14 1 0) + (1 : Int32))) fun o19 =>
  gi (o14 1 0) 60 <|
  nx (sa o19 0 (upd (o19 0) (Int32.toNatClampNeg (o14 1 0)) k15)) fun o21 =>
  nx (k15 + (1 : Int32)) fun x22 =>
  some (.inl (o21, x22))
  )
  )
  )) F M (1 : Int32)) <| fun (o16 : Ob) =>
  some o16) (fun M' => GC M' (psg g false) false) := by
  obtain ⟨h1, h2, h3, h4⟩ := h
  rw [ok_zb1]
  refine ok_mono (ok_zl2 (Q := fun o => GC o (psg g false) false) (fun i o k => k = nI (1 + i) ∧ (i = 0 ∨ g < 15) ∧ o 1 0 = nI (4 * g + i) ∧ o 2 0 = nI 0 ∧ (∀ j, j < 4 * g + i → o 0 j = nI (j % 4 + 1))) 4 (fun i o k hi hI => ?_) hF ⟨rfl, Or.inl rfl, h2, h3, h4⟩) (fun x hx => ?_)
  · obtain ⟨rfl, hg, e20, e21, e19⟩ := hI
    have hgi : 4 * g + i ≤ 64 := by omega
    by_cases q : i = 4
    · simp (disch := omega) only [↓nx_q, zb0_s, zb1_s, zb2_s, zb3_s, zb4_s, zb5_s, zb6_s, zb7_s, zb8_s, zb9_s, zb10_s, zb11_s, zb12_s, zb13_s, zb14_s, q_lit, nI_add, pk_mul, e_cl, gi_in, gz_n0, gz_n1, e_gz, si_eq, si_ne, sa_eq, sa_ne, if_true, if_false, ↓reduceIte, k_ltT, k_ltF, k_leT, k_leF, k_eqT, k_eqF, k_m1lt, k_nm1, not_true_eq_false, not_false_eq_true]
      refine ⟨_, rfl, psg_le _ _, ?_, e21, ?_⟩
      · rw [e20, psg_f, if_pos (by omega)]
        exact congrArg nI (by omega)
      · intro j hj
        rw [psg_f, if_pos (by omega)] at hj
        exact e19 j (by omega)
    · by_cases q2 : 4 * g + i = 60
      · simp (disch := omega) only [↓nx_q, zb0_s, zb1_s, zb2_s, zb3_s, zb4_s, zb5_s, zb6_s, zb7_s, zb8_s, zb9_s, zb10_s, zb11_s, zb12_s, zb13_s, zb14_s, q_lit, nI_add, pk_mul, e_cl, gi_in, gz_n0, gz_n1, e_gz, si_eq, si_ne, sa_eq, sa_ne, if_true, if_false, ↓reduceIte, k_ltT, k_ltF, k_leT, k_leF, k_eqT, k_eqF, k_m1lt, k_nm1, not_true_eq_false, not_false_eq_true, e20]
        refine ⟨_, rfl, psg_le _ _, ?_, e21, ?_⟩
        · rw [e20, psg_f, if_neg (by omega)]
          exact congrArg nI (by omega)
        · intro j hj
          rw [psg_f, if_neg (by omega)] at hj
          exact e19 j (by omega)
      · simp (disch := omega) only [↓nx_q, zb0_s, zb1_s, zb2_s, zb3_s, zb4_s, zb5_s, zb6_s, zb7_s, zb8_s, zb9_s, zb10_s, zb11_s, zb12_s, zb13_s, zb14_s, q_lit, nI_add, pk_mul, e_cl, gi_in, gz_n0, gz_n1, e_gz, si_eq, si_ne, sa_eq, sa_ne, if_true, if_false, ↓reduceIte, k_ltT, k_ltF, k_leT, k_leF, k_eqT, k_eqF, k_m1lt, k_nm1, not_true_eq_false, not_false_eq_true, e20]
        refine ⟨_, rfl, by omega, ?_, Or.inr (by omega), ?_, ?_, ?_⟩
        · exact congrArg nI (by omega)
        · simp (disch := omega) only [si_eq, si_ne, sa_eq, sa_ne, upd_eq, upd_ne, updN_eq, updN_ne]
          exact congrArg nI (by omega)
        · simp (disch := omega) only [si_eq, si_ne, sa_eq, sa_ne, upd_eq, upd_ne, updN_eq, updN_ne, e21]
        · intro j hj
          by_cases e : j = 4 * g + i
          · subst e
            simp (disch := omega) only [si_eq, si_ne, sa_eq, sa_ne, upd_eq, upd_ne, updN_eq, updN_ne]
            exact congrArg nI (by omega)
          · simp (disch := omega) only [si_eq, si_ne, sa_eq, sa_ne, upd_eq, upd_ne, updN_eq, updN_ne]
            exact e19 j (by omega)
  · exact ok_some.mpr hx
theorem c_pass {o : Ob} {g : Nat} {fl : Bool} (h : GC o g fl) : Ok (f_X2_pass o) (fun o' => GC o' (psg g fl) false) := by
  obtain ⟨h1, h2, h3, h4⟩ := h
  unfold f_X2_pass
  cases fl
  · rw [nx_eq, if_pos (by rw [h3]; rfl)]
    exact c_passLoop ⟨h1, h2, h3, h4⟩ (fu_lt (by decide))
  · rw [nx_eq, if_neg (by rw [h3]; decide), nx_eq, nx_eq]
    refine ok_mono (c_passLoop (g := 0) ⟨by omega, ?_, ?_, ?_⟩ (fu_lt (by decide))) (fun _ hq => hq)
    · simp (disch := omega) only [si_eq, si_ne, sa_eq, sa_ne, upd_eq, upd_ne, updN_eq, updN_ne]
      rfl
    · exact si_eq _ _ _ _
    · intro i hi
      omega
