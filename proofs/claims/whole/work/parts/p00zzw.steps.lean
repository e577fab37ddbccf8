/-! ===== names: the class's list of steps ===== -/
def LsC (o : Ob) (E : List Nat) : Prop := o 9 0 = nI (E.take 40).length ∧ ∀ i, i < (E.take 40).length → o 8 i = nI ((E.take 40).getD i 0)
theorem LsC_cg {o o' : Ob} {E E' : List Nat} (h : LsC o E) (h8 : o' 8 = o 8) (h9 : o' 9 = o 9) (e : E'.take 40 = E.take 40) : LsC o' E' := by
  unfold LsC
  rw [h8, h9, e]
  exact h
theorem tk_len (E : List Nat) : (E.take 40).length ≤ 40 := by
  rw [List.length_take]
  exact Nat.min_le_left _ _
theorem tk_full {E : List Nat} (h : ¬ (E.take 40).length < 40) (X : List Nat) : (E ++ X).take 40 = E.take 40 := by
  rw [List.length_take] at h
  exact List.take_append_of_le_length (by omega)
theorem tk_short {E : List Nat} (h : (E.take 40).length < 40) : E.take 40 = E ∧ E.length < 40 := by
  rw [List.length_take] at h
  have : E.length < 40 := by omega
  exact ⟨List.take_of_length_le (by omega), this⟩
theorem c_addStep {o : Ob} {E : List Nat} {k : Nat} (h : LsC o E) : ∃ o', f_X6_addStep o (nI k) = some o' ∧ LsC o' (E ++ [k]) ∧ (∀ j, j ≠ 8 → j ≠ 9 → o' j = o j) ∧ (∀ i, i < (E.take 40).length → o' 8 i = o 8 i) := by
  have hl := tk_len E
  by_cases q : (E.take 40).length < 40
  · obtain ⟨e1, e2⟩ := tk_short q
    have e3 : (E ++ [k]).take 40 = E ++ [k] := List.take_of_length_le (by rw [List.length_append, List.length_singleton]; omega)
    have h9 := h.1
    have h8 := h.2
    rw [e1] at h9 h8
    refine ⟨sa (si o 9 (nI (E.length + 1))) 8 (upd ((si o 9 (nI (E.length + 1))) 8) E.length (nI k)), ?_, ⟨?_, fun i hi => ?_⟩, fun j a b => ?_, fun i hi => ?_⟩
    · unfold f_X6_addStep
      simp (maxSteps := 3000000) (disch := omega) only [↓nx_q, zb0_s, zb1_s, zb2_s, zb3_s, zb4_s, zb5_s, zb6_s, zb7_s, zb8_s, zb9_s, zb10_s, zb11_s, zb12_s, zb13_s, zb14_s, q_lit, nI_add, pk_mul, e_cl, gi_in, gz_n0, gz_n1, e_gz, si_eq, si_ne, sa_eq, sa_ne, if_true, if_false, ↓reduceIte, k_ltT, k_ltF, k_leT, k_leF, k_eqT, k_eqF, k_m1lt, k_nm1, not_true_eq_false, not_false_eq_true, h9]
    · rw [e3, List.length_append, List.length_singleton]
      simp (disch := omega) only [si_eq, si_ne, sa_eq, sa_ne, upd_eq, upd_ne, updN_eq, updN_ne]
    · rw [e3] at hi ⊢
      rw [List.length_append, List.length_singleton] at hi
      by_cases z : i = E.length
      · subst z
        simp (disch := omega) only [si_eq, si_ne, sa_eq, sa_ne, upd_eq, upd_ne, updN_eq, updN_ne]
        rw [List.getD_eq_getElem?_getD, List.getElem?_append_right (Nat.le_refl _), Nat.sub_self]
        rfl
      · simp (disch := omega) only [si_eq, si_ne, sa_eq, sa_ne, upd_eq, upd_ne, updN_eq, updN_ne]
        rw [h8 i (by omega), List.getD_eq_getElem?_getD, List.getD_eq_getElem?_getD, List.getElem?_append_left (by omega)]
    · simp (disch := omega) only [si_eq, si_ne, sa_eq, sa_ne, upd_eq, upd_ne, updN_eq, updN_ne]
    · rw [e1] at hi
      simp (disch := omega) only [si_eq, si_ne, sa_eq, sa_ne, upd_eq, upd_ne, updN_eq, updN_ne]
  · have e0 : (E.take 40).length = 40 := by omega
    have h9 := h.1
    rw [e0] at h9
    refine ⟨o, ?_, LsC_cg h rfl rfl (tk_full q _), fun _ _ _ => rfl, fun _ _ => rfl⟩
    unfold f_X6_addStep
    simp (maxSteps := 3000000) (disch := omega) only [↓nx_q, zb0_s, zb1_s, zb2_s, zb3_s, zb4_s, zb5_s, zb6_s, zb7_s, zb8_s, zb9_s, zb10_s, zb11_s, zb12_s, zb13_s, zb14_s, q_lit, nI_add, pk_mul, e_cl, gi_in, gz_n0, gz_n1, e_gz, si_eq, si_ne, sa_eq, sa_ne, if_true, if_false, ↓reduceIte, k_ltT, k_ltF, k_leT, k_leF, k_eqT, k_eqF, k_m1lt, k_nm1, not_true_eq_false, not_false_eq_true, h9]
/-- the steps of a loop once more -/
theorem c_more {P B : List Nat} {x2 : Int32} (hPB : (P ++ B).length ≤ 40) (hx2 : x2 = nI (P ++ B).length) {Bd : Ob → Int32 → Option ((Ob × Int32) ⊕ Ob)} (hB : ∀ (o43 : Ob) (k44 : Int32), Bd o43 k44 = (
  if x2 ≤ k44 then (
  some (.inr o43)
  ) else (
  gi k44 40 <|
  zb1 (f_X6_addStep o43 (o43 8 (Int32.toNatClampNeg k44))) fun (o50 : Ob) =>
  nx (k44 + (1 : Int32)) fun x52 =>
  some (.inl (o50, x52))
  ))) : ∀ (n q : Nat) (o : Ob) (Y : List Nat), q + n = B.length → LsC o (P ++ B ++ Y ++ B.take q) → ∃ o', (∀ F, n < F → zl2 Bd F o (nI (P.length + q)) = some o') ∧ LsC o' (P ++ B ++ Y ++ B) ∧ ∀ j, j ≠ 8 → j ≠ 9 → o' j = o j := by
  intro n
  induction n with
  | zero =>
    intro q o Y hq h
    have e : B.take q = B := List.take_of_length_le (by omega)
    rw [e] at h
    refine ⟨o, fun F hF => ?_, h, fun _ _ _ => rfl⟩
    obtain ⟨F', rfl⟩ : ∃ F', F = F' + 1 := ⟨F - 1, by omega⟩
    refine zl2_o ?_
    rw [List.length_append] at hx2 hPB
    rw [hB, hx2]
    simp (maxSteps := 3000000) (disch := omega) only [↓nx_q, zb0_s, zb1_s, zb2_s, zb3_s, zb4_s, zb5_s, zb6_s, zb7_s, zb8_s, zb9_s, zb10_s, zb11_s, zb12_s, zb13_s, zb14_s, q_lit, nI_add, pk_mul, e_cl, gi_in, gz_n0, gz_n1, e_gz, si_eq, si_ne, sa_eq, sa_ne, if_true, if_false, ↓reduceIte, k_ltT, k_ltF, k_leT, k_leF, k_eqT, k_eqF, k_m1lt, k_nm1, not_true_eq_false, not_false_eq_true]
  | succ n ih =>
    intro q o Y hq h
    have hl : (P ++ B).length = P.length + B.length := List.length_append
    have hpre : ∀ i, i < P.length + B.length → i < ((P ++ B ++ Y ++ B.take q).take 40).length ∧ ((P ++ B ++ Y ++ B.take q).take 40).getD i 0 = (P ++ B).getD i 0 := by
      intro i hi
      refine ⟨?_, ?_⟩
      · rw [List.length_take, List.length_append, List.length_append, List.length_append]
        omega
      · rw [List.getD_eq_getElem?_getD, List.getD_eq_getElem?_getD, List.getElem?_take_of_lt (by omega), List.append_assoc, List.append_assoc, ← List.append_assoc P B, List.getElem?_append_left (by omega)]
    have hv : o 8 (P.length + q) = nI (B.getD q 0) := by
      rw [h.2 _ (hpre (P.length + q) (by omega)).1, (hpre (P.length + q) (by omega)).2, List.getD_eq_getElem?_getD, List.getD_eq_getElem?_getD, List.getElem?_append_right (by omega)]
      rw [show P.length + q - P.length = q by omega]
    obtain ⟨o1, e1, l1, f1, -⟩ := c_addStep (k := B.getD q 0) h
    have eT : P ++ B ++ Y ++ B.take q ++ [B.getD q 0] = P ++ B ++ Y ++ B.take (q + 1) := by
      rw [List.append_assoc _ (B.take q)]
      refine congrArg _ ?_
      rw [List.take_succ, List.getD_eq_getElem?_getD, List.getElem?_eq_getElem (by omega)]
      rfl
    rw [eT] at l1
    obtain ⟨o', e2, l2, f2⟩ := ih (q + 1) o1 Y (by omega) l1
    refine ⟨o', fun F hF => ?_, l2, fun j a b => (f2 j a b).trans (f1 j a b)⟩
    obtain ⟨F', rfl⟩ : ∃ F', F = F' + 1 := ⟨F - 1, by omega⟩
    rw [zl2_i (b0 := o1) (b1 := nI (P.length + (q + 1)))]
    · exact e2 F' (by omega)
    · rw [hB, hx2, hl]
      have z : ∀ {β : Type} {f : Ob → Option β}, zb1 (f_X6_addStep o (nI (B.getD q 0))) f = f o1 := fun {_ _} => zb1_of e1
      simp (maxSteps := 3000000) (disch := omega) only [↓nx_q, zb0_s, zb1_s, zb2_s, zb3_s, zb4_s, zb5_s, zb6_s, zb7_s, zb8_s, zb9_s, zb10_s, zb11_s, zb12_s, zb13_s, zb14_s, q_lit, nI_add, pk_mul, e_cl, gi_in, gz_n0, gz_n1, e_gz, si_eq, si_ne, sa_eq, sa_ne, if_true, if_false, ↓reduceIte, k_ltT, k_ltF, k_leT, k_leF, k_eqT, k_eqF, k_m1lt, k_nm1, not_true_eq_false, not_false_eq_true, hv, z, Nat.add_assoc]
