/-! ===== names: all steps, read by both ===== -/
def rdC (w : Ob) : Ob → Int32 → Option ((Ob × Int32) ⊕ (Ob ⊕ (Ob × Int32))) := fun (o20 : Ob) (k21 : Int32) => (
  if (400 : Int32) ≤ k21 then (
  some (.inr (.inl o20))
  ) else (
  nx (fun (_ : Unit) => (
  zb2 (f_X6_readStep o20 w) fun (o28 : Ob) (r29 : Int32) =>
  if r29 = 0 then (
  some (.inr (.inr (o28, (0 : Int32))))
  ) else (
  nx (k21 + (1 : Int32)) fun x31 =>
  some (.inl (o28, x31))
  )
  )) fun K27 =>
  if o20 13 0 = (1 : Int32) then (
  if o20 10 0 ≤ 0 then (
  some (.inr (.inl o20))
  ) else (
  K27 ()
  )
  ) else (
  K27 ()
  )
  ))
theorem rd_e (o w : Ob) : f_X6_readSteps o w = zb2 (f_X6_start (si (si o 9 (0 : Int32)) 10 (0 : Int32))) (fun (o3 : Ob) (r4 : Int32) => if r4 = 0 then some (o3, (0 : Int32)) else ze1 (zl2 (rdC w) FU o3 (0 : Int32)) (fun r => some r) (fun (o22 : Ob) => some (o22, (1 : Int32)))) := rfl
theorem steps_both {w : Ob} {σ t : Nat → Nat} {n : Nat} (hw : RCw w σ) (h8 : σ 2 ≤ 8) (hWn : WFn σ) : ∀ (Q : Nat) (o M : Ob) (a x k N d : Nat) (p e : Nat → Nat) (E : List Nat) (i : Nat), NJ o M σ t n a x k N d p e E → i + d ≤ a → n - a ≤ Q → (∃ o' M' a' x' k' N' p' e' E', (∀ F, Q < F → zl2 (rdC w) F o (nI i) = some (.inl o')) ∧ (∀ F, Q < F → zl1 nsM F M = some (.inl M')) ∧ NJ o' M' σ t n a' x' k' N' 0 p' e' E' ∧ FrZ M M') ∨ (∃ o' M', (∀ F, Q < F → zl2 (rdC w) F o (nI i) = some (.inr (o', nI 0))) ∧ (∀ F, Q < F → zl1 nsM F M = some (.inr (M', nI 0))) ∧ SFt M o' M') := by
  intro Q
  induction Q with
  | zero =>
    intro o M a x k N d p e E i hJ hi hQ
    have h := hJ.1
    have hn := h.1.2.1
    have hxn := h.2.2.1
    have e13 := h.2.2.2.1.2.2.1
    have e11 := h.2.2.2.2.1.2.2.1
    have o10 := hJ.2.2.2.2.2.1
    have m27 := hJ.2.2.2.2.1
    have hd := hJ.2.2.1
    by_cases q : k = 1 ∧ d = 0
    · obtain ⟨rfl, rfl⟩ := q
      refine Or.inl ⟨o, M, a, x, 1, N, p, e, E, fun F hF => ?_, fun F hF => ?_, hJ, fun _ _ => rfl⟩
      · obtain ⟨F', rfl⟩ : ∃ F', F = F' + 1 := ⟨F - 1, by omega⟩
        refine zl2_o ?_
        unfold rdC
        by_cases q : 400 ≤ i
        · simp (maxSteps := 3000000) (disch := omega) only [↓nx_q, zb0_s, zb1_s, zb2_s, zb3_s, zb4_s, zb5_s, zb6_s, zb7_s, zb8_s, zb9_s, zb10_s, zb11_s, zb12_s, zb13_s, zb14_s, q_lit, nI_add, pk_mul, e_cl, gi_in, gz_n0, gz_n1, e_gz, si_eq, si_ne, sa_eq, sa_ne, if_true, if_false, ↓reduceIte, k_ltT, k_ltF, k_leT, k_leF, k_eqT, k_eqF, k_m1lt, k_nm1, not_true_eq_false, not_false_eq_true]
        · simp (maxSteps := 3000000) (disch := omega) only [↓nx_q, zb0_s, zb1_s, zb2_s, zb3_s, zb4_s, zb5_s, zb6_s, zb7_s, zb8_s, zb9_s, zb10_s, zb11_s, zb12_s, zb13_s, zb14_s, q_lit, nI_add, pk_mul, e_cl, gi_in, gz_n0, gz_n1, e_gz, si_eq, si_ne, sa_eq, sa_ne, if_true, if_false, ↓reduceIte, k_ltT, k_ltF, k_leT, k_leF, k_eqT, k_eqF, k_m1lt, k_nm1, not_true_eq_false, not_false_eq_true, e13, o10]
      · obtain ⟨F', rfl⟩ : ∃ F', F = F' + 1 := ⟨F - 1, by omega⟩
        refine zl1_o ?_
        unfold nsM
        have e11' : M 11 0 = nI 0 := e11
        simp (maxSteps := 3000000) (disch := omega) only [↓nx_q, zb0_s, zb1_s, zb2_s, zb3_s, zb4_s, zb5_s, zb6_s, zb7_s, zb8_s, zb9_s, zb10_s, zb11_s, zb12_s, zb13_s, zb14_s, q_lit, nI_add, pk_mul, e_cl, gi_in, gz_n0, gz_n1, e_gz, si_eq, si_ne, sa_eq, sa_ne, if_true, if_false, ↓reduceIte, k_ltT, k_ltF, k_leT, k_leF, k_eqT, k_eqF, k_m1lt, k_nm1, not_true_eq_false, not_false_eq_true, e11', m27]
    · have hi4 : i < 400 := by
        by_cases k1 : k = 1
        · omega
        · have := h.2.2.2.2.2.1.2.2 k1
          omega
      rcases step_both hJ hw h8 hWn q with ⟨o', M', a', x', k', N', d', p', e', E', z1, z2, z3, z4, z5, z6⟩ | ⟨o', M', z1, z2, z3⟩
      · have h' := z3.1
        have := h'.2.2.1
        have := h'.2.2.2.2.2.1
        omega
      · refine Or.inr ⟨o', M', fun F hF => ?_, fun F hF => ?_, z3⟩
        · obtain ⟨F', rfl⟩ : ∃ F', F = F' + 1 := ⟨F - 1, by omega⟩
          refine zl2_o ?_
          unfold rdC
          have z : ∀ {β : Type} {f : Ob → Int32 → Option β}, zb2 (f_X6_readStep o w) f = f o' (nI 0) := fun {_ _} => zb2_of z1
          by_cases k1 : k = 1
          · have d1 : 0 < d := by omega
            simp (maxSteps := 3000000) (disch := omega) only [↓z, ↓nx_q, zb0_s, zb1_s, zb2_s, zb3_s, zb4_s, zb5_s, zb6_s, zb7_s, zb8_s, zb9_s, zb10_s, zb11_s, zb12_s, zb13_s, zb14_s, q_lit, nI_add, pk_mul, e_cl, gi_in, gz_n0, gz_n1, e_gz, si_eq, si_ne, sa_eq, sa_ne, if_true, if_false, ↓reduceIte, k_ltT, k_ltF, k_leT, k_leF, k_eqT, k_eqF, k_m1lt, k_nm1, not_true_eq_false, not_false_eq_true, e13, o10]
          · have hk := h.2.2.1.2.2
            simp (maxSteps := 3000000) (disch := omega) only [↓z, ↓nx_q, zb0_s, zb1_s, zb2_s, zb3_s, zb4_s, zb5_s, zb6_s, zb7_s, zb8_s, zb9_s, zb10_s, zb11_s, zb12_s, zb13_s, zb14_s, q_lit, nI_add, pk_mul, e_cl, gi_in, gz_n0, gz_n1, e_gz, si_eq, si_ne, sa_eq, sa_ne, if_true, if_false, ↓reduceIte, k_ltT, k_ltF, k_leT, k_leF, k_eqT, k_eqF, k_m1lt, k_nm1, not_true_eq_false, not_false_eq_true, e13, o10]
        · obtain ⟨F', rfl⟩ : ∃ F', F = F' + 1 := ⟨F - 1, by omega⟩
          exact zl1_o z2
  | succ Q ih =>
    intro o M a x k N d p e E i hJ hi hQ
    have h := hJ.1
    have hn := h.1.2.1
    have hxn := h.2.2.1
    have e13 := h.2.2.2.1.2.2.1
    have e11 := h.2.2.2.2.1.2.2.1
    have o10 := hJ.2.2.2.2.2.1
    have m27 := hJ.2.2.2.2.1
    have hd := hJ.2.2.1
    by_cases q : k = 1 ∧ d = 0
    · obtain ⟨rfl, rfl⟩ := q
      refine Or.inl ⟨o, M, a, x, 1, N, p, e, E, fun F hF => ?_, fun F hF => ?_, hJ, fun _ _ => rfl⟩
      · obtain ⟨F', rfl⟩ : ∃ F', F = F' + 1 := ⟨F - 1, by omega⟩
        refine zl2_o ?_
        unfold rdC
        by_cases q : 400 ≤ i
        · simp (maxSteps := 3000000) (disch := omega) only [↓nx_q, zb0_s, zb1_s, zb2_s, zb3_s, zb4_s, zb5_s, zb6_s, zb7_s, zb8_s, zb9_s, zb10_s, zb11_s, zb12_s, zb13_s, zb14_s, q_lit, nI_add, pk_mul, e_cl, gi_in, gz_n0, gz_n1, e_gz, si_eq, si_ne, sa_eq, sa_ne, if_true, if_false, ↓reduceIte, k_ltT, k_ltF, k_leT, k_leF, k_eqT, k_eqF, k_m1lt, k_nm1, not_true_eq_false, not_false_eq_true]
        · simp (maxSteps := 3000000) (disch := omega) only [↓nx_q, zb0_s, zb1_s, zb2_s, zb3_s, zb4_s, zb5_s, zb6_s, zb7_s, zb8_s, zb9_s, zb10_s, zb11_s, zb12_s, zb13_s, zb14_s, q_lit, nI_add, pk_mul, e_cl, gi_in, gz_n0, gz_n1, e_gz, si_eq, si_ne, sa_eq, sa_ne, if_true, if_false, ↓reduceIte, k_ltT, k_ltF, k_leT, k_leF, k_eqT, k_eqF, k_m1lt, k_nm1, not_true_eq_false, not_false_eq_true, e13, o10]
      · obtain ⟨F', rfl⟩ : ∃ F', F = F' + 1 := ⟨F - 1, by omega⟩
        refine zl1_o ?_
        unfold nsM
        have e11' : M 11 0 = nI 0 := e11
        simp (maxSteps := 3000000) (disch := omega) only [↓nx_q, zb0_s, zb1_s, zb2_s, zb3_s, zb4_s, zb5_s, zb6_s, zb7_s, zb8_s, zb9_s, zb10_s, zb11_s, zb12_s, zb13_s, zb14_s, q_lit, nI_add, pk_mul, e_cl, gi_in, gz_n0, gz_n1, e_gz, si_eq, si_ne, sa_eq, sa_ne, if_true, if_false, ↓reduceIte, k_ltT, k_ltF, k_leT, k_leF, k_eqT, k_eqF, k_m1lt, k_nm1, not_true_eq_false, not_false_eq_true, e11', m27]
    · have hi4 : i < 400 := by
        by_cases k1 : k = 1
        · omega
        · have := h.2.2.2.2.2.1.2.2 k1
          omega
      have hk := h.2.2.1.2.2
      rcases step_both hJ hw h8 hWn q with ⟨o', M', a', x', k', N', d', p', e', E', z1, z2, z3, z4, z5, z6⟩ | ⟨o', M', z1, z2, z3⟩
      · have ec : rdC w o (nI i) = some (.inl (o', nI (i + 1))) := by
          unfold rdC
          have z : ∀ {β : Type} {f : Ob → Int32 → Option β}, zb2 (f_X6_readStep o w) f = f o' (nI 1) := fun {_ _} => zb2_of z1
          by_cases k1 : k = 1
          · have d1 : 0 < d := by omega
            simp (maxSteps := 3000000) (disch := omega) only [↓z, ↓nx_q, zb0_s, zb1_s, zb2_s, zb3_s, zb4_s, zb5_s, zb6_s, zb7_s, zb8_s, zb9_s, zb10_s, zb11_s, zb12_s, zb13_s, zb14_s, q_lit, nI_add, pk_mul, e_cl, gi_in, gz_n0, gz_n1, e_gz, si_eq, si_ne, sa_eq, sa_ne, if_true, if_false, ↓reduceIte, k_ltT, k_ltF, k_leT, k_leF, k_eqT, k_eqF, k_m1lt, k_nm1, not_true_eq_false, not_false_eq_true, e13, o10]
          · simp (maxSteps := 3000000) (disch := omega) only [↓z, ↓nx_q, zb0_s, zb1_s, zb2_s, zb3_s, zb4_s, zb5_s, zb6_s, zb7_s, zb8_s, zb9_s, zb10_s, zb11_s, zb12_s, zb13_s, zb14_s, q_lit, nI_add, pk_mul, e_cl, gi_in, gz_n0, gz_n1, e_gz, si_eq, si_ne, sa_eq, sa_ne, if_true, if_false, ↓reduceIte, k_ltT, k_ltF, k_leT, k_leF, k_eqT, k_eqF, k_m1lt, k_nm1, not_true_eq_false, not_false_eq_true, e13, o10]
        rcases ih o' M' a' x' k' N' d' p' e' E' (i + 1) z3 (by omega) (by omega) with ⟨o2, M2, a2, x2, k2, N2, p2, e2, E2, y1, y2, y3, y4⟩ | ⟨o2, M2, y1, y2, f, b, c1, c2, c3, c4, c5, c6, c7, c8⟩
        · refine Or.inl ⟨o2, M2, a2, x2, k2, N2, p2, e2, E2, fun F hF => ?_, fun F hF => ?_, y3, FrZ_tr z6 y4⟩
          · obtain ⟨F', rfl⟩ : ∃ F', F = F' + 1 := ⟨F - 1, by omega⟩
            rw [zl2_i ec]
            exact y1 F' (by omega)
          · obtain ⟨F', rfl⟩ : ∃ F', F = F' + 1 := ⟨F - 1, by omega⟩
            rw [zl1_i z2]
            exact y2 F' (by omega)
        · refine Or.inr ⟨o2, M2, fun F hF => ?_, fun F hF => ?_, f, b, c1, c2, c3, c4, c5, c6, c7, FrZ_tr z6 c8⟩
          · obtain ⟨F', rfl⟩ : ∃ F', F = F' + 1 := ⟨F - 1, by omega⟩
            rw [zl2_i ec]
            exact y1 F' (by omega)
          · obtain ⟨F', rfl⟩ : ∃ F', F = F' + 1 := ⟨F - 1, by omega⟩
            rw [zl1_i z2]
            exact y2 F' (by omega)
      · refine Or.inr ⟨o', M', fun F hF => ?_, fun F hF => ?_, z3⟩
        · obtain ⟨F', rfl⟩ : ∃ F', F = F' + 1 := ⟨F - 1, by omega⟩
          refine zl2_o ?_
          unfold rdC
          have z : ∀ {β : Type} {f : Ob → Int32 → Option β}, zb2 (f_X6_readStep o w) f = f o' (nI 0) := fun {_ _} => zb2_of z1
          by_cases k1 : k = 1
          · have d1 : 0 < d := by omega
            simp (maxSteps := 3000000) (disch := omega) only [↓z, ↓nx_q, zb0_s, zb1_s, zb2_s, zb3_s, zb4_s, zb5_s, zb6_s, zb7_s, zb8_s, zb9_s, zb10_s, zb11_s, zb12_s, zb13_s, zb14_s, q_lit, nI_add, pk_mul, e_cl, gi_in, gz_n0, gz_n1, e_gz, si_eq, si_ne, sa_eq, sa_ne, if_true, if_false, ↓reduceIte, k_ltT, k_ltF, k_leT, k_leF, k_eqT, k_eqF, k_m1lt, k_nm1, not_true_eq_false, not_false_eq_true, e13, o10]
          · simp (maxSteps := 3000000) (disch := omega) only [↓z, ↓nx_q, zb0_s, zb1_s, zb2_s, zb3_s, zb4_s, zb5_s, zb6_s, zb7_s, zb8_s, zb9_s, zb10_s, zb11_s, zb12_s, zb13_s, zb14_s, q_lit, nI_add, pk_mul, e_cl, gi_in, gz_n0, gz_n1, e_gz, si_eq, si_ne, sa_eq, sa_ne, if_true, if_false, ↓reduceIte, k_ltT, k_ltF, k_leT, k_leF, k_eqT, k_eqF, k_m1lt, k_nm1, not_true_eq_false, not_false_eq_true, e13, o10]
        · obtain ⟨F', rfl⟩ : ∃ F', F = F' + 1 := ⟨F - 1, by omega⟩
          exact zl1_o z2
/-- what reading the steps of a text comes to -/
theorem names_read {o w M : Ob} {σ : Nat → Nat} (h : RTape o M) (hw : RCw w σ) (h8 : σ 2 ≤ 8) (hWn : WFn σ) (m0 : M 0 = rw σ) : (∃ o' M' p e N E, f_X6_readSteps o w = some (o', nI 1) ∧ f_X12_readsSteps M = some (M', nI 1) ∧ N ≤ 200 ∧ M' 26 0 = nI N ∧ M' 22 = rw p ∧ M' 23 = rw e ∧ Seg p e 0 0 N E ∧ LsC o' E ∧ (∀ k, k ∈ E → k < σ 2) ∧ o' 2 0 = nI 0 ∧ M' 13 0 = nI 0 ∧ M' 7 0 = nI 0 ∧ ∀ j, (j < 7 ∨ 27 < j ∨ (17 ≤ j ∧ j < 22)) → M' j = M j) ∨ (∃ o' M' f a, f_X6_readSteps o w = some (o', nI 0) ∧ f_X12_readsSteps M = some (M', nI 0) ∧ a ≤ 400 ∧ o' 2 0 = nI f ∧ o' 3 0 = nI a ∧ M' 13 0 = nI f ∧ M' 14 0 = nI a ∧ M' 7 0 = nI 0 ∧ ∀ j, (j < 7 ∨ 27 < j ∨ (17 ≤ j ∧ j < 22)) → M' j = M j) := by
  have h' : RTape (si (si o 9 (nI 0)) 10 (nI 0)) M := by
    obtain ⟨n, t, a, b, c, e⟩ := h
    refine ⟨n, t, a, ?_, c, fun i hi => ?_⟩
    · simp (disch := omega) only [si_eq, si_ne, sa_eq, sa_ne, upd_eq, upd_ne, updN_eq, updN_ne]; exact b
    · simp (disch := omega) only [si_eq, si_ne, sa_eq, sa_ne, upd_eq, upd_ne, updN_eq, updN_ne]; exact e i hi
  rcases start_both h' with ⟨t, n, o1, M1, a, x, k, e1, e2, hT, fo, fm, m7, m13⟩ | ⟨o1, M1, e1, e2, p1, p2, p3, p4, p5, p6⟩
  · have hn := hT.1.2.1
    obtain ⟨M3, hM3⟩ : ∃ M3, M3 = si (si M1 26 (nI 0)) 27 (nI 0) := ⟨_, rfl⟩
    have mf : ∀ j, j ≠ 26 → j ≠ 27 → M3 j = M1 j := fun j a b => by rw [hM3, si_ne b, si_ne a]
    have hT3 : TS o1 M3 t n a x k := TS_fr hT rfl rfl rfl rfl rfl rfl (mf 6 (by decide) (by decide)) (mf 8 (by decide) (by decide)) (mf 9 (by decide) (by decide)) (mf 10 (by decide) (by decide)) (mf 11 (by decide) (by decide)) (mf 12 (by decide) (by decide)) (mf 15 (by decide) (by decide)) (mf 16 (by decide) (by decide))
    obtain ⟨p, hp⟩ := rw_any (M3 22)
    obtain ⟨e, he⟩ := rw_any (M3 23)
    have o9 : o1 9 0 = nI 0 := by rw [fo 9 (by omega)]; simp (disch := omega) only [si_eq, si_ne, sa_eq, sa_ne, upd_eq, upd_ne, updN_eq, updN_ne]
    have o10 : o1 10 0 = nI 0 := by rw [fo 10 (by omega)]; simp (disch := omega) only [si_eq, si_ne, sa_eq, sa_ne, upd_eq, upd_ne, updN_eq, updN_ne]
    have o2 : o1 2 0 = nI 0 := by rw [fo 2 (by omega)]; simp (disch := omega) only [si_eq, si_ne, sa_eq, sa_ne, upd_eq, upd_ne, updN_eq, updN_ne]
    have hJ : NJ o1 M3 σ t n a x k 0 0 p e [] := by
      refine ⟨hT3, by omega, by omega, ?_, ?_, o10, hp, he, seg_nil _ _ _ _, ⟨o9, fun i hi => absurd hi (Nat.not_lt_zero _)⟩, fun k hk => absurd hk (List.not_mem_nil), ?_, o2, ?_⟩
      · rw [hM3, si_ne (by decide), si_eq]
      · rw [hM3, si_eq]
      · rw [mf 0 (by decide) (by decide), fm 0 (by decide) (by decide) (by decide) (by decide) (by decide) (by decide) (by decide) (by decide) (by decide)]; exact m0
      · rw [mf 13 (by decide) (by decide)]; exact m13
    have hfr : ∀ M', FrZ M3 M' → M' 7 0 = nI 0 ∧ ∀ j, (j < 7 ∨ 27 < j ∨ (17 ≤ j ∧ j < 22)) → M' j = M j := by
      intro M' h
      refine ⟨?_, fun j hj => ?_⟩
      · rw [h 7 (by omega), mf 7 (by decide) (by decide)]; exact m7
      · rw [h j (by omega), mf j (by omega) (by omega)]
        exact fm j (by omega) (by omega) (by omega) (by omega) (by omega) (by omega) (by omega) (by omega) (by omega)
    have hEC : ∀ y, ze1 (zl2 (rdC w) FU o1 (nI 0)) (fun r => some r) (fun (o22 : Ob) => some (o22, nI 1)) = some y → f_X6_readSteps o w = some y := by
      intro y hy
      rw [rd_e]
      refine (zb2_of e1).trans ?_
      rw [if_neg (by decide)]
      exact hy
    have hEM : ∀ y, ze1 (zl1 nsM FU M3) (fun r => some r) (fun (o104 : Ob) => some (o104, nI 1)) = some y → f_X12_readsSteps M = some y := by
      intro y hy
      rw [ns_e]
      refine (zb2_of e2).trans ?_
      rw [if_neg (by decide)]
      rw [hM3] at hy
      exact hy
    rcases steps_both hw h8 hWn 400 o1 M3 a x k 0 0 p e [] 0 hJ (by omega) (by omega) with ⟨o', M', a', x', k', N', p', e', E', z1, z2, z3, z4⟩ | ⟨o', M', z1, z2, f, b, c1, c2, c3, c4, c5, c6, c7, c8⟩
    · obtain ⟨y1, y2, y3, y4, y5, y6, y7, y8, y9, x1, x2, x3, x4, x5⟩ := z3
      have := y1.2.2.1
      exact Or.inl ⟨o', M', p', e', N', E', hEC _ ((ze1_ofl (z1 FU (fu_lt (by decide)))).trans rfl), hEM _ ((ze1_ofl (z2 FU (fu_lt (by decide)))).trans rfl), by omega, y4, y7, y8, y9, x1, x2, x4, x5, (hfr M' z4).1, (hfr M' z4).2⟩
    · exact Or.inr ⟨o', M', f, b, hEC _ ((ze1_ofr (z1 FU (fu_lt (by decide)))).trans rfl), hEM _ ((ze1_ofr (z2 FU (fu_lt (by decide)))).trans rfl), c3, c4, c5, c6, c7, (hfr M' c8).1, (hfr M' c8).2⟩
  · refine Or.inr ⟨o1, M1, 1, 400, ?_, ?_, by decide, p1, p2, p3, p4, p5, fun j hj => p6 j (by omega) (by omega) (by omega) (by omega)⟩
    · rw [rd_e]
      exact (zb2_of e1).trans (if_pos rfl)
    · rw [ns_e]
      exact (zb2_of e2).trans (if_pos rfl)
