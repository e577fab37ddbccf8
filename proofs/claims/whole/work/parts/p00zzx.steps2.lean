def rpI (x2 : Int32) : Ob → Int32 → Option ((Ob × Int32) ⊕ Ob) := fun (o43 : Ob) (k44 : Int32) => (
  if x2 ≤ k44 then (
  some (.inr o43)
  ) else (
  gi k44 40 <|
  zb1 (f_X6_addStep o43 (o43 8 (Int32.toNatClampNeg k44))) fun (o50 : Ob) =>
  nx (k44 + (1 : Int32)) fun x52 =>
  some (.inl (o50, x52))
  ))
def rpO (x2 : Int32) : Ob → Int32 → Option ((Ob × Int32) ⊕ Ob) := fun (o28 : Ob) (k29 : Int32) => (
  gi (o28 10 0) 2 <|
  if o28 11 (Int32.toNatClampNeg (o28 10 0)) ≤ k29 then (
  some (.inr o28)
  ) else (
  gi (o28 10 0) 2 <|
  nx (o28 12 (Int32.toNatClampNeg (o28 10 0))) fun x35 =>
  zb1 (zl2 (rpI x2) FU o28 x35) <| fun (o45 : Ob) =>
  nx (k29 + (1 : Int32)) fun x46 =>
  some (.inl (o45, x46))
  ))
theorem rp_e (o : Ob) : f_X6_repeat o = zb1 (zl2 (rpO ((si o 10 ((o 10 0) - (1 : Int32))) 9 0)) FU (si o 10 ((o 10 0) - (1 : Int32))) (1 : Int32)) (fun (o30 : Ob) => some o30) := rfl
theorem c_inner {P B : List Nat} {o : Ob} {n : Nat} (hn : 1 ≤ n) (h : LsC o (P ++ repL B n)) : ∃ o', zl2 (rpI (nI ((P ++ B).take 40).length)) FU o (nI (P.take 40).length) = some o' ∧ LsC o' (P ++ repL B (n + 1)) ∧ ∀ j, j ≠ 8 → j ≠ 9 → o' j = o j := by
  obtain ⟨m, rfl⟩ : ∃ m, n = m + 1 := ⟨n - 1, by omega⟩
  have hl : (P ++ B).length = P.length + B.length := List.length_append
  by_cases q : (P ++ B).length ≤ 40
  · have e1 : (P ++ B).take 40 = P ++ B := List.take_of_length_le q
    have e2 : P.take 40 = P := List.take_of_length_le (by omega)
    have h' : LsC o (P ++ B ++ repL B m ++ B.take 0) := by
      rw [repL_c] at h
      rw [List.take_zero, List.append_nil, List.append_assoc]
      exact h
    obtain ⟨o', z1, z2, z3⟩ := c_more (P := P) (B := B) (x2 := nI (P ++ B).length) q rfl (Bd := rpI (nI (P ++ B).length)) (fun _ _ => rfl) B.length 0 o (repL B m) (by omega) h'
    refine ⟨o', ?_, ?_, z3⟩
    · rw [e1, e2]
      exact z1 FU (fu_lt (by omega))
    · have e3 : P ++ repL B (m + 1 + 1) = P ++ B ++ repL B m ++ B := by
        show P ++ (repL B (m + 1) ++ B) = _
        rw [repL_c, List.append_assoc, List.append_assoc, List.append_assoc]
      rw [e3]
      exact z2
  · have e1 : ((P ++ B).take 40).length = 40 := by rw [List.length_take]; omega
    have e3 : ((P ++ repL B (m + 1)).take 40).length = 40 := by
      rw [List.length_take, repL_c, List.length_append, List.length_append]
      omega
    have hf := tk_len P
    have h9 := h.1
    rw [e3] at h9
    have ea : ∀ v, f_X6_addStep o v = some o := by
      intro v
      unfold f_X6_addStep
      simp (maxSteps := 3000000) (disch := omega) only [↓nx_q, zb0_s, zb1_s, zb2_s, zb3_s, zb4_s, zb5_s, zb6_s, zb7_s, zb8_s, zb9_s, zb10_s, zb11_s, zb12_s, zb13_s, zb14_s, q_lit, nI_add, pk_mul, e_cl, gi_in, gz_n0, gz_n1, e_gz, si_eq, si_ne, sa_eq, sa_ne, if_true, if_false, ↓reduceIte, k_ltT, k_ltF, k_leT, k_leF, k_eqT, k_eqF, k_m1lt, k_nm1, not_true_eq_false, not_false_eq_true, h9]
    refine ⟨o, ?_, ?_, fun _ _ _ => rfl⟩
    · rw [e1]
      refine zl2_fo (fun _ => o) (fun i => nI ((P.take 40).length + i)) (40 - (P.take 40).length) o (fu_lt (by omega)) rfl rfl (fun i hi => ?_) ?_
      · unfold rpI
        simp (maxSteps := 3000000) (disch := omega) only [↓nx_q, zb0_s, zb1_s, zb2_s, zb3_s, zb4_s, zb5_s, zb6_s, zb7_s, zb8_s, zb9_s, zb10_s, zb11_s, zb12_s, zb13_s, zb14_s, q_lit, nI_add, pk_mul, e_cl, gi_in, gz_n0, gz_n1, e_gz, si_eq, si_ne, sa_eq, sa_ne, if_true, if_false, ↓reduceIte, k_ltT, k_ltF, k_leT, k_leF, k_eqT, k_eqF, k_m1lt, k_nm1, not_true_eq_false, not_false_eq_true, ea, Nat.add_assoc]
      · unfold rpI
        simp (maxSteps := 3000000) (disch := omega) only [↓nx_q, zb0_s, zb1_s, zb2_s, zb3_s, zb4_s, zb5_s, zb6_s, zb7_s, zb8_s, zb9_s, zb10_s, zb11_s, zb12_s, zb13_s, zb14_s, q_lit, nI_add, pk_mul, e_cl, gi_in, gz_n0, gz_n1, e_gz, si_eq, si_ne, sa_eq, sa_ne, if_true, if_false, ↓reduceIte, k_ltT, k_ltF, k_leT, k_leF, k_eqT, k_eqF, k_m1lt, k_nm1, not_true_eq_false, not_false_eq_true]
    · refine LsC_cg h rfl rfl ?_
      show (P ++ (repL B (m + 1) ++ B)).take 40 = _
      rw [← List.append_assoc]
      exact tk_full (by omega) B
theorem c_outer {P B : List Nat} {d t : Nat} (hd : d ≤ 1) (ht : 1 ≤ t ∧ t ≤ 9) : ∀ (m n : Nat) (o : Ob), n + m = t → 1 ≤ n → LsC o (P ++ repL B n) → o 10 0 = nI d → o 11 d = nI t → o 12 d = nI (P.take 40).length → ∃ o', (∀ F, m < F → zl2 (rpO (nI ((P ++ B).take 40).length)) F o (nI n) = some o') ∧ LsC o' (P ++ repL B t) ∧ ∀ j, j ≠ 8 → j ≠ 9 → o' j = o j := by
  intro m
  induction m with
  | zero =>
    intro n o hn h1 h h10 h11 h12
    obtain rfl : n = t := by omega
    refine ⟨o, fun F hF => ?_, h, fun _ _ _ => rfl⟩
    obtain ⟨F', rfl⟩ : ∃ F', F = F' + 1 := ⟨F - 1, by omega⟩
    refine zl2_o ?_
    unfold rpO
    simp (maxSteps := 3000000) (disch := omega) only [↓nx_q, zb0_s, zb1_s, zb2_s, zb3_s, zb4_s, zb5_s, zb6_s, zb7_s, zb8_s, zb9_s, zb10_s, zb11_s, zb12_s, zb13_s, zb14_s, q_lit, nI_add, pk_mul, e_cl, gi_in, gz_n0, gz_n1, e_gz, si_eq, si_ne, sa_eq, sa_ne, if_true, if_false, ↓reduceIte, k_ltT, k_ltF, k_leT, k_leF, k_eqT, k_eqF, k_m1lt, k_nm1, not_true_eq_false, not_false_eq_true, h10, h11]
  | succ m ih =>
    intro n o hn h1 h h10 h11 h12
    obtain ⟨o1, e1, l1, f1⟩ := c_inner (P := P) (B := B) h1 h
    obtain ⟨o', e2, l2, f2⟩ := ih (n + 1) o1 (by omega) (by omega) l1 (by rw [f1 10 (by decide) (by decide)]; exact h10) (by rw [f1 11 (by decide) (by decide)]; exact h11) (by rw [f1 12 (by decide) (by decide)]; exact h12)
    refine ⟨o', fun F hF => ?_, l2, fun j a b => (f2 j a b).trans (f1 j a b)⟩
    obtain ⟨F', rfl⟩ : ∃ F', F = F' + 1 := ⟨F - 1, by omega⟩
    rw [zl2_i (b0 := o1) (b1 := nI (n + 1))]
    · exact e2 F' (by omega)
    · unfold rpO
      simp (maxSteps := 3000000) (disch := omega) only [↓nx_q, zb0_s, zb1_s, zb2_s, zb3_s, zb4_s, zb5_s, zb6_s, zb7_s, zb8_s, zb9_s, zb10_s, zb11_s, zb12_s, zb13_s, zb14_s, q_lit, nI_add, pk_mul, e_cl, gi_in, gz_n0, gz_n1, e_gz, si_eq, si_ne, sa_eq, sa_ne, if_true, if_false, ↓reduceIte, k_ltT, k_ltF, k_leT, k_leF, k_eqT, k_eqF, k_m1lt, k_nm1, not_true_eq_false, not_false_eq_true, h10, h11, h12, e1]
theorem c_repeat {o : Ob} {P B : List Nat} {d t : Nat} (h : LsC o (P ++ B)) (h10 : o 10 0 = nI (d + 1)) (hd : d ≤ 1) (h11 : o 11 d = nI t) (ht : 1 ≤ t ∧ t ≤ 9) (h12 : o 12 d = nI (P.take 40).length) : ∃ o', f_X6_repeat o = some o' ∧ LsC o' (P ++ repL B t) ∧ o' 10 0 = nI d ∧ ∀ j, j ≠ 8 → j ≠ 9 → j ≠ 10 → o' j = o j := by
  have e10 : (o 10 0) - (1 : Int32) = nI d := by
    rw [h10]
    exact e_sub (a := d + 1) (b := 1) (by omega)
  have e1 : repL B 1 = B := rfl
  obtain ⟨o', z1, z2, z3⟩ := c_outer (P := P) (B := B) hd ht (t - 1) 1 (si o 10 (nI d)) (by omega) (Nat.le_refl _) (LsC_cg (o' := si o 10 (nI d)) h (si_ne (by decide)) (si_ne (by decide)) (by rw [e1])) (si_eq _ _ _ _) (by rw [si_ne (by decide)]; exact h11) (by rw [si_ne (by decide)]; exact h12)
  refine ⟨o', ?_, z2, by rw [z3 10 (by decide) (by decide), si_eq], fun j a b c => by rw [z3 j a b, si_ne c]⟩
  rw [rp_e, e10, si_ne (by decide), h.1]
  exact zb1_of (z1 FU (fu_lt (by omega)))
/-! ===== names: what is open ===== -/
def Stk (p e : Nat → Nat) (o M : Ob) : Nat → Nat → List Nat → Prop
  | 0, N, E => Seg p e 0 0 N E
  | d + 1, N, E => ∃ P B w, E = P ++ B ∧ Stk p e o M d w P ∧ w < N ∧ (101 ≤ p w ∧ p w ≤ 109) ∧ Seg p e (d + 1) (w + 1) N B ∧ M 24 d = nI w ∧ o 11 d = nI (p w - 100) ∧ o 12 d = nI (P.take 40).length
theorem stk_cg {p e p' e' : Nat → Nat} {o M o' M' : Ob} : ∀ {d N : Nat} {E : List Nat}, Stk p e o M d N E → (∀ x, x < N → p' x = p x ∧ e' x = e x) → (∀ q, q < d → M' 24 q = M 24 q ∧ o' 11 q = o 11 q ∧ o' 12 q = o 12 q) → Stk p' e' o' M' d N E
  | 0, N, E, h, c, _ => seg_cg h (fun x _ b => c x b)
  | d + 1, N, E, h, c, f => by
    obtain ⟨P, B, w, h1, h2, h3, h4, h5, h6, h7, h8⟩ := h
    obtain ⟨f1, f2, f3⟩ := f d (by omega)
    refine ⟨P, B, w, h1, stk_cg h2 (fun x hx => c x (by omega)) (fun q hq => f q (by omega)), h3, by rw [(c w h3).1]; exact h4, seg_cg h5 (fun x _ b => c x b), by rw [f1]; exact h6, by rw [f2, (c w h3).1]; exact h7, by rw [f3]; exact h8⟩
theorem stk_top {p e : Nat → Nat} {o M : Ob} : ∀ {d N : Nat} {E : List Nat}, Stk p e o M d N E → ∃ i P B, E = P ++ B ∧ Seg p e d i N B ∧ ∀ N' B', N ≤ N' → Seg p e d i N' B' → Stk p e o M d N' (P ++ B')
  | 0, N, E, h => ⟨0, [], E, rfl, h, fun N' B' _ g => g⟩
  | d + 1, N, E, h => by
    obtain ⟨P, B, w, h1, h2, h3, h4, h5, h6⟩ := h
    exact ⟨w + 1, P, B, h1, h5, fun N' B' a g => ⟨P, B', w, rfl, h2, by omega, h4, g, h6⟩⟩
theorem stk_item {p e : Nat → Nat} {o M : Ob} {d N : Nat} {E : List Nat} (h : Stk p e o M d N E) (hk : p N < 100) : Stk p e o M d (N + 1) (E ++ [p N]) := by
  obtain ⟨i, P, B, rfl, h2, h3⟩ := stk_top h
  rw [List.append_assoc]
  exact h3 _ _ (by omega) (seg_item h2 hk)
theorem stk_open {p e : Nat → Nat} {o M : Ob} {d N : Nat} {E : List Nat} (h : Stk p e o M d N E) (hu : 101 ≤ p N ∧ p N ≤ 109) (h24 : M 24 d = nI N) (h11 : o 11 d = nI (p N - 100)) (h12 : o 12 d = nI (E.take 40).length) : Stk p e o M (d + 1) (N + 1) E := ⟨E, [], N, (List.append_nil _).symm, h, Nat.lt_succ_self _, hu, seg_nil _ _ _ _, h24, h11, h12⟩
theorem stk_close {p e e' : Nat → Nat} {o M : Ob} {d N : Nat} {P B : List Nat} {w : Nat} (h : Stk p e o M d w P) (hw : w < N) (hN : N ≤ 401) (hd : d ≤ 1) (hu : 101 ≤ p w ∧ p w ≤ 109) (hS : Seg p e (d + 1) (w + 1) N B) (he : e' w = N) (hr : ∀ x, x ≠ w → e' x = e x) : Stk p e' o M d N (P ++ repL B (p w - 100)) := by
  have h' : Stk p e' o M d w P := stk_cg h (fun x hx => ⟨rfl, hr x (by omega)⟩) (fun _ _ => ⟨rfl, rfl, rfl⟩)
  have hS' : Seg p e' (d + 1) (w + 1) N B := seg_cg hS (fun x a b => ⟨rfl, hr x (by omega)⟩)
  obtain ⟨i, P1, B1, rfl, h2, h3⟩ := stk_top h'
  rw [List.append_assoc]
  exact h3 _ _ (by omega) (seg_loop h2 hS' hd hN hu he)
