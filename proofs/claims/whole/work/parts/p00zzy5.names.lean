/-! ===== names ===== -/
def ndC (o4 w : Ob) : Ob → Ob → Ob → Ob → Ob → Ob → Ob → Ob → Int32 → Int32 → Option ((Ob × Ob × Ob × Ob × Ob × Ob × Ob × Ob × Int32 × Int32) ⊕ (Ob × Ob × Ob × Ob × Ob × Ob × Ob × Ob × Int32)) := fun (o49 : Ob) (o50 : Ob) (o51 : Ob) (o52 : Ob) (o53 : Ob) (o54 : Ob) (o55 : Ob) (o56 : Ob) (k57 : Int32) (k58 : Int32) => (
  if o4 9 0 ≤ k58 then (
  some (.inr (o49, o50, o51, o52, o53, o54, o55, o56, k57))
  ) else (
  zb1 (f_X4_isFull o51) fun (r70 : Int32) =>
  if r70 = 0 then (
  gi k58 40 <|
  zb9 (f_X9_ask o49 w o50 o51 o52 o53 o54 o56 o55 (o4 8 (Int32.toNatClampNeg k58))) fun (o73 : Ob) (o74 : Ob) (o75 : Ob) (o76 : Ob) (o77 : Ob) (o78 : Ob) (o79 : Ob) (o80 : Ob) (r81 : Int32) =>
  nx (k57 + r81) fun x83 =>
  nx (k58 + (1 : Int32)) fun x84 =>
  some (.inl (o73, o74, o75, o76, o77, o78, o80, o79, x83, x84))
  ) else (
  some (.inr (o49, o50, o51, o52, o53, o54, o55, o56, k57))
  )
  ))
theorem nd_loop {o4 w : Ob} {L : List Nat} (h9 : o4 9 0 = nI L.length) (hl : L.length ≤ 40) (h8 : ∀ i, i < L.length → o4 8 i = nI (L.getD i 0)) : ∀ (n i : Nat) (st s l b0 b1 b2 g d : Ob) (q : SQ), i + n = L.length → WF q.1 → (∀ k, k ∈ L → k < q.1 2) → CS st w s l b0 b1 b2 g q.1 q.2.1 → ∃ st' s' l' b0' b1' b2' g' d', (∀ F, n < F → zl10 (ndC o4 w) F st s l b0 b1 b2 g d (nI q.2.2) (nI i) = some (st', s', l', b0', b1', b2', g', d', nI ((L.drop i).foldl ask1 q).2.2)) ∧ CS st' w s' l' b0' b1' b2' g' ((L.drop i).foldl ask1 q).1 ((L.drop i).foldl ask1 q).2.1 := by
  intro n
  induction n with
  | zero =>
    intro i st s l b0 b1 b2 g d q hi hw hL hC
    have e : L.drop i = [] := List.drop_eq_nil_of_le (by omega)
    rw [e, List.foldl_nil]
    refine ⟨st, s, l, b0, b1, b2, g, d, fun F hF => ?_, hC⟩
    obtain ⟨F', rfl⟩ : ∃ F', F = F' + 1 := ⟨F - 1, by omega⟩
    refine zl10_o ?_
    unfold ndC
    simp (maxSteps := 3000000) (disch := omega) only [↓nx_q, zb0_s, zb1_s, zb2_s, zb3_s, zb4_s, zb5_s, zb6_s, zb7_s, zb8_s, zb9_s, zb10_s, zb11_s, zb12_s, zb13_s, zb14_s, q_lit, nI_add, pk_mul, e_cl, gi_in, gz_n0, gz_n1, e_gz, si_eq, si_ne, sa_eq, sa_ne, if_true, if_false, ↓reduceIte, k_ltT, k_ltF, k_leT, k_leF, k_eqT, k_eqF, k_m1lt, k_nm1, not_true_eq_false, not_false_eq_true, h9]
  | succ n ih =>
    intro i st s l b0 b1 b2 g d q hi hw hL hC
    have hil : i < L.length := by omega
    have e : L.drop i = L.getD i 0 :: L.drop (i + 1) := by
      rw [List.drop_eq_getElem_cons hil, List.getD_eq_getElem?_getD, List.getElem?_eq_getElem hil]
      rfl
    have hmem : L.getD i 0 ∈ L := by
      rw [List.getD_eq_getElem?_getD, List.getElem?_eq_getElem hil]
      exact List.getElem_mem hil
    have hk := hL _ hmem
    have l0 : l 0 0 = nI (q.1 7) := hC.2.2.2.2.1
    have h7 := hw.2.2.1
    rw [e, List.foldl_cons]
    by_cases q7 : q.1 7 < 40
    · obtain ⟨a1, a2, a3, a4, hCa, -⟩ := ak_sp hw q7 hk
      obtain ⟨b, c, -⟩ := ask1_inv hw hk
      have e2 : (ask1 q (L.getD i 0)).1 2 = q.1 2 := c.2.1 2 (by omega)
      obtain ⟨y, ep, hp, hv⟩ := hCa st w s l b0 b1 b2 d g q.2.1 hC
      obtain ⟨p1, p2, p3, p4, p5, p6, p7, p8, p9⟩ := y
      dsimp only at hp hv
      subst hv
      have hp' : CS p1 w p2 p3 p4 p5 p6 p8 (ask1 q (L.getD i 0)).1 (ask1 q (L.getD i 0)).2.1 := by
        rw [ask1_y q7]
        exact hp
      have es : q.2.2 + (akY q.1 (L.getD i 0)).2.2 = (ask1 q (L.getD i 0)).2.2 := by rw [ask1_y q7]
      have e8 := h8 i hil
      have ec : ndC o4 w st s l b0 b1 b2 g d (nI q.2.2) (nI i) = some (.inl (p1, p2, p3, p4, p5, p6, p8, p7, nI (ask1 q (L.getD i 0)).2.2, nI (i + 1))) := by
        rw [← es]
        unfold ndC f_X4_isFull
        simp (maxSteps := 3000000) (disch := omega) only [↓nx_q, zb0_s, zb1_s, zb2_s, zb3_s, zb4_s, zb5_s, zb6_s, zb7_s, zb8_s, zb9_s, zb10_s, zb11_s, zb12_s, zb13_s, zb14_s, q_lit, nI_add, pk_mul, e_cl, gi_in, gz_n0, gz_n1, e_gz, si_eq, si_ne, sa_eq, sa_ne, if_true, if_false, ↓reduceIte, k_ltT, k_ltF, k_leT, k_leF, k_eqT, k_eqF, k_m1lt, k_nm1, not_true_eq_false, not_false_eq_true, h9, l0, e8, ep]
      obtain ⟨st', s', l', b0', b1', b2', g', d', y1, y2⟩ := ih (i + 1) p1 p2 p3 p4 p5 p6 p8 p7 (ask1 q (L.getD i 0)) (by omega) b (fun k hk => by rw [e2]; exact hL k hk) hp'
      refine ⟨st', s', l', b0', b1', b2', g', d', fun F hF => ?_, y2⟩
      obtain ⟨F', rfl⟩ : ∃ F', F = F' + 1 := ⟨F - 1, by omega⟩
      rw [zl10_i ec]
      exact y1 F' (by omega)
    · have q40 : q.1 7 = 40 := by omega
      rw [ask1_n q7, fold_full q7]
      refine ⟨st, s, l, b0, b1, b2, g, d, fun F hF => ?_, hC⟩
      obtain ⟨F', rfl⟩ : ∃ F', F = F' + 1 := ⟨F - 1, by omega⟩
      refine zl10_o ?_
      unfold ndC f_X4_isFull
      simp (maxSteps := 3000000) (disch := omega) only [↓nx_q, zb0_s, zb1_s, zb2_s, zb3_s, zb4_s, zb5_s, zb6_s, zb7_s, zb8_s, zb9_s, zb10_s, zb11_s, zb12_s, zb13_s, zb14_s, q_lit, nI_add, pk_mul, e_cl, gi_in, gz_n0, gz_n1, e_gz, si_eq, si_ne, sa_eq, sa_ne, if_true, if_false, ↓reduceIte, k_ltT, k_ltF, k_leT, k_leF, k_eqT, k_eqF, k_m1lt, k_nm1, not_true_eq_false, not_false_eq_true, h9, l0, q40]
/-- all steps, as the model does them -/
theorem nm_run {M : Ob} {p e : Nat → Nat} {N : Nat} {E : List Nat} {s : SQ} (hS : Seg p e 0 0 N E) (hN : N ≤ 200) (hs : s.2.2 = 0) (hM : MS M s.1 s.2.1) (hw : WF s.1) (hE : ∀ k, k ∈ E → k < s.1 2) (m26 : M 26 0 = nI N) (m22 : M 22 = rw p) (m23 : M 23 = rw e) : ∃ M', f_X12_doesSteps M = some (M', nI (E.foldl ask1 s).2.2) ∧ MS M' (E.foldl ask1 s).1 (E.foldl ask1 s).2.1 ∧ FrR M M' := by
  obtain ⟨c, M', d', i', hc, h1, h2, h3, h4⟩ := hS.2 M s hM hw hE (fun x _ _ => by rw [m22, m23]; exact ⟨rfl, rfl⟩) ⟨⟨N, m26, by omega, fun _ => Nat.le_refl _⟩, by omega, fun h => by omega⟩
  have hi := fold_inv E s hw hE
  refine ⟨M', ?_, h2, h3⟩
  have hc' : c ≤ 18000 := by
    have : WD 0 = 90 := rfl
    rw [this] at hc
    omega
  have hF : FU = (FU - c - 1 + 1) + c := by
    have : FU = 20000 := rfl
    omega
  rw [nm_does]
  refine zb2_of (x := zl4 nmB FU M (nI 0) (nI 0) (nI 0)) ?_
  have e0 := h1 (FU - c - 1 + 1)
  rw [hs] at e0
  rw [hF, e0]
  refine zl4_o ?_
  have hM0 := h2.1
  have h7 := hi.1.2.2.1
  generalize E.foldl ask1 s = s' at *
  unfold nmB
  rcases h4 with h4 | ⟨rfl, rfl, -⟩
  · have q40 : s'.1 7 = 40 := by omega
    simp (maxSteps := 3000000) (disch := omega) only [↓nx_q, zb0_s, zb1_s, zb2_s, zb3_s, zb4_s, zb5_s, zb6_s, zb7_s, zb8_s, zb9_s, zb10_s, zb11_s, zb12_s, zb13_s, zb14_s, q_lit, nI_add, pk_mul, e_cl, gi_in, gz_n0, gz_n1, e_gz, si_eq, si_ne, sa_eq, sa_ne, if_true, if_false, ↓reduceIte, k_ltT, k_ltF, k_leT, k_leF, k_eqT, k_eqF, k_m1lt, k_nm1, not_true_eq_false, not_false_eq_true, hM0, rw_ap, upd_rw, sa_sa, jn_l, jn_r, jn_4, jn_5, jn_6, jn_ul, jn_ur, jn_u4, jn_u5, jn_u6, q40]
  · have n26 : M' 26 0 = nI i' := by rw [h3 26 (by decide) (by decide) (by decide) (by decide) (by decide) (by decide)]; exact m26
    by_cases q : s'.1 7 = 40
    · simp (maxSteps := 3000000) (disch := omega) only [↓nx_q, zb0_s, zb1_s, zb2_s, zb3_s, zb4_s, zb5_s, zb6_s, zb7_s, zb8_s, zb9_s, zb10_s, zb11_s, zb12_s, zb13_s, zb14_s, q_lit, nI_add, pk_mul, e_cl, gi_in, gz_n0, gz_n1, e_gz, si_eq, si_ne, sa_eq, sa_ne, if_true, if_false, ↓reduceIte, k_ltT, k_ltF, k_leT, k_leF, k_eqT, k_eqF, k_m1lt, k_nm1, not_true_eq_false, not_false_eq_true, hM0, rw_ap, upd_rw, sa_sa, jn_l, jn_r, jn_4, jn_5, jn_6, jn_ul, jn_ur, jn_u4, jn_u5, jn_u6, q]
    · simp (maxSteps := 3000000) (disch := omega) only [↓nx_q, zb0_s, zb1_s, zb2_s, zb3_s, zb4_s, zb5_s, zb6_s, zb7_s, zb8_s, zb9_s, zb10_s, zb11_s, zb12_s, zb13_s, zb14_s, q_lit, nI_add, pk_mul, e_cl, gi_in, gz_n0, gz_n1, e_gz, si_eq, si_ne, sa_eq, sa_ne, if_true, if_false, ↓reduceIte, k_ltT, k_ltF, k_leT, k_leF, k_eqT, k_eqF, k_m1lt, k_nm1, not_true_eq_false, not_false_eq_true, hM0, rw_ap, upd_rw, sa_sa, jn_l, jn_r, jn_4, jn_5, jn_6, jn_ul, jn_ur, jn_u4, jn_u5, jn_u6, n26]
theorem RelS_read {V : Nat → Ob} {PK PI : PV} {M M' o' : Ob} {σ : Nat → Nat} {g f : Nat} {fc fm : Bool} (hR : RelS V PK PI M σ g fc fm) (ho : o' 2 0 = nI f) (hm : M' 13 0 = nI f) (m7 : M' 7 0 = nI 0) (hf : ∀ j, (j < 7 ∨ 27 < j ∨ (17 ≤ j ∧ j < 22)) → M' j = M j) : RelS (vu V 1 (si o' 1 (nI 0))) PK PI M' σ g fc fm := by
  obtain ⟨⟨hM0, hW, hRC⟩, hGC, hGM, hHi, hPl, hO⟩ := hR
  refine ⟨⟨by rw [hf 0 (by omega)]; exact hM0, hW, ?_⟩, ?_, ?_, ?_, ?_, ?_⟩
  · refine RC_un hRC ?_ ?_ ?_ ?_ ?_ ?_ ?_ <;> simp (disch := omega) only [vu_eq, vu_ne]
  · simp (disch := omega) only [vu_eq, vu_ne]
    exact hGC
  · exact GM_fr hGM (hf 19 (by omega)) (hf 20 (by omega)) (hf 21 (by omega))
  · simp (disch := omega) only [vu_eq, vu_ne]
    exact RHist_fr hHi (hf 2 (by omega)) (hf 5 (by omega))
  · simp (disch := omega) only [vu_eq, vu_ne]
    exact hPl
  · refine RelO_read (f := f) (o' := o') hO ?_ ?_ ho hm m7 ?_ ?_ ?_ (fun j hj => hf j (by omega)) <;> simp (disch := omega) only [vu_eq, vu_ne]
