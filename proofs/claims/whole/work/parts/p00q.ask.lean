/-! ===== ENTRIES are posted ===== -/
theorem RCb_ct {o : Ob} {π : Nat → Nat} {b kd am : Nat} (h : RCb o π b) : RCb o (ctN π kd am) b := by
  have e : ∀ j, 544 ≤ j → ctN π kd am j = π j := fun j hj => by
    unfold ctN
    by_cases q1 : kd = 1
    · rw [if_pos q1, updN_ne (by omega)]
    · rw [if_neg q1]
      by_cases q2 : kd = 2
      · rw [if_pos q2, updN_ne (by omega)]
      · rw [if_neg q2]
        by_cases q3 : kd = 3
        · rw [if_pos q3, updN_ne (by omega), updN_ne (by omega)]
        · rw [if_neg q3]
  exact RCb_congr h (fun j h1 _ => e j (by omega)) (fun j h1 _ => e j (by omega))
theorem RCb_other {o : Ob} {π : Nat → Nat} {b b' kd it am : Nat} (h : RCb o π b) (hB : BW3 π) (hb : b < 3) (hb' : b' < 3) (hn : b ≠ b') : RCb o (bkN π b' kd it am) b := RCb_congr h (fun j h1 h2 => bkN_fr (hB b' hb') (by omega) (by omega)) (fun j h1 h2 => bkN_fr (hB b' hb') (by omega) (by omega))
theorem c_write3 {o : Ob} {x : PQ} {b kd it am : Nat} (hb : b < 3) (h : RCb o x.1 b) (hB : BW3 x.1) (hk : kd ≤ 3) : Ok (f_X0_write o (nI kd) (nI it) (nI am)) (fun o' => RCb o' (pst x (kd, it, am)).1 b) := by
  show Ok _ (fun o' => RCb o' (entN (ctN x.1 kd am) kd it am) b)
  have h0 : RCb o (ctN x.1 kd am) b := RCb_ct h
  have hB0 : BW3 (ctN x.1 kd am) := ctN_BW3 hB
  generalize ctN x.1 kd am = π at *
  have hB1 : BW3 (bkN π 0 kd it am) := bkN_BW3 (by decide) hB0
  have hB2 : BW3 (bkN (bkN π 0 kd it am) 1 kd it am) := bkN_BW3 (by decide) hB1
  unfold entN
  by_cases q0 : b = 0
  · subst q0
    obtain ⟨o', e, hr⟩ := c_write (it := it) (am := am) h0 hk
    exact ⟨o', e, RCb_other (RCb_other hr hB1 (by decide) (by decide) (by decide)) hB2 (by decide) (by decide) (by decide)⟩
  · by_cases q1 : b = 1
    · subst q1
      obtain ⟨o', e, hr⟩ := c_write (it := it) (am := am) (RCb_other (kd := kd) (it := it) (am := am) h0 hB0 (by decide) (show 0 < 3 by decide) (by decide)) hk
      exact ⟨o', e, RCb_other hr hB2 (by decide) (by decide) (by decide)⟩
    · have q2 : b = 2 := by omega
      subst q2
      exact c_write (it := it) (am := am) (RCb_other (RCb_other (kd := kd) (it := it) (am := am) h0 hB0 (by decide) (show 0 < 3 by decide) (by decide)) hB1 (by decide) (show 1 < 3 by decide) (by decide)) hk
theorem pst_56 {x : PQ} {d : Nat × Nat × Nat} (h : BW3 x.1) : (pst x d).1 5 = x.1 5 + (if d.1 = 2 then 1 else 0) ∧ (pst x d).1 6 = x.1 6 + (if d.1 = 3 then 1 else 0) := by
  show entN (ctN x.1 d.1 d.2.2) d.1 d.2.1 d.2.2 5 = _ ∧ entN (ctN x.1 d.1 d.2.2) d.1 d.2.1 d.2.2 6 = _
  rw [entN_fr (ctN_BW3 h) (by decide), entN_fr (ctN_BW3 h) (by decide)]
  unfold ctN
  by_cases q1 : d.1 = 1
  · rw [if_pos q1, if_neg (by omega), if_neg (by omega), updN_ne (by decide), updN_ne (by decide)]
    exact ⟨rfl, rfl⟩
  · rw [if_neg q1]
    by_cases q2 : d.1 = 2
    · rw [if_pos q2, if_pos q2, if_neg (by omega), updN_eq, updN_ne (by decide)]
      exact ⟨rfl, rfl⟩
    · rw [if_neg q2, if_neg q2]
      by_cases q3 : d.1 = 3
      · rw [if_pos q3, if_pos q3, updN_ne (by decide), updN_ne (by decide), updN_ne (by decide), updN_eq]
        exact ⟨rfl, rfl⟩
      · rw [if_neg q3, if_neg q3]
        exact ⟨rfl, rfl⟩
/-- the class's side of what is booked: the state's counts (but for what is paid), BOOKS, GATES -/
def CP (o b0 b1 b2 g : Ob) (x : PQ) : Prop := (o 5 0 = nI (x.1 5) ∧ o 6 0 = nI (x.1 6)) ∧ RCb b0 x.1 0 ∧ RCb b1 x.1 1 ∧ RCb b2 x.1 2 ∧ GC g x.2.1 x.2.2 ∧ BW3 x.1
theorem take_s {D : DL} {i : Nat} {d : Nat × Nat × Nat} (h : D[i]? = some d) (x : PQ) : (D.take (i + 1)).foldl pst x = pst ((D.take i).foldl pst x) d := by
  rw [List.take_succ, h]
  exact fold_app x _ d
theorem c_post {o b0 b1 b2 dd g : Ob} {x : PQ} {D : DL} (h : CP o b0 b1 b2 g x) (hd : DD dd D) (hl : D.length ≤ 9) (hk : ∀ d, d ∈ D → d.1 ≤ 3) : Ok (f_X9_post o b0 b1 b2 dd g) (fun p => CP p.1 p.2.1 p.2.2.1 p.2.2.2.1 p.2.2.2.2 (D.foldl pst x) ∧ ∀ j, j ≠ 5 → j ≠ 6 → p.1 j = o j) := by
  unfold f_X9_post
  rw [ok_zb5]
  refine ok_mono (ok_zl6 (Q := fun p => CP p.1 p.2.1 p.2.2.1 p.2.2.2.1 p.2.2.2.2 (D.foldl pst x) ∧ ∀ j, j ≠ 5 → j ≠ 6 → p.1 j = o j) (fun i a a0 a1 a2 ag kk => kk = nI i ∧ CP a a0 a1 a2 ag ((D.take i).foldl pst x) ∧ ∀ j, j ≠ 5 → j ≠ 6 → a j = o j) D.length (fun i a a0 a1 a2 ag kk hi hI => ?_) (fu_lt (by omega)) ⟨rfl, h, fun _ _ _ => rfl⟩) (fun y hy => ok_some.mpr hy)
  obtain ⟨rfl, hC, hf⟩ := hI
  by_cases q : i = D.length
  · subst q
    simp (disch := omega) only [↓nx_q, zb0_s, zb1_s, zb2_s, zb3_s, zb4_s, zb5_s, zb6_s, zb7_s, zb8_s, zb9_s, zb10_s, zb11_s, zb12_s, zb13_s, zb14_s, q_lit, nI_add, pk_mul, e_cl, gi_in, gz_n0, gz_n1, e_gz, si_eq, si_ne, sa_eq, sa_ne, if_true, if_false, ↓reduceIte, k_ltT, k_ltF, k_leT, k_leF, k_eqT, k_eqF, k_m1lt, k_nm1, not_true_eq_false, not_false_eq_true, hd.1]
    refine ⟨_, rfl, ?_, hf⟩
    rw [List.take_length] at hC
    exact hC
  · obtain ⟨d, hd2⟩ : ∃ d, D[i]? = some d := ⟨D[i]'(by omega), List.getElem?_eq_getElem (by omega)⟩
    have hdi := hd.2 i d hd2
    have hki := hk d (List.mem_of_getElem? hd2)
    rw [take_s hd2 x]
    generalize (D.take i).foldl pst x = xi at *
    obtain ⟨⟨c5, c6⟩, r0, r1, r2, hg, hB⟩ := hC
    have h56 := pst_56 (x := xi) (d := d) hB
    have w0 := c_write3 (it := d.2.1) (am := d.2.2) (show 0 < 3 by decide) r0 hB hki
    have w1 := c_write3 (it := d.2.1) (am := d.2.2) (show 1 < 3 by decide) r1 hB hki
    have w2 := c_write3 (it := d.2.1) (am := d.2.2) (show 2 < 3 by decide) r2 hB hki
    obtain ⟨a0', ew0, w0⟩ := w0
    obtain ⟨a1', ew1, w1⟩ := w1
    obtain ⟨a2', ew2, w2⟩ := w2
    obtain ⟨ag', eg, hg'⟩ := c_pass hg
    obtain ⟨kd, it, am⟩ := d
    obtain ⟨d1, d2, d3⟩ := hdi
    dsimp only at d1 d2 d3 ew0 ew1 ew2 hki
    have key : ∀ (a' g' : Ob) (v : Nat), (a' 5 0 = nI ((pst xi (kd, it, am)).1 5) ∧ a' 6 0 = nI ((pst xi (kd, it, am)).1 6)) → (∀ j, j ≠ 5 → j ≠ 6 → a' j = o j) → GC g' (pst xi (kd, it, am)).2.1 (pst xi (kd, it, am)).2.2 → i < D.length ∧ nI (i + 1) = nI (i + 1) ∧ CP a' a0' a1' a2' g' (pst xi (kd, it, am)) ∧ ∀ j, j ≠ 5 → j ≠ 6 → a' j = o j := fun a' g' v h1 h2 h3 => ⟨by omega, rfl, ⟨h1, w0, w1, w2, h3, pst_BW3 hB⟩, h2⟩
    have hnl : ¬ dd 0 0 ≤ nI i := by rw [hd.1]; exact nI_ge (by omega) (by omega)
    have fin : ∀ (a' g' : Ob), (a' 5 0 = nI ((pst xi (kd, it, am)).1 5) ∧ a' 6 0 = nI ((pst xi (kd, it, am)).1 6)) → (∀ j, j ≠ 5 → j ≠ 6 → a' j = o j) → GC g' (pst xi (kd, it, am)).2.1 (pst xi (kd, it, am)).2.2 → Lp (fun (p : Ob × Ob × Ob × Ob × Ob × Int32) => i < D.length ∧ p.2.2.2.2.2 = nI (i + 1) ∧ CP p.1 p.2.1 p.2.2.1 p.2.2.2.1 p.2.2.2.2.1 (pst xi (kd, it, am)) ∧ ∀ j, j ≠ 5 → j ≠ 6 → p.1 j = o j) (fun (p : Ob × Ob × Ob × Ob × Ob) => CP p.1 p.2.1 p.2.2.1 p.2.2.2.1 p.2.2.2.2 (D.foldl pst x) ∧ ∀ j, j ≠ 5 → j ≠ 6 → p.1 j = o j) (Sum.inl (a', a0', a1', a2', g', nI (i + 1))) := fun a' g' h1 h2 h3 => key a' g' 0 h1 h2 h3
    rw [if_neg hnl]
    have loop : ∀ {χ : Type} (B : Ob → Ob → Ob → Int32 → Option ((Ob × Ob × Ob × Int32) ⊕ (Ob × Ob × Ob))) (f : Ob → Ob → Ob → Option χ) (Q : χ → Prop), B a0 a1 a2 (nI 0) = some (Sum.inl (a0', a1, a2, nI 1)) → B a0' a1 a2 (nI 1) = some (Sum.inl (a0', a1', a2, nI 2)) → B a0' a1' a2 (nI 2) = some (Sum.inl (a0', a1', a2', nI 3)) → B a0' a1' a2' (nI 3) = some (Sum.inr (a0', a1', a2')) → Ok (f a0' a1' a2') Q → Ok (zb3 (zl4 B FU a0 a1 a2 (nI 0)) f) Q := by
      intro χ B f Q s0 s1 s2 s3 hQ
      have : zl4 B FU a0 a1 a2 (nI 0) = some (a0', a1', a2') := zl4_fo (fun j => if j = 0 then a0 else a0') (fun j => if j ≤ 1 then a1 else a1') (fun j => if j ≤ 2 then a2 else a2') (fun j => nI j) 3 _ (fu_lt (by decide)) rfl rfl rfl rfl (fun j hj => by
        rcases (by omega : j = 0 ∨ j = 1 ∨ j = 2) with rfl | rfl | rfl
        · exact s0
        · exact s1
        · exact s2) s3
      rw [zb3_of this]
      exact hQ
    rcases (by omega : kd = 0 ∨ kd = 1 ∨ kd = 2 ∨ kd = 3) with rfl | rfl | rfl | rfl
    · simp (maxSteps := 3000000) (disch := omega) only [↓nx_q, zb0_s, zb1_s, zb2_s, zb3_s, zb4_s, zb5_s, zb6_s, zb7_s, zb8_s, zb9_s, zb10_s, zb11_s, zb12_s, zb13_s, zb14_s, q_lit, nI_add, pk_mul, e_cl, gi_in, gz_n0, gz_n1, e_gz, si_eq, si_ne, sa_eq, sa_ne, if_true, if_false, ↓reduceIte, k_ltT, k_ltF, k_leT, k_leF, k_eqT, k_eqF, k_m1lt, k_nm1, not_true_eq_false, not_false_eq_true, d1]
      refine loop _ _ _ ?_ ?_ ?_ ?_ ?_
      · simp (maxSteps := 3000000) (disch := omega) only [↓nx_q, zb0_s, zb1_s, zb2_s, zb3_s, zb4_s, zb5_s, zb6_s, zb7_s, zb8_s, zb9_s, zb10_s, zb11_s, zb12_s, zb13_s, zb14_s, q_lit, nI_add, pk_mul, e_cl, gi_in, gz_n0, gz_n1, e_gz, si_eq, si_ne, sa_eq, sa_ne, if_true, if_false, ↓reduceIte, k_ltT, k_ltF, k_leT, k_leF, k_eqT, k_eqF, k_m1lt, k_nm1, not_true_eq_false, not_false_eq_true, d2, d3, ew0]
      · simp (maxSteps := 3000000) (disch := omega) only [↓nx_q, zb0_s, zb1_s, zb2_s, zb3_s, zb4_s, zb5_s, zb6_s, zb7_s, zb8_s, zb9_s, zb10_s, zb11_s, zb12_s, zb13_s, zb14_s, q_lit, nI_add, pk_mul, e_cl, gi_in, gz_n0, gz_n1, e_gz, si_eq, si_ne, sa_eq, sa_ne, if_true, if_false, ↓reduceIte, k_ltT, k_ltF, k_leT, k_leF, k_eqT, k_eqF, k_m1lt, k_nm1, not_true_eq_false, not_false_eq_true, d2, d3, ew1]
      · simp (maxSteps := 3000000) (disch := omega) only [↓nx_q, zb0_s, zb1_s, zb2_s, zb3_s, zb4_s, zb5_s, zb6_s, zb7_s, zb8_s, zb9_s, zb10_s, zb11_s, zb12_s, zb13_s, zb14_s, q_lit, nI_add, pk_mul, e_cl, gi_in, gz_n0, gz_n1, e_gz, si_eq, si_ne, sa_eq, sa_ne, if_true, if_false, ↓reduceIte, k_ltT, k_ltF, k_leT, k_leF, k_eqT, k_eqF, k_m1lt, k_nm1, not_true_eq_false, not_false_eq_true, d2, d3, ew2]
      · simp (maxSteps := 3000000) (disch := omega) only [↓nx_q, zb0_s, zb1_s, zb2_s, zb3_s, zb4_s, zb5_s, zb6_s, zb7_s, zb8_s, zb9_s, zb10_s, zb11_s, zb12_s, zb13_s, zb14_s, q_lit, nI_add, pk_mul, e_cl, gi_in, gz_n0, gz_n1, e_gz, si_eq, si_ne, sa_eq, sa_ne, if_true, if_false, ↓reduceIte, k_ltT, k_ltF, k_leT, k_leF, k_eqT, k_eqF, k_m1lt, k_nm1, not_true_eq_false, not_false_eq_true]
      · refine ⟨_, rfl, fin _ _ ⟨?_, ?_⟩ (fun j a b => ?_) hg⟩
        · simp (disch := omega) only [si_eq, si_ne, sa_eq, sa_ne, upd_eq, upd_ne, updN_eq, updN_ne, c5, h56.1, nI_add]
          rfl
        · simp (disch := omega) only [si_eq, si_ne, sa_eq, sa_ne, upd_eq, upd_ne, updN_eq, updN_ne, c6, h56.2, nI_add]
          rfl
        · simp (disch := omega) only [si_eq, si_ne, sa_eq, sa_ne, upd_eq, upd_ne, updN_eq, updN_ne]
          exact hf j a b
    · simp (maxSteps := 3000000) (disch := omega) only [↓nx_q, zb0_s, zb1_s, zb2_s, zb3_s, zb4_s, zb5_s, zb6_s, zb7_s, zb8_s, zb9_s, zb10_s, zb11_s, zb12_s, zb13_s, zb14_s, q_lit, nI_add, pk_mul, e_cl, gi_in, gz_n0, gz_n1, e_gz, si_eq, si_ne, sa_eq, sa_ne, if_true, if_false, ↓reduceIte, k_ltT, k_ltF, k_leT, k_leF, k_eqT, k_eqF, k_m1lt, k_nm1, not_true_eq_false, not_false_eq_true, d1]
      refine loop _ _ _ ?_ ?_ ?_ ?_ ?_
      · simp (maxSteps := 3000000) (disch := omega) only [↓nx_q, zb0_s, zb1_s, zb2_s, zb3_s, zb4_s, zb5_s, zb6_s, zb7_s, zb8_s, zb9_s, zb10_s, zb11_s, zb12_s, zb13_s, zb14_s, q_lit, nI_add, pk_mul, e_cl, gi_in, gz_n0, gz_n1, e_gz, si_eq, si_ne, sa_eq, sa_ne, if_true, if_false, ↓reduceIte, k_ltT, k_ltF, k_leT, k_leF, k_eqT, k_eqF, k_m1lt, k_nm1, not_true_eq_false, not_false_eq_true, d2, d3, ew0]
      · simp (maxSteps := 3000000) (disch := omega) only [↓nx_q, zb0_s, zb1_s, zb2_s, zb3_s, zb4_s, zb5_s, zb6_s, zb7_s, zb8_s, zb9_s, zb10_s, zb11_s, zb12_s, zb13_s, zb14_s, q_lit, nI_add, pk_mul, e_cl, gi_in, gz_n0, gz_n1, e_gz, si_eq, si_ne, sa_eq, sa_ne, if_true, if_false, ↓reduceIte, k_ltT, k_ltF, k_leT, k_leF, k_eqT, k_eqF, k_m1lt, k_nm1, not_true_eq_false, not_false_eq_true, d2, d3, ew1]
      · simp (maxSteps := 3000000) (disch := omega) only [↓nx_q, zb0_s, zb1_s, zb2_s, zb3_s, zb4_s, zb5_s, zb6_s, zb7_s, zb8_s, zb9_s, zb10_s, zb11_s, zb12_s, zb13_s, zb14_s, q_lit, nI_add, pk_mul, e_cl, gi_in, gz_n0, gz_n1, e_gz, si_eq, si_ne, sa_eq, sa_ne, if_true, if_false, ↓reduceIte, k_ltT, k_ltF, k_leT, k_leF, k_eqT, k_eqF, k_m1lt, k_nm1, not_true_eq_false, not_false_eq_true, d2, d3, ew2]
      · simp (maxSteps := 3000000) (disch := omega) only [↓nx_q, zb0_s, zb1_s, zb2_s, zb3_s, zb4_s, zb5_s, zb6_s, zb7_s, zb8_s, zb9_s, zb10_s, zb11_s, zb12_s, zb13_s, zb14_s, q_lit, nI_add, pk_mul, e_cl, gi_in, gz_n0, gz_n1, e_gz, si_eq, si_ne, sa_eq, sa_ne, if_true, if_false, ↓reduceIte, k_ltT, k_ltF, k_leT, k_leF, k_eqT, k_eqF, k_m1lt, k_nm1, not_true_eq_false, not_false_eq_true]
      · refine ⟨_, rfl, fin _ _ ⟨?_, ?_⟩ (fun j a b => ?_) hg⟩
        · simp (disch := omega) only [si_eq, si_ne, sa_eq, sa_ne, upd_eq, upd_ne, updN_eq, updN_ne, c5, h56.1, nI_add]
          rfl
        · simp (disch := omega) only [si_eq, si_ne, sa_eq, sa_ne, upd_eq, upd_ne, updN_eq, updN_ne, c6, h56.2, nI_add]
          rfl
        · simp (disch := omega) only [si_eq, si_ne, sa_eq, sa_ne, upd_eq, upd_ne, updN_eq, updN_ne]
          exact hf j a b
    · simp (maxSteps := 3000000) (disch := omega) only [↓nx_q, zb0_s, zb1_s, zb2_s, zb3_s, zb4_s, zb5_s, zb6_s, zb7_s, zb8_s, zb9_s, zb10_s, zb11_s, zb12_s, zb13_s, zb14_s, q_lit, nI_add, pk_mul, e_cl, gi_in, gz_n0, gz_n1, e_gz, si_eq, si_ne, sa_eq, sa_ne, if_true, if_false, ↓reduceIte, k_ltT, k_ltF, k_leT, k_leF, k_eqT, k_eqF, k_m1lt, k_nm1, not_true_eq_false, not_false_eq_true, d1, eg]
      refine loop _ _ _ ?_ ?_ ?_ ?_ ?_
      · simp (maxSteps := 3000000) (disch := omega) only [↓nx_q, zb0_s, zb1_s, zb2_s, zb3_s, zb4_s, zb5_s, zb6_s, zb7_s, zb8_s, zb9_s, zb10_s, zb11_s, zb12_s, zb13_s, zb14_s, q_lit, nI_add, pk_mul, e_cl, gi_in, gz_n0, gz_n1, e_gz, si_eq, si_ne, sa_eq, sa_ne, if_true, if_false, ↓reduceIte, k_ltT, k_ltF, k_leT, k_leF, k_eqT, k_eqF, k_m1lt, k_nm1, not_true_eq_false, not_false_eq_true, d2, d3, ew0]
      · simp (maxSteps := 3000000) (disch := omega) only [↓nx_q, zb0_s, zb1_s, zb2_s, zb3_s, zb4_s, zb5_s, zb6_s, zb7_s, zb8_s, zb9_s, zb10_s, zb11_s, zb12_s, zb13_s, zb14_s, q_lit, nI_add, pk_mul, e_cl, gi_in, gz_n0, gz_n1, e_gz, si_eq, si_ne, sa_eq, sa_ne, if_true, if_false, ↓reduceIte, k_ltT, k_ltF, k_leT, k_leF, k_eqT, k_eqF, k_m1lt, k_nm1, not_true_eq_false, not_false_eq_true, d2, d3, ew1]
      · simp (maxSteps := 3000000) (disch := omega) only [↓nx_q, zb0_s, zb1_s, zb2_s, zb3_s, zb4_s, zb5_s, zb6_s, zb7_s, zb8_s, zb9_s, zb10_s, zb11_s, zb12_s, zb13_s, zb14_s, q_lit, nI_add, pk_mul, e_cl, gi_in, gz_n0, gz_n1, e_gz, si_eq, si_ne, sa_eq, sa_ne, if_true, if_false, ↓reduceIte, k_ltT, k_ltF, k_leT, k_leF, k_eqT, k_eqF, k_m1lt, k_nm1, not_true_eq_false, not_false_eq_true, d2, d3, ew2]
      · simp (maxSteps := 3000000) (disch := omega) only [↓nx_q, zb0_s, zb1_s, zb2_s, zb3_s, zb4_s, zb5_s, zb6_s, zb7_s, zb8_s, zb9_s, zb10_s, zb11_s, zb12_s, zb13_s, zb14_s, q_lit, nI_add, pk_mul, e_cl, gi_in, gz_n0, gz_n1, e_gz, si_eq, si_ne, sa_eq, sa_ne, if_true, if_false, ↓reduceIte, k_ltT, k_ltF, k_leT, k_leF, k_eqT, k_eqF, k_m1lt, k_nm1, not_true_eq_false, not_false_eq_true]
      · refine ⟨_, rfl, fin _ _ ⟨?_, ?_⟩ (fun j a b => ?_) hg'⟩
        · simp (disch := omega) only [si_eq, si_ne, sa_eq, sa_ne, upd_eq, upd_ne, updN_eq, updN_ne, c5, h56.1, nI_add]
          rfl
        · simp (disch := omega) only [si_eq, si_ne, sa_eq, sa_ne, upd_eq, upd_ne, updN_eq, updN_ne, c6, h56.2, nI_add]
          rfl
        · simp (disch := omega) only [si_eq, si_ne, sa_eq, sa_ne, upd_eq, upd_ne, updN_eq, updN_ne]
          exact hf j a b
    · simp (maxSteps := 3000000) (disch := omega) only [↓nx_q, zb0_s, zb1_s, zb2_s, zb3_s, zb4_s, zb5_s, zb6_s, zb7_s, zb8_s, zb9_s, zb10_s, zb11_s, zb12_s, zb13_s, zb14_s, q_lit, nI_add, pk_mul, e_cl, gi_in, gz_n0, gz_n1, e_gz, si_eq, si_ne, sa_eq, sa_ne, if_true, if_false, ↓reduceIte, k_ltT, k_ltF, k_leT, k_leF, k_eqT, k_eqF, k_m1lt, k_nm1, not_true_eq_false, not_false_eq_true, d1, eg]
      refine loop _ _ _ ?_ ?_ ?_ ?_ ?_
      · simp (maxSteps := 3000000) (disch := omega) only [↓nx_q, zb0_s, zb1_s, zb2_s, zb3_s, zb4_s, zb5_s, zb6_s, zb7_s, zb8_s, zb9_s, zb10_s, zb11_s, zb12_s, zb13_s, zb14_s, q_lit, nI_add, pk_mul, e_cl, gi_in, gz_n0, gz_n1, e_gz, si_eq, si_ne, sa_eq, sa_ne, if_true, if_false, ↓reduceIte, k_ltT, k_ltF, k_leT, k_leF, k_eqT, k_eqF, k_m1lt, k_nm1, not_true_eq_false, not_false_eq_true, d2, d3, ew0]
      · simp (maxSteps := 3000000) (disch := omega) only [↓nx_q, zb0_s, zb1_s, zb2_s, zb3_s, zb4_s, zb5_s, zb6_s, zb7_s, zb8_s, zb9_s, zb10_s, zb11_s, zb12_s, zb13_s, zb14_s, q_lit, nI_add, pk_mul, e_cl, gi_in, gz_n0, gz_n1, e_gz, si_eq, si_ne, sa_eq, sa_ne, if_true, if_false, ↓reduceIte, k_ltT, k_ltF, k_leT, k_leF, k_eqT, k_eqF, k_m1lt, k_nm1, not_true_eq_false, not_false_eq_true, d2, d3, ew1]
      · simp (maxSteps := 3000000) (disch := omega) only [↓nx_q, zb0_s, zb1_s, zb2_s, zb3_s, zb4_s, zb5_s, zb6_s, zb7_s, zb8_s, zb9_s, zb10_s, zb11_s, zb12_s, zb13_s, zb14_s, q_lit, nI_add, pk_mul, e_cl, gi_in, gz_n0, gz_n1, e_gz, si_eq, si_ne, sa_eq, sa_ne, if_true, if_false, ↓reduceIte, k_ltT, k_ltF, k_leT, k_leF, k_eqT, k_eqF, k_m1lt, k_nm1, not_true_eq_false, not_false_eq_true, d2, d3, ew2]
      · simp (maxSteps := 3000000) (disch := omega) only [↓nx_q, zb0_s, zb1_s, zb2_s, zb3_s, zb4_s, zb5_s, zb6_s, zb7_s, zb8_s, zb9_s, zb10_s, zb11_s, zb12_s, zb13_s, zb14_s, q_lit, nI_add, pk_mul, e_cl, gi_in, gz_n0, gz_n1, e_gz, si_eq, si_ne, sa_eq, sa_ne, if_true, if_false, ↓reduceIte, k_ltT, k_ltF, k_leT, k_leF, k_eqT, k_eqF, k_m1lt, k_nm1, not_true_eq_false, not_false_eq_true]
      · refine ⟨_, rfl, fin _ _ ⟨?_, ?_⟩ (fun j a b => ?_) hg'⟩
        · simp (disch := omega) only [si_eq, si_ne, sa_eq, sa_ne, upd_eq, upd_ne, updN_eq, updN_ne, c5, h56.1, nI_add]
          rfl
        · simp (disch := omega) only [si_eq, si_ne, sa_eq, sa_ne, upd_eq, upd_ne, updN_eq, updN_ne, c6, h56.2, nI_add]
          rfl
        · simp (disch := omega) only [si_eq, si_ne, sa_eq, sa_ne, upd_eq, upd_ne, updN_eq, updN_ne]
          exact hf j a b
/-! ===== the LOG grows ===== -/
def lgI (a : Nat → Nat) (i : Nat) : Nat → Nat → Nat
  | 0 => a
  | x + 1 => updN (lgI a i x) (224 + 8 * i + x) (a (32 + x))
def lgN (τ : Nat → Nat) (k v : Nat) : Nat → Nat := updN (lgI (updN (updN (updN τ (104 + τ 7) k) (144 + τ 7) v) (184 + τ 7) (τ 3)) (τ 7) 8) 7 (τ 7 + 1)
theorem lgI_fr {a : Nat → Nat} {i j : Nat} : ∀ {n : Nat}, j < 224 + 8 * i ∨ 224 + 8 * i + n ≤ j → lgI a i n j = a j
  | 0, _ => rfl
  | n + 1, h => by
    show updN _ _ _ _ = _
    rw [updN_ne (by omega), lgI_fr (by omega)]
theorem lgI_in {a : Nat → Nat} {i x : Nat} : ∀ {n : Nat}, x < n → lgI a i n (224 + 8 * i + x) = a (32 + x)
  | 0, h => by omega
  | n + 1, h => by
    show updN _ _ _ _ = _
    by_cases e : x = n
    · subst e
      rw [updN_eq]
    · rw [updN_ne (by omega), lgI_in (by omega)]
theorem m_logs {M M1 : Ob} {τ : Nat → Nat} {x1 : PQ} {k v : Nat} (ha : f_X12_asks M (nI k) = some (M1, nI v)) (h : MS M1 τ x1) (h7 : τ 7 < 40) : Ok (f_X12_logs M (nI k)) (fun p => MS p.1 (lgN τ k v) x1 ∧ FrM M1 p.1 ∧ p.2 = nI v) := by
  have hM := h.1
  unfold f_X12_logs
  rw [ha, zb2_s]
  simp (maxSteps := 3000000) (disch := omega) only [↓nx_q, zb0_s, zb1_s, zb2_s, zb3_s, zb4_s, zb5_s, zb6_s, zb7_s, zb8_s, zb9_s, zb10_s, zb11_s, zb12_s, zb13_s, zb14_s, q_lit, nI_add, pk_mul, e_cl, gi_in, gz_n0, gz_n1, e_gz, si_eq, si_ne, sa_eq, sa_ne, if_true, if_false, ↓reduceIte, k_ltT, k_ltF, k_leT, k_leF, k_eqT, k_eqF, k_m1lt, k_nm1, not_true_eq_false, not_false_eq_true, hM, rw_ap, upd_rw, sa_sa, jn_l, jn_r, jn_4, jn_5, jn_6, jn_ul, jn_ur, jn_u4, jn_u5, jn_u6, updN_ne]
  have e7 : updN (updN (updN τ (104 + τ 7) k) (144 + τ 7) v) (184 + τ 7) (τ 3) 7 = τ 7 := by
    rw [updN_ne (by omega), updN_ne (by omega), updN_ne (by omega)]
  have hdef : lgN τ k v = updN (lgI (updN (updN (updN τ (104 + τ 7) k) (144 + τ 7) v) (184 + τ 7) (τ 3)) (τ 7) 8) 7 (τ 7 + 1) := rfl
  rw [hdef]
  generalize updN (updN (updN τ (104 + τ 7) k) (144 + τ 7) v) (184 + τ 7) (τ 3) = a at *
  rw [ok_zb1]
  refine ⟨sa M1 0 (rw (jn (lgI a (τ 7) 8) x1.1)), zl2_fo (fun j => sa M1 0 (rw (jn (lgI a (τ 7) j) x1.1))) (fun j => nI j) 8 _ (fu_lt (by decide)) rfl rfl (fun j hj => ?_) ?_, ?_⟩
  · show _ = some (Sum.inl (sa M1 0 (rw (jn (updN (lgI a (τ 7) j) (224 + 8 * τ 7 + j) (a (32 + j))) x1.1)), nI (j + 1)))
    simp (maxSteps := 3000000) (disch := omega) only [↓nx_q, zb0_s, zb1_s, zb2_s, zb3_s, zb4_s, zb5_s, zb6_s, zb7_s, zb8_s, zb9_s, zb10_s, zb11_s, zb12_s, zb13_s, zb14_s, q_lit, nI_add, pk_mul, e_cl, gi_in, gz_n0, gz_n1, e_gz, si_eq, si_ne, sa_eq, sa_ne, if_true, if_false, ↓reduceIte, k_ltT, k_ltF, k_leT, k_leF, k_eqT, k_eqF, k_m1lt, k_nm1, not_true_eq_false, not_false_eq_true, rw_ap, upd_rw, sa_sa, jn_l, jn_r, jn_4, jn_5, jn_6, jn_ul, jn_ur, jn_u4, jn_u5, jn_u6, lgI_fr]
  · simp (maxSteps := 3000000) (disch := omega) only [↓nx_q, zb0_s, zb1_s, zb2_s, zb3_s, zb4_s, zb5_s, zb6_s, zb7_s, zb8_s, zb9_s, zb10_s, zb11_s, zb12_s, zb13_s, zb14_s, q_lit, nI_add, pk_mul, e_cl, gi_in, gz_n0, gz_n1, e_gz, si_eq, si_ne, sa_eq, sa_ne, if_true, if_false, ↓reduceIte, k_ltT, k_ltF, k_leT, k_leF, k_eqT, k_eqF, k_m1lt, k_nm1, not_true_eq_false, not_false_eq_true]
  · simp (maxSteps := 3000000) (disch := omega) only [↓nx_q, zb0_s, zb1_s, zb2_s, zb3_s, zb4_s, zb5_s, zb6_s, zb7_s, zb8_s, zb9_s, zb10_s, zb11_s, zb12_s, zb13_s, zb14_s, q_lit, nI_add, pk_mul, e_cl, gi_in, gz_n0, gz_n1, e_gz, si_eq, si_ne, sa_eq, sa_ne, if_true, if_false, ↓reduceIte, k_ltT, k_ltF, k_leT, k_leF, k_eqT, k_eqF, k_m1lt, k_nm1, not_true_eq_false, not_false_eq_true, rw_ap, upd_rw, sa_sa, jn_l, jn_r, jn_4, jn_5, jn_6, jn_ul, jn_ur, jn_u4, jn_u5, jn_u6, lgI_fr, e7]
    exact ⟨_, rfl, MS_set h, Fr_set _ _, rfl⟩
theorem lg_fr {τ : Nat → Nat} {k v j : Nat} (h7 : τ 7 < 40) (h : j < 104 ∨ 544 ≤ j) (hj : j ≠ 7) : lgN τ k v j = τ j := by
  unfold lgN
  rw [updN_ne hj, lgI_fr (by omega), updN_ne (by omega), updN_ne (by omega), updN_ne (by omega)]
theorem lg_7 (τ : Nat → Nat) (k v : Nat) : lgN τ k v 7 = τ 7 + 1 := updN_eq _ _ _
theorem lg_row {τ : Nat → Nat} {k v i : Nat} (h7 : τ 7 < 40) (hi : i < 40) : lgN τ k v (104 + i) = (if i = τ 7 then k else τ (104 + i)) ∧ lgN τ k v (144 + i) = (if i = τ 7 then v else τ (144 + i)) ∧ lgN τ k v (184 + i) = (if i = τ 7 then τ 3 else τ (184 + i)) ∧ ∀ x, x < 8 → lgN τ k v (224 + 8 * i + x) = (if i = τ 7 then τ (32 + x) else τ (224 + 8 * i + x)) := by
  unfold lgN
  by_cases e : i = τ 7
  · subst e
    refine ⟨?_, ?_, ?_, fun x hx => ?_⟩
    · rw [if_pos rfl, updN_ne (by omega), lgI_fr (by omega), updN_ne (by omega), updN_ne (by omega), updN_eq]
    · rw [if_pos rfl, updN_ne (by omega), lgI_fr (by omega), updN_ne (by omega), updN_eq]
    · rw [if_pos rfl, updN_ne (by omega), lgI_fr (by omega), updN_eq]
    · rw [if_pos rfl, updN_ne (by omega), lgI_in hx, updN_ne (by omega), updN_ne (by omega), updN_ne (by omega)]
  · refine ⟨?_, ?_, ?_, fun x hx => ?_⟩
    · rw [if_neg e, updN_ne (by omega), lgI_fr (by omega), updN_ne (by omega), updN_ne (by omega), updN_ne (by omega)]
    · rw [if_neg e, updN_ne (by omega), lgI_fr (by omega), updN_ne (by omega), updN_ne (by omega), updN_ne (by omega)]
    · rw [if_neg e, updN_ne (by omega), lgI_fr (by omega), updN_ne (by omega), updN_ne (by omega), updN_ne (by omega)]
    · rw [if_neg e, updN_ne (by omega), lgI_fr (by omega), updN_ne (by omega), updN_ne (by omega), updN_ne (by omega)]
theorem RCl_congr {o : Ob} {σ τ : Nat → Nat} (h : RCl o σ) (h7 : σ 7 ≤ 40) (e : ∀ j, j = 7 ∨ (104 ≤ j ∧ j < 544) → τ j = σ j) : RCl o τ := by
  refine ⟨by rw [e 7 (by omega)]; exact h.1, fun i hi => ?_⟩
  rw [e 7 (by omega)] at hi
  have hi' := h.2 i hi
  rw [e (104 + i) (by omega), e (144 + i) (by omega), e (184 + i) (by omega)]
  refine ⟨hi'.1, hi'.2.1, hi'.2.2.1, fun x hx => ?_⟩
  rw [e (224 + 8 * i + x) (by omega)]
  exact hi'.2.2.2 x hx
theorem c_logAdd {l o : Ob} {τ : Nat → Nat} {k v : Nat} (hl : RCl l τ) (ho : RCh o τ) (h7 : τ 7 < 40) : Ok (f_X4_add l o (nI k) (nI v)) (fun l' => RCl l' (lgN τ k v)) := by
  have l0 := hl.1
  have o2 := ho.2.2.1
  unfold f_X4_add f_X4_isFull
  simp (maxSteps := 3000000) (disch := omega) only [↓nx_q, zb0_s, zb1_s, zb2_s, zb3_s, zb4_s, zb5_s, zb6_s, zb7_s, zb8_s, zb9_s, zb10_s, zb11_s, zb12_s, zb13_s, zb14_s, q_lit, nI_add, pk_mul, e_cl, gi_in, gz_n0, gz_n1, e_gz, si_eq, si_ne, sa_eq, sa_ne, if_true, if_false, ↓reduceIte, k_ltT, k_ltF, k_leT, k_leF, k_eqT, k_eqF, k_m1lt, k_nm1, not_true_eq_false, not_false_eq_true, l0, o2, gc_in]
  refine ⟨_, rfl, ?_, fun i hi => ?_⟩
  · rw [si_eq, lg_7]
  · rw [lg_7] at hi
    have hr := lg_row (k := k) (v := v) h7 (show i < 40 by omega)
    rw [hr.1, hr.2.1, hr.2.2.1]
    simp (disch := omega) only [si_eq, si_ne, sa_eq, sa_ne, upd_eq, upd_ne, updN_eq, updN_ne]
    by_cases e : i = τ 7
    · subst e
      simp only [upd_eq, if_true]
      refine ⟨trivial, trivial, trivial, fun x hx => ?_⟩
      rw [hr.2.2.2 x hx, if_pos rfl, pk_cpy_in (by omega) (by omega), show 0 + (8 * τ 7 + x - τ 7 * 8) = x by omega]
      exact (ho.2.2.2.2 x hx).1
    · have hi' := hl.2 i (by omega)
      rw [upd_ne e, upd_ne e, upd_ne e, if_neg e, if_neg e, if_neg e]
      refine ⟨hi'.1, hi'.2.1, hi'.2.2.1, fun x hx => ?_⟩
      rw [hr.2.2.2 x hx, if_neg e, pk_cpy_out (by omega)]
      exact hi'.2.2.2 x hx
/-! ===== a whole state, well made ===== -/
def WF (σ : Nat → Nat) : Prop := Wv σ ∧ σ 1 ≤ 2 ∧ σ 7 ≤ 40 ∧ WFhc (σ 7) σ ∧ WFk σ ∧ WFn σ ∧ WFl σ
theorem WFn_congr {σ τ : Nat → Nat} (h : WFn σ) (h8 : σ 2 ≤ 8) (e2 : τ 2 = σ 2) (e : ∀ j, 56 ≤ j → j < 104 → τ j = σ j) : WFn τ := by
  intro k hk
  rw [e2] at hk
  have hk' := h k hk
  rw [e (56 + 6 * k) (by omega) (by omega)]
  refine ⟨hk'.1, fun i hi => ?_⟩
  rw [e (56 + 6 * k + i) (by omega) (by omega)]
  exact hk'.2 i hi
theorem WF_lg {σ τ : Nat → Nat} {k v : Nat} (hw : WF σ) (hf : FrS σ τ) (hv : Wv τ) (hh : WFhc (σ 7 + 1) τ) (hq : WFk τ) (h7 : σ 7 < 40) (hk : k < σ 2) (hp : v ≤ 80) : WF (lgN τ k v) := by
  obtain ⟨w1, w2, w3, w4, w5, w6, w7⟩ := hw
  have t7 : τ 7 = σ 7 := hf 7 (by decide) (by omega)
  have t2 : τ 2 = σ 2 := hf 2 (by decide) (by omega)
  have t1 : τ 1 = σ 1 := hf 1 (by decide) (by omega)
  have h7' : τ 7 < 40 := by omega
  have e : ∀ j, j < 104 ∨ 544 ≤ j → j ≠ 7 → lgN τ k v j = τ j := fun j h hj => lg_fr h7' h hj
  have e2 := e 2 (by omega) (by omega)
  refine ⟨?_, ?_, ?_, ?_, ?_, ?_, ?_⟩
  · obtain ⟨a, b, c, d, f, g⟩ := hv
    refine ⟨by rw [e2]; exact a, by rw [e2, e 3 (by omega) (by omega)]; exact b, by rw [e 0 (by omega) (by omega)]; exact c, ?_, ?_, ?_⟩
    · rw [e 0 (by omega) (by omega)]
      have : liesN (lgN τ k v) = liesN τ := by
        unfold liesN
        rw [e2, e 3 (by omega) (by omega)]
        exact sumB_congr (fun _ _ => rfl) (fun j hj _ => e (8 + j) (by omega) (by omega))
      omega
    · intro j hj
      rw [e2] at hj
      rw [e (8 + j) (by omega) (by omega), e (16 + j) (by omega) (by omega), e (24 + j) (by omega) (by omega)]
      exact f j hj
    · intro j hj
      rw [e 3 (by omega) (by omega), e (32 + j) (by omega) (by omega)]
      exact g j hj
  · rw [e 1 (by omega) (by omega), t1]
    exact w2
  · rw [lg_7]
    omega
  · intro j hj
    rw [lg_7, e2, e (48 + j) (by omega) (by omega), t7]
    exact hh j hj
  · intro j hj
    have := hv.1
    rw [e2] at hj
    rw [e (40 + j) (by omega) (by omega)]
    exact hq j hj
  · exact WFn_congr w6 w1.1 (e2.trans t2) (fun j h1 h2 => (e j (by omega) (by omega)).trans (hf j (by omega) (by omega)))
  · intro i hi
    rw [lg_7] at hi
    have hr := lg_row (k := k) (v := v) h7' (show i < 40 by omega)
    rw [hr.1, hr.2.1, hr.2.2.1, e2, t2]
    by_cases ei : i = τ 7
    · rw [if_pos ei, if_pos ei, if_pos ei]
      refine ⟨hk, hp, by rw [← t2]; exact hv.2.1, fun x hx => ?_⟩
      rw [hr.2.2.2 x hx, if_pos ei]
      exact hv.2.2.2.2.2 x hx
    · rw [if_neg ei, if_neg ei, if_neg ei]
      have hl := w7 i (by omega)
      rw [hf (104 + i) (by omega) (by omega), hf (144 + i) (by omega) (by omega), hf (184 + i) (by omega) (by omega)]
      refine ⟨hl.1, hl.2.1, hl.2.2.1, fun x hx => ?_⟩
      rw [hr.2.2.2 x hx, if_neg ei, hf (224 + 8 * i + x) (by omega) (by omega)]
      exact hl.2.2.2 x hx
