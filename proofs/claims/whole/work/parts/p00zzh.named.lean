/-! ===== reading: which ITEM ===== -/
theorem l5_sub (c : Nat) : l5 c = c - 96 := by
  unfold l5
  by_cases h : c = 0
  · rw [if_pos h, h]
  · rw [if_neg h]
theorem dig6 {a b c d e f a' b' c' d' e' f' : Nat} (h0 : a < 32) (h1 : b < 32) (h2 : c < 32) (h3 : d < 32) (h4 : e < 32) (g0 : a' < 32) (g1 : b' < 32) (g2 : c' < 32) (g3 : d' < 32) (g4 : e' < 32) (h : a + 32 * (b + 32 * (c + 32 * (d + 32 * (e + 32 * f)))) = a' + 32 * (b' + 32 * (c' + 32 * (d' + 32 * (e' + 32 * f'))))) : a = a' ∧ b = b' ∧ c = c' ∧ d = d' ∧ e = e' ∧ f = f' := by omega
theorem lt32 {c : Nat} (h : c = 0 ∨ (97 ≤ c ∧ c ≤ 122)) : c - 96 < 32 := by omega
theorem e96 {c d : Nat} (h : c = 0 ∨ (97 ≤ c ∧ c ≤ 122)) (g : d = 0 ∨ (97 ≤ d ∧ d ≤ 122)) (q : c - 96 = d - 96) : c = d := by omega
def wlN (t : Nat → Nat) (a d i : Nat) : Nat := if i < d then t (a + i) else 0
def MtP (τ : Nat → Nat) (t : Nat → Nat) (a d j : Nat) : Prop := ∀ i, i < 6 → τ (56 + 6 * j + i) = wlN t a d i
theorem wl_in {t : Nat → Nat} {a d i : Nat} (h : i < d) : wlN t a d i = t (a + i) := if_pos h
theorem wl_out {t : Nat → Nat} {a d i : Nat} (h : ¬ i < d) : wlN t a d i = 0 := if_neg h
theorem pk_wl {t : Nat → Nat} {a d : Nat} (h1 : 1 ≤ d) (h6 : d ≤ 6) (hs : ∀ i, i < d → smC (t (a + i))) : pkT t a d = l5 (wlN t a d 0) + 32 * (l5 (wlN t a d 1) + 32 * (l5 (wlN t a d 2) + 32 * (l5 (wlN t a d 3) + 32 * (l5 (wlN t a d 4) + 32 * l5 (wlN t a d 5))))) := by
  have hd : d = 1 ∨ d = 2 ∨ d = 3 ∨ d = 4 ∨ d = 5 ∨ d = 6 := by omega
  have e : ∀ i, i < d → l5 (wlN t a d i) = t (a + i) - 97 + 1 ∧ t (a + i) - 97 + 1 ≤ 26 := fun i hi => by
    have := (hs i hi).1
    have := (hs i hi).2
    rw [wl_in hi]
    rw [l5_sub]
    omega
  have z : ∀ i, ¬ i < d → l5 (wlN t a d i) = 0 := fun i hi => by
    rw [wl_out hi]
    rfl
  rcases hd with rfl | rfl | rfl | rfl | rfl | rfl
  · rw [(e 0 (by decide)).1, z 1 (by decide), z 2 (by decide), z 3 (by decide), z 4 (by decide), z 5 (by decide)]
    simp only [pkT]
    omega
  · rw [(e 0 (by decide)).1, (e 1 (by decide)).1, z 2 (by decide), z 3 (by decide), z 4 (by decide), z 5 (by decide)]
    simp only [pkT]
    omega
  · rw [(e 0 (by decide)).1, (e 1 (by decide)).1, (e 2 (by decide)).1, z 3 (by decide), z 4 (by decide), z 5 (by decide)]
    simp only [pkT]
    omega
  · rw [(e 0 (by decide)).1, (e 1 (by decide)).1, (e 2 (by decide)).1, (e 3 (by decide)).1, z 4 (by decide), z 5 (by decide)]
    simp only [pkT]
    omega
  · rw [(e 0 (by decide)).1, (e 1 (by decide)).1, (e 2 (by decide)).1, (e 3 (by decide)).1, (e 4 (by decide)).1, z 5 (by decide)]
    simp only [pkT]
    omega
  · rw [(e 0 (by decide)).1, (e 1 (by decide)).1, (e 2 (by decide)).1, (e 3 (by decide)).1, (e 4 (by decide)).1, (e 5 (by decide)).1]
    simp only [pkT]
    omega
theorem mt_pk {τ : Nat → Nat} {t : Nat → Nat} {a d j : Nat} (h1 : 1 ≤ d) (h6 : d ≤ 6) (hs : ∀ i, i < d → smC (t (a + i))) (hr : ∀ i, i < 6 → τ (56 + 6 * j + i) = 0 ∨ (97 ≤ τ (56 + 6 * j + i) ∧ τ (56 + 6 * j + i) ≤ 122)) : packN τ j = pkT t a d ↔ MtP τ t a d j := by
  rw [pk_wl h1 h6 hs]
  have w : ∀ i, wlN t a d i = 0 ∨ (97 ≤ wlN t a d i ∧ wlN t a d i ≤ 122) := fun i => by
    by_cases q : i < d
    · rw [wl_in q]; exact Or.inr (hs i q)
    · exact Or.inl (wl_out q)
  have r0 := hr 0 (by decide)
  have r1 := hr 1 (by decide)
  have r2 := hr 2 (by decide)
  have r3 := hr 3 (by decide)
  have r4 := hr 4 (by decide)
  have r5 := hr 5 (by decide)
  have w0 := w 0
  have w1 := w 1
  have w2 := w 2
  have w3 := w 3
  have w4 := w 4
  have w5 := w 5
  rw [Nat.add_zero] at r0
  unfold packN
  simp only [l5_sub]
  refine ⟨fun h i hi => ?_, fun h => ?_⟩
  · obtain ⟨q0, q1, q2, q3, q4, q5⟩ := dig6 (lt32 r0) (lt32 r1) (lt32 r2) (lt32 r3) (lt32 r4) (lt32 w0) (lt32 w1) (lt32 w2) (lt32 w3) (lt32 w4) h
    have hi' : i = 0 ∨ i = 1 ∨ i = 2 ∨ i = 3 ∨ i = 4 ∨ i = 5 := by clear h r0 r1 r2 r3 r4 r5 w0 w1 w2 w3 w4 w5 q0 q1 q2 q3 q4 q5; omega
    rcases hi' with e | e | e | e | e | e <;> subst e
    · exact e96 r0 w0 q0
    · exact e96 r1 w1 q1
    · exact e96 r2 w2 q2
    · exact e96 r3 w3 q3
    · exact e96 r4 w4 q4
    · exact e96 r5 w5 q5
  · have m0 := h 0 (by decide)
    have m1 := h 1 (by decide)
    have m2 := h 2 (by decide)
    have m3 := h 3 (by decide)
    have m4 := h 4 (by decide)
    have m5 := h 5 (by decide)
    rw [Nat.add_zero] at m0
    rw [m0, m1, m2, m3, m4, m5]
theorem m_named_s {M : Ob} {τ : Nat → Nat} {t : Nat → Nat} {a x c : Nat} (h2 : M 0 2 = nI c) (hc : c ≤ 8) (hr : ∀ j, j < c → ∀ i, i < 6 → M 0 (56 + 6 * j + i) = nI (τ (56 + 6 * j + i)) ∧ τ (56 + 6 * j + i) < 256) (hd : x - a ≤ 6) (h16 : M 16 0 = nI (x - a)) (h15 : ∀ i, i < x - a → M 15 i = nI (t (a + i))) (ht : ∀ i, i < x - a → t (a + i) < 256) : Ok (f_X12_named__s M) (fun r => (∃ j, j < c ∧ r = nI j ∧ MtP τ t a (x - a) j ∧ ∀ y, y < j → ¬ MtP τ t a (x - a) y) ∨ (r = -nI 1 ∧ ∀ y, y < c → ¬ MtP τ t a (x - a) y)) := by
  have hin : ∀ (j : Nat), j < c → ∀ B : Int32 → Int32 → Option ((Int32 × Int32) ⊕ Int32), (∀ k59 k60, B k59 k60 = (
    if (6 : Int32) ≤ k60 then (
    some (.inr k59)
    ) else (
    if k59 = 0 then (
    some (.inr k59)
    ) else (
    gi (((56 : Int32) + ((6 : Int32) * nI j)) + k60) 835 <|
    nx (fun (j69 : Int32) => (
    if M 0 (Int32.toNatClampNeg (((56 : Int32) + ((6 : Int32) * nI j)) + k60)) = j69 then (
    nx (k60 + (1 : Int32)) fun x72 =>
    some (.inl ((1 : Int32), x72))
    ) else (
    nx (k60 + (1 : Int32)) fun x71 =>
    some (.inl ((0 : Int32), x71))
    )
    )) fun K70 =>
    if M 16 0 ≤ k60 then (
    K70 (0 : Int32)
    ) else (
    gi k60 6 <|
    K70 (M 15 (Int32.toNatClampNeg k60))
    )
    )
    ))) → Ok (zl2 B FU (nI 1) (nI 0)) (fun r => (MtP τ t a (x - a) j ∧ r = nI 1) ∨ (¬ MtP τ t a (x - a) j ∧ r = nI 0)) := by
    intro j hj B hB
    refine ok_zl2 (fun i f kk => kk = nI i ∧ ((f = nI 1 ∧ ∀ y, y < i → τ (56 + 6 * j + y) = wlN t a (x - a) y) ∨ (f = nI 0 ∧ ¬ MtP τ t a (x - a) j))) 6 (fun i f kk hi hI => ?_) (fu_lt (by decide)) ⟨rfl, Or.inl ⟨rfl, fun y hy => absurd hy (Nat.not_lt_zero _)⟩⟩
    obtain ⟨rfl, h⟩ := hI
    rw [hB]
    by_cases qi : i = 6
    · subst qi
      simp (maxSteps := 3000000) (disch := omega) only [↓nx_q, zb0_s, zb1_s, zb2_s, zb3_s, zb4_s, zb5_s, zb6_s, zb7_s, zb8_s, zb9_s, zb10_s, zb11_s, zb12_s, zb13_s, zb14_s, q_lit, nI_add, pk_mul, e_cl, gi_in, gz_n0, gz_n1, e_gz, si_eq, si_ne, sa_eq, sa_ne, if_true, if_false, ↓reduceIte, k_ltT, k_ltF, k_leT, k_leF, k_eqT, k_eqF, k_m1lt, k_nm1, not_true_eq_false, not_false_eq_true]
      rcases h with ⟨rfl, h⟩ | ⟨rfl, h⟩
      · exact ⟨_, rfl, Or.inl ⟨h, rfl⟩⟩
      · exact ⟨_, rfl, Or.inr ⟨h, rfl⟩⟩
    · rcases h with ⟨rfl, h⟩ | ⟨rfl, h⟩
      · obtain ⟨r1, r2⟩ := hr j hj i (by omega)
        have nxt : τ (56 + 6 * j + i) = wlN t a (x - a) i → ∀ y, y < i + 1 → τ (56 + 6 * j + y) = wlN t a (x - a) y := fun e y hy => by
          by_cases z : y = i
          · subst z; exact e
          · exact h y (by omega)
        by_cases q : i < x - a
        · have l := h15 i q
          have l2 := ht i q
          have w := wl_in (t := t) (a := a) q
          by_cases e : τ (56 + 6 * j + i) = t (a + i)
          · simp (maxSteps := 3000000) (disch := omega) only [↓nx_q, zb0_s, zb1_s, zb2_s, zb3_s, zb4_s, zb5_s, zb6_s, zb7_s, zb8_s, zb9_s, zb10_s, zb11_s, zb12_s, zb13_s, zb14_s, q_lit, nI_add, pk_mul, e_cl, gi_in, gz_n0, gz_n1, e_gz, si_eq, si_ne, sa_eq, sa_ne, if_true, if_false, ↓reduceIte, k_ltT, k_ltF, k_leT, k_leF, k_eqT, k_eqF, k_m1lt, k_nm1, not_true_eq_false, not_false_eq_true, r1, h16, l]
            exact ⟨_, rfl, by omega, rfl, Or.inl ⟨rfl, nxt (by rw [w]; exact e)⟩⟩
          · simp (maxSteps := 3000000) (disch := omega) only [↓nx_q, zb0_s, zb1_s, zb2_s, zb3_s, zb4_s, zb5_s, zb6_s, zb7_s, zb8_s, zb9_s, zb10_s, zb11_s, zb12_s, zb13_s, zb14_s, q_lit, nI_add, pk_mul, e_cl, gi_in, gz_n0, gz_n1, e_gz, si_eq, si_ne, sa_eq, sa_ne, if_true, if_false, ↓reduceIte, k_ltT, k_ltF, k_leT, k_leF, k_eqT, k_eqF, k_m1lt, k_nm1, not_true_eq_false, not_false_eq_true, r1, h16, l]
            exact ⟨_, rfl, by omega, rfl, Or.inr ⟨rfl, fun z => e (by rw [← w]; exact z i (by omega))⟩⟩
        · have w := wl_out (t := t) (a := a) q
          by_cases e : τ (56 + 6 * j + i) = 0
          · simp (maxSteps := 3000000) (disch := omega) only [↓nx_q, zb0_s, zb1_s, zb2_s, zb3_s, zb4_s, zb5_s, zb6_s, zb7_s, zb8_s, zb9_s, zb10_s, zb11_s, zb12_s, zb13_s, zb14_s, q_lit, nI_add, pk_mul, e_cl, gi_in, gz_n0, gz_n1, e_gz, si_eq, si_ne, sa_eq, sa_ne, if_true, if_false, ↓reduceIte, k_ltT, k_ltF, k_leT, k_leF, k_eqT, k_eqF, k_m1lt, k_nm1, not_true_eq_false, not_false_eq_true, r1, h16]
            exact ⟨_, rfl, by omega, rfl, Or.inl ⟨rfl, nxt (by rw [w]; exact e)⟩⟩
          · simp (maxSteps := 3000000) (disch := omega) only [↓nx_q, zb0_s, zb1_s, zb2_s, zb3_s, zb4_s, zb5_s, zb6_s, zb7_s, zb8_s, zb9_s, zb10_s, zb11_s, zb12_s, zb13_s, zb14_s, q_lit, nI_add, pk_mul, e_cl, gi_in, gz_n0, gz_n1, e_gz, si_eq, si_ne, sa_eq, sa_ne, if_true, if_false, ↓reduceIte, k_ltT, k_ltF, k_leT, k_leF, k_eqT, k_eqF, k_m1lt, k_nm1, not_true_eq_false, not_false_eq_true, r1, h16]
            exact ⟨_, rfl, by omega, rfl, Or.inr ⟨rfl, fun z => e (by rw [← w]; exact z i (by omega))⟩⟩
      · simp (maxSteps := 3000000) (disch := omega) only [↓nx_q, zb0_s, zb1_s, zb2_s, zb3_s, zb4_s, zb5_s, zb6_s, zb7_s, zb8_s, zb9_s, zb10_s, zb11_s, zb12_s, zb13_s, zb14_s, q_lit, nI_add, pk_mul, e_cl, gi_in, gz_n0, gz_n1, e_gz, si_eq, si_ne, sa_eq, sa_ne, if_true, if_false, ↓reduceIte, k_ltT, k_ltF, k_leT, k_leF, k_eqT, k_eqF, k_m1lt, k_nm1, not_true_eq_false, not_false_eq_true]
        exact ⟨_, rfl, Or.inr ⟨h, rfl⟩⟩
  unfold f_X12_named__s
  rw [ok_ze0]
  refine ok_mono (ok_zl1 (Q := fun y => (y = .inl () ∧ ∀ y, y < c → ¬ MtP τ t a (x - a) y) ∨ (∃ j, j < c ∧ y = .inr (nI j) ∧ MtP τ t a (x - a) j ∧ ∀ y, y < j → ¬ MtP τ t a (x - a) y)) (fun i kk => kk = nI i ∧ ∀ y, y < i → ¬ MtP τ t a (x - a) y) c (fun i kk hi hI => ?_) (fu_lt (by omega)) ⟨rfl, fun y hy => absurd hy (Nat.not_lt_zero _)⟩) (fun y hy => ?_)
  · obtain ⟨rfl, h⟩ := hI
    by_cases qi : i = c
    · simp (maxSteps := 3000000) (disch := omega) only [↓nx_q, zb0_s, zb1_s, zb2_s, zb3_s, zb4_s, zb5_s, zb6_s, zb7_s, zb8_s, zb9_s, zb10_s, zb11_s, zb12_s, zb13_s, zb14_s, q_lit, nI_add, pk_mul, e_cl, gi_in, gz_n0, gz_n1, e_gz, si_eq, si_ne, sa_eq, sa_ne, if_true, if_false, ↓reduceIte, k_ltT, k_ltF, k_leT, k_leF, k_eqT, k_eqF, k_m1lt, k_nm1, not_true_eq_false, not_false_eq_true, h2]
      subst qi
      exact ⟨_, rfl, Or.inl ⟨rfl, h⟩⟩
    · simp (maxSteps := 3000000) (disch := omega) only [↓nx_q, zb0_s, zb1_s, zb2_s, zb3_s, zb4_s, zb5_s, zb6_s, zb7_s, zb8_s, zb9_s, zb10_s, zb11_s, zb12_s, zb13_s, zb14_s, q_lit, nI_add, pk_mul, e_cl, gi_in, gz_n0, gz_n1, e_gz, si_eq, si_ne, sa_eq, sa_ne, if_true, if_false, ↓reduceIte, k_ltT, k_ltF, k_leT, k_leF, k_eqT, k_eqF, k_m1lt, k_nm1, not_true_eq_false, not_false_eq_true, h2]
      rw [ok_zb1]
      refine ok_mono (hin i (by omega) _ (fun f g => by simp (maxSteps := 3000000) (disch := omega) only [↓nx_q, zb0_s, zb1_s, zb2_s, zb3_s, zb4_s, zb5_s, zb6_s, zb7_s, zb8_s, zb9_s, zb10_s, zb11_s, zb12_s, zb13_s, zb14_s, q_lit, nI_add, pk_mul, e_cl, gi_in, gz_n0, gz_n1, e_gz, si_eq, si_ne, sa_eq, sa_ne, if_true, if_false, ↓reduceIte, k_ltT, k_ltF, k_leT, k_leF, k_eqT, k_eqF, k_m1lt, k_nm1, not_true_eq_false, not_false_eq_true])) (fun r hr => ?_)
      rcases hr with ⟨q, rfl⟩ | ⟨q, rfl⟩
      · simp (maxSteps := 3000000) (disch := omega) only [↓nx_q, zb0_s, zb1_s, zb2_s, zb3_s, zb4_s, zb5_s, zb6_s, zb7_s, zb8_s, zb9_s, zb10_s, zb11_s, zb12_s, zb13_s, zb14_s, q_lit, nI_add, pk_mul, e_cl, gi_in, gz_n0, gz_n1, e_gz, si_eq, si_ne, sa_eq, sa_ne, if_true, if_false, ↓reduceIte, k_ltT, k_ltF, k_leT, k_leF, k_eqT, k_eqF, k_m1lt, k_nm1, not_true_eq_false, not_false_eq_true]
        exact ⟨_, rfl, Or.inr ⟨i, by omega, rfl, q, h⟩⟩
      · simp (maxSteps := 3000000) (disch := omega) only [↓nx_q, zb0_s, zb1_s, zb2_s, zb3_s, zb4_s, zb5_s, zb6_s, zb7_s, zb8_s, zb9_s, zb10_s, zb11_s, zb12_s, zb13_s, zb14_s, q_lit, nI_add, pk_mul, e_cl, gi_in, gz_n0, gz_n1, e_gz, si_eq, si_ne, sa_eq, sa_ne, if_true, if_false, ↓reduceIte, k_ltT, k_ltF, k_leT, k_leF, k_eqT, k_eqF, k_m1lt, k_nm1, not_true_eq_false, not_false_eq_true]
        refine ⟨_, rfl, by omega, rfl, fun y hy => ?_⟩
        by_cases z : y = i
        · subst z; exact q
        · exact h y (by omega)
  · rcases hy with ⟨rfl, h⟩ | ⟨j, hj, rfl, h⟩
    · exact ⟨_, rfl, Or.inr ⟨rfl, h⟩⟩
    · exact ⟨_, rfl, Or.inl ⟨j, hj, rfl, h⟩⟩
theorem m_named_spare {M : Ob} {τ : Nat → Nat} {t : Nat → Nat} {a x c : Nat} (h2 : M 3 2 = nI c) (hc : c ≤ 8) (hr : ∀ j, j < c → ∀ i, i < 6 → M 3 (56 + 6 * j + i) = nI (τ (56 + 6 * j + i)) ∧ τ (56 + 6 * j + i) < 256) (hd : x - a ≤ 6) (h16 : M 16 0 = nI (x - a)) (h15 : ∀ i, i < x - a → M 15 i = nI (t (a + i))) (ht : ∀ i, i < x - a → t (a + i) < 256) : Ok (f_X12_named__spare M) (fun r => (∃ j, j < c ∧ r = nI j ∧ MtP τ t a (x - a) j ∧ ∀ y, y < j → ¬ MtP τ t a (x - a) y) ∨ (r = -nI 1 ∧ ∀ y, y < c → ¬ MtP τ t a (x - a) y)) := by
  have hin : ∀ (j : Nat), j < c → ∀ B : Int32 → Int32 → Option ((Int32 × Int32) ⊕ Int32), (∀ k59 k60, B k59 k60 = (
    if (6 : Int32) ≤ k60 then (
    some (.inr k59)
    ) else (
    if k59 = 0 then (
    some (.inr k59)
    ) else (
    gi (((56 : Int32) + ((6 : Int32) * nI j)) + k60) 835 <|
    nx (fun (j69 : Int32) => (
    if M 3 (Int32.toNatClampNeg (((56 : Int32) + ((6 : Int32) * nI j)) + k60)) = j69 then (
    nx (k60 + (1 : Int32)) fun x72 =>
    some (.inl ((1 : Int32), x72))
    ) else (
    nx (k60 + (1 : Int32)) fun x71 =>
    some (.inl ((0 : Int32), x71))
    )
    )) fun K70 =>
    if M 16 0 ≤ k60 then (
    K70 (0 : Int32)
    ) else (
    gi k60 6 <|
    K70 (M 15 (Int32.toNatClampNeg k60))
    )
    )
    ))) → Ok (zl2 B FU (nI 1) (nI 0)) (fun r => (MtP τ t a (x - a) j ∧ r = nI 1) ∨ (¬ MtP τ t a (x - a) j ∧ r = nI 0)) := by
    intro j hj B hB
    refine ok_zl2 (fun i f kk => kk = nI i ∧ ((f = nI 1 ∧ ∀ y, y < i → τ (56 + 6 * j + y) = wlN t a (x - a) y) ∨ (f = nI 0 ∧ ¬ MtP τ t a (x - a) j))) 6 (fun i f kk hi hI => ?_) (fu_lt (by decide)) ⟨rfl, Or.inl ⟨rfl, fun y hy => absurd hy (Nat.not_lt_zero _)⟩⟩
    obtain ⟨rfl, h⟩ := hI
    rw [hB]
    by_cases qi : i = 6
    · subst qi
      simp (maxSteps := 3000000) (disch := omega) only [↓nx_q, zb0_s, zb1_s, zb2_s, zb3_s, zb4_s, zb5_s, zb6_s, zb7_s, zb8_s, zb9_s, zb10_s, zb11_s, zb12_s, zb13_s, zb14_s, q_lit, nI_add, pk_mul, e_cl, gi_in, gz_n0, gz_n1, e_gz, si_eq, si_ne, sa_eq, sa_ne, if_true, if_false, ↓reduceIte, k_ltT, k_ltF, k_leT, k_leF, k_eqT, k_eqF, k_m1lt, k_nm1, not_true_eq_false, not_false_eq_true]
      rcases h with ⟨rfl, h⟩ | ⟨rfl, h⟩
      · exact ⟨_, rfl, Or.inl ⟨h, rfl⟩⟩
      · exact ⟨_, rfl, Or.inr ⟨h, rfl⟩⟩
    · rcases h with ⟨rfl, h⟩ | ⟨rfl, h⟩
      · obtain ⟨r1, r2⟩ := hr j hj i (by omega)
        have nxt : τ (56 + 6 * j + i) = wlN t a (x - a) i → ∀ y, y < i + 1 → τ (56 + 6 * j + y) = wlN t a (x - a) y := fun e y hy => by
          by_cases z : y = i
          · subst z; exact e
          · exact h y (by omega)
        by_cases q : i < x - a
        · have l := h15 i q
          have l2 := ht i q
          have w := wl_in (t := t) (a := a) q
          by_cases e : τ (56 + 6 * j + i) = t (a + i)
          · simp (maxSteps := 3000000) (disch := omega) only [↓nx_q, zb0_s, zb1_s, zb2_s, zb3_s, zb4_s, zb5_s, zb6_s, zb7_s, zb8_s, zb9_s, zb10_s, zb11_s, zb12_s, zb13_s, zb14_s, q_lit, nI_add, pk_mul, e_cl, gi_in, gz_n0, gz_n1, e_gz, si_eq, si_ne, sa_eq, sa_ne, if_true, if_false, ↓reduceIte, k_ltT, k_ltF, k_leT, k_leF, k_eqT, k_eqF, k_m1lt, k_nm1, not_true_eq_false, not_false_eq_true, r1, h16, l]
            exact ⟨_, rfl, by omega, rfl, Or.inl ⟨rfl, nxt (by rw [w]; exact e)⟩⟩
          · simp (maxSteps := 3000000) (disch := omega) only [↓nx_q, zb0_s, zb1_s, zb2_s, zb3_s, zb4_s, zb5_s, zb6_s, zb7_s, zb8_s, zb9_s, zb10_s, zb11_s, zb12_s, zb13_s, zb14_s, q_lit, nI_add, pk_mul, e_cl, gi_in, gz_n0, gz_n1, e_gz, si_eq, si_ne, sa_eq, sa_ne, if_true, if_false, ↓reduceIte, k_ltT, k_ltF, k_leT, k_leF, k_eqT, k_eqF, k_m1lt, k_nm1, not_true_eq_false, not_false_eq_true, r1, h16, l]
            exact ⟨_, rfl, by omega, rfl, Or.inr ⟨rfl, fun z => e (by rw [← w]; exact z i (by omega))⟩⟩
        · have w := wl_out (t := t) (a := a) q
          by_cases e : τ (56 + 6 * j + i) = 0
          · simp (maxSteps := 3000000) (disch := omega) only [↓nx_q, zb0_s, zb1_s, zb2_s, zb3_s, zb4_s, zb5_s, zb6_s, zb7_s, zb8_s, zb9_s, zb10_s, zb11_s, zb12_s, zb13_s, zb14_s, q_lit, nI_add, pk_mul, e_cl, gi_in, gz_n0, gz_n1, e_gz, si_eq, si_ne, sa_eq, sa_ne, if_true, if_false, ↓reduceIte, k_ltT, k_ltF, k_leT, k_leF, k_eqT, k_eqF, k_m1lt, k_nm1, not_true_eq_false, not_false_eq_true, r1, h16]
            exact ⟨_, rfl, by omega, rfl, Or.inl ⟨rfl, nxt (by rw [w]; exact e)⟩⟩
          · simp (maxSteps := 3000000) (disch := omega) only [↓nx_q, zb0_s, zb1_s, zb2_s, zb3_s, zb4_s, zb5_s, zb6_s, zb7_s, zb8_s, zb9_s, zb10_s, zb11_s, zb12_s, zb13_s, zb14_s, q_lit, nI_add, pk_mul, e_cl, gi_in, gz_n0, gz_n1, e_gz, si_eq, si_ne, sa_eq, sa_ne, if_true, if_false, ↓reduceIte, k_ltT, k_ltF, k_leT, k_leF, k_eqT, k_eqF, k_m1lt, k_nm1, not_true_eq_false, not_false_eq_true, r1, h16]
            exact ⟨_, rfl, by omega, rfl, Or.inr ⟨rfl, fun z => e (by rw [← w]; exact z i (by omega))⟩⟩
      · simp (maxSteps := 3000000) (disch := omega) only [↓nx_q, zb0_s, zb1_s, zb2_s, zb3_s, zb4_s, zb5_s, zb6_s, zb7_s, zb8_s, zb9_s, zb10_s, zb11_s, zb12_s, zb13_s, zb14_s, q_lit, nI_add, pk_mul, e_cl, gi_in, gz_n0, gz_n1, e_gz, si_eq, si_ne, sa_eq, sa_ne, if_true, if_false, ↓reduceIte, k_ltT, k_ltF, k_leT, k_leF, k_eqT, k_eqF, k_m1lt, k_nm1, not_true_eq_false, not_false_eq_true]
        exact ⟨_, rfl, Or.inr ⟨h, rfl⟩⟩
  unfold f_X12_named__spare
  rw [ok_ze0]
  refine ok_mono (ok_zl1 (Q := fun y => (y = .inl () ∧ ∀ y, y < c → ¬ MtP τ t a (x - a) y) ∨ (∃ j, j < c ∧ y = .inr (nI j) ∧ MtP τ t a (x - a) j ∧ ∀ y, y < j → ¬ MtP τ t a (x - a) y)) (fun i kk => kk = nI i ∧ ∀ y, y < i → ¬ MtP τ t a (x - a) y) c (fun i kk hi hI => ?_) (fu_lt (by omega)) ⟨rfl, fun y hy => absurd hy (Nat.not_lt_zero _)⟩) (fun y hy => ?_)
  · obtain ⟨rfl, h⟩ := hI
    by_cases qi : i = c
    · simp (maxSteps := 3000000) (disch := omega) only [↓nx_q, zb0_s, zb1_s, zb2_s, zb3_s, zb4_s, zb5_s, zb6_s, zb7_s, zb8_s, zb9_s, zb10_s, zb11_s, zb12_s, zb13_s, zb14_s, q_lit, nI_add, pk_mul, e_cl, gi_in, gz_n0, gz_n1, e_gz, si_eq, si_ne, sa_eq, sa_ne, if_true, if_false, ↓reduceIte, k_ltT, k_ltF, k_leT, k_leF, k_eqT, k_eqF, k_m1lt, k_nm1, not_true_eq_false, not_false_eq_true, h2]
      subst qi
      exact ⟨_, rfl, Or.inl ⟨rfl, h⟩⟩
    · simp (maxSteps := 3000000) (disch := omega) only [↓nx_q, zb0_s, zb1_s, zb2_s, zb3_s, zb4_s, zb5_s, zb6_s, zb7_s, zb8_s, zb9_s, zb10_s, zb11_s, zb12_s, zb13_s, zb14_s, q_lit, nI_add, pk_mul, e_cl, gi_in, gz_n0, gz_n1, e_gz, si_eq, si_ne, sa_eq, sa_ne, if_true, if_false, ↓reduceIte, k_ltT, k_ltF, k_leT, k_leF, k_eqT, k_eqF, k_m1lt, k_nm1, not_true_eq_false, not_false_eq_true, h2]
      rw [ok_zb1]
      refine ok_mono (hin i (by omega) _ (fun f g => by simp (maxSteps := 3000000) (disch := omega) only [↓nx_q, zb0_s, zb1_s, zb2_s, zb3_s, zb4_s, zb5_s, zb6_s, zb7_s, zb8_s, zb9_s, zb10_s, zb11_s, zb12_s, zb13_s, zb14_s, q_lit, nI_add, pk_mul, e_cl, gi_in, gz_n0, gz_n1, e_gz, si_eq, si_ne, sa_eq, sa_ne, if_true, if_false, ↓reduceIte, k_ltT, k_ltF, k_leT, k_leF, k_eqT, k_eqF, k_m1lt, k_nm1, not_true_eq_false, not_false_eq_true])) (fun r hr => ?_)
      rcases hr with ⟨q, rfl⟩ | ⟨q, rfl⟩
      · simp (maxSteps := 3000000) (disch := omega) only [↓nx_q, zb0_s, zb1_s, zb2_s, zb3_s, zb4_s, zb5_s, zb6_s, zb7_s, zb8_s, zb9_s, zb10_s, zb11_s, zb12_s, zb13_s, zb14_s, q_lit, nI_add, pk_mul, e_cl, gi_in, gz_n0, gz_n1, e_gz, si_eq, si_ne, sa_eq, sa_ne, if_true, if_false, ↓reduceIte, k_ltT, k_ltF, k_leT, k_leF, k_eqT, k_eqF, k_m1lt, k_nm1, not_true_eq_false, not_false_eq_true]
        exact ⟨_, rfl, Or.inr ⟨i, by omega, rfl, q, h⟩⟩
      · simp (maxSteps := 3000000) (disch := omega) only [↓nx_q, zb0_s, zb1_s, zb2_s, zb3_s, zb4_s, zb5_s, zb6_s, zb7_s, zb8_s, zb9_s, zb10_s, zb11_s, zb12_s, zb13_s, zb14_s, q_lit, nI_add, pk_mul, e_cl, gi_in, gz_n0, gz_n1, e_gz, si_eq, si_ne, sa_eq, sa_ne, if_true, if_false, ↓reduceIte, k_ltT, k_ltF, k_leT, k_leF, k_eqT, k_eqF, k_m1lt, k_nm1, not_true_eq_false, not_false_eq_true]
        refine ⟨_, rfl, by omega, rfl, fun y hy => ?_⟩
        by_cases z : y = i
        · subst z; exact q
        · exact h y (by omega)
  · rcases hy with ⟨rfl, h⟩ | ⟨j, hj, rfl, h⟩
    · exact ⟨_, rfl, Or.inr ⟨rfl, h⟩⟩
    · exact ⟨_, rfl, Or.inl ⟨j, hj, rfl, h⟩⟩
