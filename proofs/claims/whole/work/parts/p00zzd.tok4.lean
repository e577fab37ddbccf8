theorem nm_1 (t : Nat → Nat) (a : Nat) : nmT t a 1 = t a - 48 := by
  show 0 * 10 + t (a + 0) - 48 = _
  rw [Nat.zero_mul, Nat.zero_add, Nat.add_zero]
theorem m_next {M : Ob} {t : Nat → Nat} {n p a x k : Nat} (hT : TpM M t n) (h9 : M 9 0 = nI p) (hK : Tok t n p a x k) : Ok (f_X12_next M) (fun M' => (∀ j, j ≠ 9 → j ≠ 10 → j ≠ 11 → j ≠ 12 → j ≠ 15 → j ≠ 16 → M' j = M j) ∧ TkM M' t a x k) := by
  obtain ⟨hS, hK⟩ := hK
  have hn := hT.2.1
  have s2 := hS.2.1
  unfold f_X12_next
  generalize hB2 : ((fun (o94 : Ob) (k95 : Int32) => (
  zb1 (f_X12_peek o94) fun (r114 : Int32) =>
  zb1 (f_X12_isSmall r114) fun (r116 : Int32) =>
  nx (fun (_ : Unit) => (
  nx ((o94 9 0) - (o94 10 0)) fun x125 =>
  nx (fun (q131 : Ob) => (
  zb1 (f_X12_peek q131) fun (r133 : Int32) =>
  zb1 (f_X12_isSmall r133) fun (r135 : Int32) =>
  nx (fun (j138 : Int32) => (
  nx (k95 + j138) fun x140 =>
  nx (fun (j144 : Int32) => (
  nx (si q131 12 j144) fun o146 =>
  nx (si o146 9 ((o146 9 0) + (1 : Int32))) fun o147 =>
  some (.inl (o147, x140))
  )) fun K145 =>
  if (2 : Int32) ≤ x125 then (
  K145 (q131 12 0)
  ) else (
  zb1 (f_X12_peek q131) fun (r148 : Int32) =>
  K145 ((((10 : Int32) * (q131 12 0)) + r148) - (48 : Int32))
  )
  )) fun K139 =>
  if r135 = 0 then (
  K139 (0 : Int32)
  ) else (
  K139 (1 : Int32)
  )
  )) fun K132 =>
  if (6 : Int32) ≤ x125 then (
  K132 o94
  ) else (
  zb1 (f_X12_peek o94) fun (r152 : Int32) =>
  gi x125 6 <|
  nx (sa o94 15 (upd (o94 15) (Int32.toNatClampNeg x125) (vp_nar .byte ((Int32.toInt8 r152).toInt32)))) fun o155 =>
  K132 o155
  )
  )) fun K124 =>
  if r116 = 0 then (
  zb1 (f_X12_peek o94) fun (r157 : Int32) =>
  zb1 (f_X12_isDigit r157) fun (r159 : Int32) =>
  if r159 = 0 then (
  some (.inr (o94, k95))
  ) else (
  K124 ()
  )
  ) else (
  K124 ()
  )
  )) : Ob → Int32 → Option ((Ob × Int32) ⊕ (Ob × Int32))) = B2
  generalize hC2 : (fun (o96 : Ob) (k97 : Int32) =>
  nx ((o96 9 0) - (o96 10 0)) fun x98 =>
  nx (si o96 16 x98) fun o99 =>
  nx (fun (_ : Unit) => (
  if k97 = 0 then (
  if (3 : Int32) ≤ x98 then (
  nx (si o99 11 (4 : Int32)) fun o105 =>
  some o105
  ) else (
  nx (si o99 11 (2 : Int32)) fun o106 =>
  some o106
  )
  ) else (
  nx (si o99 11 (4 : Int32)) fun o104 =>
  some o104
  )
  )) fun K103 =>
  if k97 = x98 then (
  if (7 : Int32) ≤ x98 then (
  K103 ()
  ) else (
  nx (si o99 11 (1 : Int32)) fun o109 =>
  some o109
  )
  ) else (
  K103 ()
  )) = C2
  rw [ok_zb1]
  refine ok_mono (m_skip hT h9 hS (fun o6 => rfl)) (fun o1 h1 => ?_)
  obtain ⟨fr, f9⟩ := h1
  have hT1 : TpM (si o1 10 (nI a)) t n := TpM_fr hT (by simp (disch := omega) only [si_eq, si_ne, sa_eq, sa_ne, upd_eq, upd_ne, updN_eq, updN_ne]; exact fr 6 (by decide)) (by simp (disch := omega) only [si_eq, si_ne, sa_eq, sa_ne, upd_eq, upd_ne, updN_eq, updN_ne]; exact fr 8 (by decide))
  have g9 : si o1 10 (nI a) 9 0 = nI a := by simp (disch := omega) only [si_eq, si_ne, sa_eq, sa_ne, upd_eq, upd_ne, updN_eq, updN_ne]; exact f9
  have pk := m_peek hT1 g9
  rw [← f9] at pk
  rcases hK with ⟨q, rfl, rfl⟩ | ⟨q, hr, rfl, hk⟩ | ⟨q, hr, hx, rfl⟩
  · have pk := pk.2 q
    have zpk : ∀ {β : Type} {f : Int32 → Option β}, zb1 (f_X12_peek (si o1 10 (o1 9 0))) f = f (-nI 1) := fun {_ _} => zb1_of pk
    simp (maxSteps := 3000000) (disch := omega) only [↓zpk, ↓nx_q, zb0_s, zb1_s, zb2_s, zb3_s, zb4_s, zb5_s, zb6_s, zb7_s, zb8_s, zb9_s, zb10_s, zb11_s, zb12_s, zb13_s, zb14_s, q_lit, nI_add, pk_mul, e_cl, gi_in, gz_n0, gz_n1, e_gz, si_eq, si_ne, sa_eq, sa_ne, if_true, if_false, ↓reduceIte, k_ltT, k_ltF, k_leT, k_leF, k_eqT, k_eqF, k_m1lt, k_nm1, not_true_eq_false, not_false_eq_true, f9]
    refine ⟨_, rfl, fun j a b c d e f => ?_, ?_, ?_, ?_, fun e => absurd e (by decide), fun e => absurd e (by decide), fun e => absurd e (by decide)⟩
    · simp (disch := omega) only [si_eq, si_ne, sa_eq, sa_ne, upd_eq, upd_ne, updN_eq, updN_ne]; exact fr j (by omega)
    · simp (disch := omega) only [si_eq, si_ne, sa_eq, sa_ne, upd_eq, upd_ne, updN_eq, updN_ne]
    · simp (disch := omega) only [si_eq, si_ne, sa_eq, sa_ne, upd_eq, upd_ne, updN_eq, updN_ne]; exact f9
    · simp (disch := omega) only [si_eq, si_ne, sa_eq, sa_ne, upd_eq, upd_ne, updN_eq, updN_ne]; rfl
  · have pk := pk.1 q
    have zpk : ∀ {β : Type} {f : Int32 → Option β}, zb1 (f_X12_peek (si o1 10 (o1 9 0))) f = f (nI (t a)) := fun {_ _} => zb1_of pk
    obtain ⟨c1, c2⟩ := hT.2.2 a q
    have hsm := (m_sm c1).2 (fun h => hr (Or.inl h))
    have hdg := (m_dg c1).2 (fun h => hr (Or.inr h))
    have zsm : ∀ {β : Type} {f : Int32 → Option β}, zb1 (f_X12_isSmall (nI (t a))) f = f (nI 0) := fun {_ _} => zb1_of hsm
    have zdg : ∀ {β : Type} {f : Int32 → Option β}, zb1 (f_X12_isDigit (nI (t a))) f = f (nI 0) := fun {_ _} => zb1_of hdg
    rcases hk with ⟨hs, rfl⟩ | ⟨hs, rfl⟩
    · have fin : ∃ y, (some (si (si (si (si o1 10 (nI a)) 12 (nI (t a))) 9 (nI (a + 1))) 11 (nI 3)) : Option Ob) = some y ∧ (∀ j, j ≠ 9 → j ≠ 10 → j ≠ 11 → j ≠ 12 → j ≠ 15 → j ≠ 16 → y j = M j) ∧ TkM y t a (a + 1) (t a) := by
        refine ⟨_, rfl, fun j a b c d e f => ?_, ?_, ?_, ?_, fun e => absurd e (by omega), fun e => absurd e (by omega), fun e => ?_⟩
        · simp (disch := omega) only [si_eq, si_ne, sa_eq, sa_ne, upd_eq, upd_ne, updN_eq, updN_ne]; exact fr j (by omega)
        · simp (disch := omega) only [si_eq, si_ne, sa_eq, sa_ne, upd_eq, upd_ne, updN_eq, updN_ne]
        · simp (disch := omega) only [si_eq, si_ne, sa_eq, sa_ne, upd_eq, upd_ne, updN_eq, updN_ne]
        · simp (disch := omega) only [si_eq, si_ne, sa_eq, sa_ne, upd_eq, upd_ne, updN_eq, updN_ne]
          refine congrArg nI ?_
          unfold kM
          rw [if_neg (by omega), if_neg (by omega), if_neg (by omega), if_neg (by omega)]
        · simp (disch := omega) only [si_eq, si_ne, sa_eq, sa_ne, upd_eq, upd_ne, updN_eq, updN_ne]
      rcases hs with h | h | h
      · simp (maxSteps := 3000000) (disch := omega) only [↓zpk, ↓zsm, ↓zdg, ↓nx_q, zb0_s, zb1_s, zb2_s, zb3_s, zb4_s, zb5_s, zb6_s, zb7_s, zb8_s, zb9_s, zb10_s, zb11_s, zb12_s, zb13_s, zb14_s, q_lit, nI_add, pk_mul, e_cl, gi_in, gz_n0, gz_n1, e_gz, si_eq, si_ne, sa_eq, sa_ne, if_true, if_false, ↓reduceIte, k_ltT, k_ltF, k_leT, k_leF, k_eqT, k_eqF, k_m1lt, k_nm1, not_true_eq_false, not_false_eq_true, f9, k_nm1, k_eqT h]
        exact fin
      · have h1 : t a ≠ 59 := by omega
        simp (maxSteps := 3000000) (disch := omega) only [↓zpk, ↓zsm, ↓zdg, ↓nx_q, zb0_s, zb1_s, zb2_s, zb3_s, zb4_s, zb5_s, zb6_s, zb7_s, zb8_s, zb9_s, zb10_s, zb11_s, zb12_s, zb13_s, zb14_s, q_lit, nI_add, pk_mul, e_cl, gi_in, gz_n0, gz_n1, e_gz, si_eq, si_ne, sa_eq, sa_ne, if_true, if_false, ↓reduceIte, k_ltT, k_ltF, k_leT, k_leF, k_eqT, k_eqF, k_m1lt, k_nm1, not_true_eq_false, not_false_eq_true, f9, k_nm1]
        exact fin
      · simp (maxSteps := 3000000) (disch := omega) only [↓zpk, ↓zsm, ↓zdg, ↓nx_q, zb0_s, zb1_s, zb2_s, zb3_s, zb4_s, zb5_s, zb6_s, zb7_s, zb8_s, zb9_s, zb10_s, zb11_s, zb12_s, zb13_s, zb14_s, q_lit, nI_add, pk_mul, e_cl, gi_in, gz_n0, gz_n1, e_gz, si_eq, si_ne, sa_eq, sa_ne, if_true, if_false, ↓reduceIte, k_ltT, k_ltF, k_leT, k_leF, k_eqT, k_eqF, k_m1lt, k_nm1, not_true_eq_false, not_false_eq_true, f9, k_nm1]
        exact fin
    · simp (maxSteps := 3000000) (disch := omega) only [↓zpk, ↓zsm, ↓zdg, ↓nx_q, zb0_s, zb1_s, zb2_s, zb3_s, zb4_s, zb5_s, zb6_s, zb7_s, zb8_s, zb9_s, zb10_s, zb11_s, zb12_s, zb13_s, zb14_s, q_lit, nI_add, pk_mul, e_cl, gi_in, gz_n0, gz_n1, e_gz, si_eq, si_ne, sa_eq, sa_ne, if_true, if_false, ↓reduceIte, k_ltT, k_ltF, k_leT, k_leF, k_eqT, k_eqF, k_m1lt, k_nm1, not_true_eq_false, not_false_eq_true, f9, k_nm1]
      refine ⟨_, rfl, fun j a b c d e f => ?_, ?_, ?_, ?_, fun e => absurd e (by decide), fun e => absurd e (by decide), fun e => absurd e (by decide)⟩
      · simp (disch := omega) only [si_eq, si_ne, sa_eq, sa_ne, upd_eq, upd_ne, updN_eq, updN_ne]; exact fr j (by omega)
      · simp (disch := omega) only [si_eq, si_ne, sa_eq, sa_ne, upd_eq, upd_ne, updN_eq, updN_ne]
      · simp (disch := omega) only [si_eq, si_ne, sa_eq, sa_ne, upd_eq, upd_ne, updN_eq, updN_ne]
      · simp (disch := omega) only [si_eq, si_ne, sa_eq, sa_ne, upd_eq, upd_ne, updN_eq, updN_ne]; rfl
  · have pk := pk.1 q
    have zpk : ∀ {β : Type} {f : Int32 → Option β}, zb1 (f_X12_peek (si o1 10 (o1 9 0))) f = f (nI (t a)) := fun {_ _} => zb1_of pk
    obtain ⟨c1, c2⟩ := hT.2.2 a q
    have hxa : a < x := by
      refine Classical.byContradiction fun y => ?_
      have : x = a := by have := hx.1; omega
      subst this
      exact hx.2.2.2 q hr
    have hx2 := hx.2.1
    have c128 : t a < 128 := by
      rcases hr with h | h
      · have := h.2; omega
      · have := h.2; omega
    have enar := by_nar ⟨t a, c128⟩
    dsimp only at enar
    have fin : ∀ (M0 : Ob) (k0 : Int32) (B : Ob → Int32 → Option ((Ob × Int32) ⊕ (Ob × Int32))), (∀ j, j ≠ 9 → j ≠ 10 → j ≠ 11 → j ≠ 12 → j ≠ 15 → j ≠ 16 → M0 j = M j) → Ok (zl2 B FU M0 k0) (fun r => (∀ j, j ≠ 9 → j ≠ 12 → j ≠ 15 → r.1 j = M0 j) ∧ r.1 9 0 = nI x ∧ r.2 = nI (nlN t a (x - a)) ∧ (∀ y, y < x - a → y < 6 → r.1 15 y = nI (t (a + y))) ∧ (nlN t a (x - a) = 0 → x - a ≤ 2 → r.1 12 0 = nI (nmT t a (x - a)))) → M0 10 0 = nI a → ∀ C : Ob → Int32 → Option Ob, (∀ o96 k97, C o96 k97 = (
      nx ((o96 9 0) - (o96 10 0)) fun x98 =>
      nx (si o96 16 x98) fun o99 =>
      nx (fun (_ : Unit) => (
      if k97 = 0 then (
      if (3 : Int32) ≤ x98 then (
      nx (si o99 11 (4 : Int32)) fun o105 =>
      some o105
      ) else (
      nx (si o99 11 (2 : Int32)) fun o106 =>
      some o106
      )
      ) else (
      nx (si o99 11 (4 : Int32)) fun o104 =>
      some o104
      )
      )) fun K103 =>
      if k97 = x98 then (
      if (7 : Int32) ≤ x98 then (
      K103 ()
      ) else (
      nx (si o99 11 (1 : Int32)) fun o109 =>
      some o109
      )
      ) else (
      K103 ()
      ))) → Ok (zb2 (zl2 B FU M0 k0) C) (fun M' => (∀ j, j ≠ 9 → j ≠ 10 → j ≠ 11 → j ≠ 12 → j ≠ 15 → j ≠ 16 → M' j = M j) ∧ TkM M' t a x (kdN t a x)) := by
      intro M0 k0 B f0 hL h10 C hC
      rw [ok_zb2]
      refine ok_mono hL (fun r hr => ?_)
      obtain ⟨r1, r2⟩ := r
      obtain ⟨u1, u2, u3, u4, u5⟩ := hr
      dsimp only at u1 u2 u3 u4 u5 ⊢
      subst u3
      rw [hC]
      have u10 : r1 10 0 = nI a := by rw [u1 10 (by decide) (by decide) (by decide)]; exact h10
      have hnl := nl_le t a (x - a)
      have out : ∀ k, k = kdN t a x → (k = 2 → x - a ≤ 6) → (k = 3 → nlN t a (x - a) = 0 ∧ x - a ≤ 2) → k ≤ 3 → Ok (some (si (si r1 16 (nI (x - a))) 11 (nI (kM k)))) (fun M' => (∀ j, j ≠ 9 → j ≠ 10 → j ≠ 11 → j ≠ 12 → j ≠ 15 → j ≠ 16 → M' j = M j) ∧ TkM M' t a x (kdN t a x)) := by
        intro k hk h2 h3 h4
        subst hk
        refine ⟨_, rfl, fun j a b c d e f => ?_, ?_, ?_, ?_, fun e => ⟨?_, fun i hi => ?_⟩, fun e => ?_, fun e => by omega⟩
        · simp (disch := omega) only [si_eq, si_ne, sa_eq, sa_ne, upd_eq, upd_ne, updN_eq, updN_ne]; rw [u1 j a d e]; exact f0 j a b c d e f
        · simp (disch := omega) only [si_eq, si_ne, sa_eq, sa_ne, upd_eq, upd_ne, updN_eq, updN_ne]; exact u10
        · simp (disch := omega) only [si_eq, si_ne, sa_eq, sa_ne, upd_eq, upd_ne, updN_eq, updN_ne]; exact u2
        · simp (disch := omega) only [si_eq, si_ne, sa_eq, sa_ne, upd_eq, upd_ne, updN_eq, updN_ne]
        · simp (disch := omega) only [si_eq, si_ne, sa_eq, sa_ne, upd_eq, upd_ne, updN_eq, updN_ne]
        · simp (disch := omega) only [si_eq, si_ne, sa_eq, sa_ne, upd_eq, upd_ne, updN_eq, updN_ne]
          have := h2 e
          exact u4 i hi (by omega)
        · simp (disch := omega) only [si_eq, si_ne, sa_eq, sa_ne, upd_eq, upd_ne, updN_eq, updN_ne]
          exact u5 (h3 e).1 (h3 e).2
      by_cases q : nlN t a (x - a) = x - a
      · by_cases q6 : x - a ≤ 6
        · have := out 2 (by unfold kdN; rw [if_pos q, if_pos q6]) (fun _ => q6) (fun e => by omega) (by omega)
          simp (maxSteps := 3000000) (disch := omega) only [↓nx_q, zb0_s, zb1_s, zb2_s, zb3_s, zb4_s, zb5_s, zb6_s, zb7_s, zb8_s, zb9_s, zb10_s, zb11_s, zb12_s, zb13_s, zb14_s, q_lit, nI_add, pk_mul, e_cl, gi_in, gz_n0, gz_n1, e_gz, si_eq, si_ne, sa_eq, sa_ne, if_true, if_false, ↓reduceIte, k_ltT, k_ltF, k_leT, k_leF, k_eqT, k_eqF, k_m1lt, k_nm1, not_true_eq_false, not_false_eq_true, u2, u10, e_sub]
          exact this
        · have := out 0 (by unfold kdN; rw [if_pos q, if_neg q6]) (fun e => by omega) (fun e => by omega) (by omega)
          simp (maxSteps := 3000000) (disch := omega) only [↓nx_q, zb0_s, zb1_s, zb2_s, zb3_s, zb4_s, zb5_s, zb6_s, zb7_s, zb8_s, zb9_s, zb10_s, zb11_s, zb12_s, zb13_s, zb14_s, q_lit, nI_add, pk_mul, e_cl, gi_in, gz_n0, gz_n1, e_gz, si_eq, si_ne, sa_eq, sa_ne, if_true, if_false, ↓reduceIte, k_ltT, k_ltF, k_leT, k_leF, k_eqT, k_eqF, k_m1lt, k_nm1, not_true_eq_false, not_false_eq_true, u2, u10, e_sub]
          exact this
      · by_cases q0 : nlN t a (x - a) = 0
        · by_cases q2 : x - a ≤ 2
          · have := out 3 (by unfold kdN; rw [if_neg q, if_pos q0, if_pos q2]) (fun e => by omega) (fun e => ⟨q0, q2⟩) (by omega)
            simp (maxSteps := 3000000) (disch := omega) only [↓nx_q, zb0_s, zb1_s, zb2_s, zb3_s, zb4_s, zb5_s, zb6_s, zb7_s, zb8_s, zb9_s, zb10_s, zb11_s, zb12_s, zb13_s, zb14_s, q_lit, nI_add, pk_mul, e_cl, gi_in, gz_n0, gz_n1, e_gz, si_eq, si_ne, sa_eq, sa_ne, if_true, if_false, ↓reduceIte, k_ltT, k_ltF, k_leT, k_leF, k_eqT, k_eqF, k_m1lt, k_nm1, not_true_eq_false, not_false_eq_true, u2, u10, e_sub]
            exact this
          · have := out 0 (by unfold kdN; rw [if_neg q, if_pos q0, if_neg q2]) (fun e => by omega) (fun e => by omega) (by omega)
            simp (maxSteps := 3000000) (disch := omega) only [↓nx_q, zb0_s, zb1_s, zb2_s, zb3_s, zb4_s, zb5_s, zb6_s, zb7_s, zb8_s, zb9_s, zb10_s, zb11_s, zb12_s, zb13_s, zb14_s, q_lit, nI_add, pk_mul, e_cl, gi_in, gz_n0, gz_n1, e_gz, si_eq, si_ne, sa_eq, sa_ne, if_true, if_false, ↓reduceIte, k_ltT, k_ltF, k_leT, k_leF, k_eqT, k_eqF, k_m1lt, k_nm1, not_true_eq_false, not_false_eq_true, u2, u10, e_sub]
            exact this
        · have := out 0 (by unfold kdN; rw [if_neg q, if_neg q0]) (fun e => by omega) (fun e => by omega) (by omega)
          simp (maxSteps := 3000000) (disch := omega) only [↓nx_q, zb0_s, zb1_s, zb2_s, zb3_s, zb4_s, zb5_s, zb6_s, zb7_s, zb8_s, zb9_s, zb10_s, zb11_s, zb12_s, zb13_s, zb14_s, q_lit, nI_add, pk_mul, e_cl, gi_in, gz_n0, gz_n1, e_gz, si_eq, si_ne, sa_eq, sa_ne, if_true, if_false, ↓reduceIte, k_ltT, k_ltF, k_leT, k_leF, k_eqT, k_eqF, k_m1lt, k_nm1, not_true_eq_false, not_false_eq_true, u2, u10, e_sub]
          exact this
    by_cases b : smC (t a)
    · have hsm := (m_sm c1).1 b
      have hdg := (m_dg c1).2 (fun h => by have := h.2; have := b.1; omega)
      have en : nlN t a 1 = 1 := nl_s (a := a) (i := 0) b
      have zsm : ∀ {β : Type} {f : Int32 → Option β}, zb1 (f_X12_isSmall (nI (t a))) f = f (nI 1) := fun {_ _} => zb1_of hsm
      have zdg : ∀ {β : Type} {f : Int32 → Option β}, zb1 (f_X12_isDigit (nI (t a))) f = f (nI 0) := fun {_ _} => zb1_of hdg
      simp (maxSteps := 3000000) (disch := omega) only [↓zpk, ↓zsm, ↓zdg, ↓nx_q, zb0_s, zb1_s, zb2_s, zb3_s, zb4_s, zb5_s, zb6_s, zb7_s, zb8_s, zb9_s, zb10_s, zb11_s, zb12_s, zb13_s, zb14_s, q_lit, nI_add, pk_mul, e_cl, gi_in, gz_n0, gz_n1, e_gz, si_eq, si_ne, sa_eq, sa_ne, if_true, if_false, ↓reduceIte, k_ltT, k_ltF, k_leT, k_leF, k_eqT, k_eqF, k_m1lt, k_nm1, not_true_eq_false, not_false_eq_true, f9, k_nm1, enar]
      refine fin _ _ _ (fun j a b c d e f => ?_) (m_run (n := n) (TpM_fr hT ?_ ?_) hx hxa ?_ ?_ ?_ ?_ ?_ (fun o k => by rw [← hB2])) ?_ _ (fun o k => by rw [← hC2])
      · simp (disch := omega) only [si_eq, si_ne, sa_eq, sa_ne, upd_eq, upd_ne, updN_eq, updN_ne]; exact fr j (by omega)
      · simp (disch := omega) only [si_eq, si_ne, sa_eq, sa_ne, upd_eq, upd_ne, updN_eq, updN_ne]; exact fr 6 (by decide)
      · simp (disch := omega) only [si_eq, si_ne, sa_eq, sa_ne, upd_eq, upd_ne, updN_eq, updN_ne]; exact fr 8 (by decide)
      · simp (disch := omega) only [si_eq, si_ne, sa_eq, sa_ne, upd_eq, upd_ne, updN_eq, updN_ne]
      · simp (disch := omega) only [si_eq, si_ne, sa_eq, sa_ne, upd_eq, upd_ne, updN_eq, updN_ne]
      · rw [en]
      · simp (disch := omega) only [si_eq, si_ne, sa_eq, sa_ne, upd_eq, upd_ne, updN_eq, updN_ne]
      · intro h; rw [en] at h; omega
      · simp (disch := omega) only [si_eq, si_ne, sa_eq, sa_ne, upd_eq, upd_ne, updN_eq, updN_ne]
    · have bd : dgC (t a) := by
        rcases hr with h | h
        · exact absurd h b
        · exact h
      have hsm := (m_sm c1).2 b
      have hdg := (m_dg c1).1 bd
      have b1 := bd.1
      have en : nlN t a 1 = 0 := nl_n (a := a) (i := 0) b
      have zsm : ∀ {β : Type} {f : Int32 → Option β}, zb1 (f_X12_isSmall (nI (t a))) f = f (nI 0) := fun {_ _} => zb1_of hsm
      have zdg : ∀ {β : Type} {f : Int32 → Option β}, zb1 (f_X12_isDigit (nI (t a))) f = f (nI 1) := fun {_ _} => zb1_of hdg
      simp (maxSteps := 3000000) (disch := omega) only [↓zpk, ↓zsm, ↓zdg, ↓nx_q, zb0_s, zb1_s, zb2_s, zb3_s, zb4_s, zb5_s, zb6_s, zb7_s, zb8_s, zb9_s, zb10_s, zb11_s, zb12_s, zb13_s, zb14_s, q_lit, nI_add, pk_mul, e_cl, gi_in, gz_n0, gz_n1, e_gz, si_eq, si_ne, sa_eq, sa_ne, if_true, if_false, ↓reduceIte, k_ltT, k_ltF, k_leT, k_leF, k_eqT, k_eqF, k_m1lt, k_nm1, not_true_eq_false, not_false_eq_true, f9, k_nm1, enar, e_sub]
      refine fin _ _ _ (fun j a b c d e f => ?_) (m_run (n := n) (TpM_fr hT ?_ ?_) hx hxa ?_ ?_ ?_ ?_ ?_ (fun o k => by rw [← hB2])) ?_ _ (fun o k => by rw [← hC2])
      · simp (disch := omega) only [si_eq, si_ne, sa_eq, sa_ne, upd_eq, upd_ne, updN_eq, updN_ne]; exact fr j (by omega)
      · simp (disch := omega) only [si_eq, si_ne, sa_eq, sa_ne, upd_eq, upd_ne, updN_eq, updN_ne]; exact fr 6 (by decide)
      · simp (disch := omega) only [si_eq, si_ne, sa_eq, sa_ne, upd_eq, upd_ne, updN_eq, updN_ne]; exact fr 8 (by decide)
      · simp (disch := omega) only [si_eq, si_ne, sa_eq, sa_ne, upd_eq, upd_ne, updN_eq, updN_ne]
      · simp (disch := omega) only [si_eq, si_ne, sa_eq, sa_ne, upd_eq, upd_ne, updN_eq, updN_ne]
      · rw [en]
      · simp (disch := omega) only [si_eq, si_ne, sa_eq, sa_ne, upd_eq, upd_ne, updN_eq, updN_ne]
      · intro _
        simp (disch := omega) only [si_eq, si_ne, sa_eq, sa_ne, upd_eq, upd_ne, updN_eq, updN_ne]
        rw [nm_1]
      · simp (disch := omega) only [si_eq, si_ne, sa_eq, sa_ne, upd_eq, upd_ne, updN_eq, updN_ne]
