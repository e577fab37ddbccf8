def TpM (M : Ob) (t : Nat → Nat) (n : Nat) : Prop := M 8 0 = nI n ∧ n ≤ 400 ∧ ∀ i, i < n → t i < 256 ∧ M 6 i = (nI (t i)).toInt8.toInt32
theorem TpM_fr {M M' : Ob} {t : Nat → Nat} {n : Nat} (h : TpM M t n) (h6 : M' 6 = M 6) (h8 : M' 8 = M 8) : TpM M' t n := by
  unfold TpM
  rw [h6, h8]
  exact h
theorem by_all : ∀ c : Fin 256, (nI c.val).toInt8.toInt32 &&& nI 255 = nI c.val := by decide +kernel
theorem by_nar : ∀ c : Fin 128, vp_nar .byte ((nI c.val).toInt8.toInt32) = nI c.val := by decide +kernel
theorem m_peek {M : Ob} {t : Nat → Nat} {n p : Nat} (hT : TpM M t n) (h9 : M 9 0 = nI p) : (p < n → f_X12_peek M = some (nI (t p))) ∧ (p = n → f_X12_peek M = some (-nI 1)) := by
  have hn := hT.2.1
  unfold f_X12_peek
  refine ⟨fun h => ?_, fun h => ?_⟩
  · obtain ⟨c1, c2⟩ := hT.2.2 p h
    have e := by_all ⟨t p, c1⟩
    simp (maxSteps := 3000000) (disch := omega) only [↓nx_q, zb0_s, zb1_s, zb2_s, zb3_s, zb4_s, zb5_s, zb6_s, zb7_s, zb8_s, zb9_s, zb10_s, zb11_s, zb12_s, zb13_s, zb14_s, q_lit, nI_add, pk_mul, e_cl, gi_in, gz_n0, gz_n1, e_gz, si_eq, si_ne, sa_eq, sa_ne, if_true, if_false, ↓reduceIte, k_ltT, k_ltF, k_leT, k_leF, k_eqT, k_eqF, k_m1lt, k_nm1, not_true_eq_false, not_false_eq_true, hT.1, h9, c2, e]
  · simp (maxSteps := 3000000) (disch := omega) only [↓nx_q, zb0_s, zb1_s, zb2_s, zb3_s, zb4_s, zb5_s, zb6_s, zb7_s, zb8_s, zb9_s, zb10_s, zb11_s, zb12_s, zb13_s, zb14_s, q_lit, nI_add, pk_mul, e_cl, gi_in, gz_n0, gz_n1, e_gz, si_eq, si_ne, sa_eq, sa_ne, if_true, if_false, ↓reduceIte, k_ltT, k_ltF, k_leT, k_leF, k_eqT, k_eqF, k_m1lt, k_nm1, not_true_eq_false, not_false_eq_true, hT.1, h9]
theorem m_sm {c : Nat} (hc : c < 256) : (smC c → f_X12_isSmall (nI c) = some (nI 1)) ∧ (¬ smC c → f_X12_isSmall (nI c) = some (nI 0)) := by
  have e := m_isInN (a := 97) (b := 122) (k := c) (by omega) (by decide) (by decide)
  unfold f_X12_isSmall
  refine ⟨fun h => ?_, fun h => ?_⟩
  · rw [if_pos (show 97 ≤ c ∧ c ≤ 122 from h)] at e
    simp (maxSteps := 3000000) (disch := omega) only [↓nx_q, zb0_s, zb1_s, zb2_s, zb3_s, zb4_s, zb5_s, zb6_s, zb7_s, zb8_s, zb9_s, zb10_s, zb11_s, zb12_s, zb13_s, zb14_s, q_lit, nI_add, pk_mul, e_cl, gi_in, gz_n0, gz_n1, e_gz, si_eq, si_ne, sa_eq, sa_ne, if_true, if_false, ↓reduceIte, k_ltT, k_ltF, k_leT, k_leF, k_eqT, k_eqF, k_m1lt, k_nm1, not_true_eq_false, not_false_eq_true, e]
  · rw [if_neg (show ¬ (97 ≤ c ∧ c ≤ 122) from h)] at e
    simp (maxSteps := 3000000) (disch := omega) only [↓nx_q, zb0_s, zb1_s, zb2_s, zb3_s, zb4_s, zb5_s, zb6_s, zb7_s, zb8_s, zb9_s, zb10_s, zb11_s, zb12_s, zb13_s, zb14_s, q_lit, nI_add, pk_mul, e_cl, gi_in, gz_n0, gz_n1, e_gz, si_eq, si_ne, sa_eq, sa_ne, if_true, if_false, ↓reduceIte, k_ltT, k_ltF, k_leT, k_leF, k_eqT, k_eqF, k_m1lt, k_nm1, not_true_eq_false, not_false_eq_true, e]
theorem m_dg {c : Nat} (hc : c < 256) : (dgC c → f_X12_isDigit (nI c) = some (nI 1)) ∧ (¬ dgC c → f_X12_isDigit (nI c) = some (nI 0)) := by
  have e := m_isInN (a := 48) (b := 57) (k := c) (by omega) (by decide) (by decide)
  unfold f_X12_isDigit
  refine ⟨fun h => ?_, fun h => ?_⟩
  · rw [if_pos (show 48 ≤ c ∧ c ≤ 57 from h)] at e
    simp (maxSteps := 3000000) (disch := omega) only [↓nx_q, zb0_s, zb1_s, zb2_s, zb3_s, zb4_s, zb5_s, zb6_s, zb7_s, zb8_s, zb9_s, zb10_s, zb11_s, zb12_s, zb13_s, zb14_s, q_lit, nI_add, pk_mul, e_cl, gi_in, gz_n0, gz_n1, e_gz, si_eq, si_ne, sa_eq, sa_ne, if_true, if_false, ↓reduceIte, k_ltT, k_ltF, k_leT, k_leF, k_eqT, k_eqF, k_m1lt, k_nm1, not_true_eq_false, not_false_eq_true, e]
  · rw [if_neg (show ¬ (48 ≤ c ∧ c ≤ 57) from h)] at e
    simp (maxSteps := 3000000) (disch := omega) only [↓nx_q, zb0_s, zb1_s, zb2_s, zb3_s, zb4_s, zb5_s, zb6_s, zb7_s, zb8_s, zb9_s, zb10_s, zb11_s, zb12_s, zb13_s, zb14_s, q_lit, nI_add, pk_mul, e_cl, gi_in, gz_n0, gz_n1, e_gz, si_eq, si_ne, sa_eq, sa_ne, if_true, if_false, ↓reduceIte, k_ltT, k_ltF, k_leT, k_leF, k_eqT, k_eqF, k_m1lt, k_nm1, not_true_eq_false, not_false_eq_true, e]
theorem m_smE : f_X12_isSmall (-nI 1) = some (nI 0) := by decide +kernel
theorem m_dgE : f_X12_isDigit (-nI 1) = some (nI 0) := by decide +kernel
theorem k_1n {p : Nat} (h : p < 2147483648) : ((-nI 1 : Int32) = nI p) = False := eq_false (fun e => by
  have := k_nm1 h
  rw [this.symm]
  exact e.symm)
def kM (k : Nat) : Nat := if k = 0 then 4 else if k = 1 then 0 else if k = 2 then 1 else if k = 3 then 2 else 3
def TkM (M : Ob) (t : Nat → Nat) (a x k : Nat) : Prop := M 10 0 = nI a ∧ M 9 0 = nI x ∧ M 11 0 = nI (kM k) ∧ (k = 2 → M 16 0 = nI (x - a) ∧ ∀ i, i < x - a → M 15 i = nI (t (a + i))) ∧ (k = 3 → M 12 0 = nI (nmT t a (x - a))) ∧ (3 < k → M 12 0 = nI k)
theorem m_skip {M : Ob} {t : Nat → Nat} {n p a : Nat} {B : Ob → Option (Ob ⊕ Ob)} (hT : TpM M t n) (h9 : M 9 0 = nI p) (hS : Sc (fun c => c = 32) t n p a) (hB : ∀ o6 : Ob, B o6 = (
  zb1 (f_X12_peek o6) fun (r184 : Int32) =>
  if r184 = (32 : Int32) then (
  nx (si o6 9 ((o6 9 0) + (1 : Int32))) fun o186 =>
  some (.inl o186)
  ) else (
  some (.inr o6)
  )
  )) : Ok (zl1 B FU M) (fun o' => (∀ j, j ≠ 9 → o' j = M j) ∧ o' 9 0 = nI a) := by
  obtain ⟨s1, s2, s3, s4⟩ := hS
  have hn := hT.2.1
  refine ok_zl1 (fun i o' => (∀ j, j ≠ 9 → o' j = M j) ∧ o' 9 0 = nI (p + i)) (a - p) (fun i o1 hi hI => ?_) (fu_lt (by omega)) ⟨fun _ _ => rfl, h9⟩
  obtain ⟨fr, f9⟩ := hI
  rw [hB]
  have hT1 : TpM o1 t n := TpM_fr hT (fr 6 (by decide)) (fr 8 (by decide))
  have pk := m_peek hT1 f9
  by_cases q : i = a - p
  · have e : p + i = a := by omega
    rw [e] at f9 pk
    by_cases z : a = n
    · have pk := pk.2 z
      simp (maxSteps := 3000000) (disch := omega) only [↓nx_q, zb0_s, zb1_s, zb2_s, zb3_s, zb4_s, zb5_s, zb6_s, zb7_s, zb8_s, zb9_s, zb10_s, zb11_s, zb12_s, zb13_s, zb14_s, q_lit, nI_add, pk_mul, e_cl, gi_in, gz_n0, gz_n1, e_gz, si_eq, si_ne, sa_eq, sa_ne, if_true, if_false, ↓reduceIte, k_ltT, k_ltF, k_leT, k_leF, k_eqT, k_eqF, k_m1lt, k_nm1, not_true_eq_false, not_false_eq_true, pk, k_1n]
      exact ⟨_, rfl, fr, f9⟩
    · obtain ⟨c1, c2⟩ := hT.2.2 a (by omega)
      have hne := s4 (by omega)
      have pk := pk.1 (by omega)
      simp (maxSteps := 3000000) (disch := omega) only [↓nx_q, zb0_s, zb1_s, zb2_s, zb3_s, zb4_s, zb5_s, zb6_s, zb7_s, zb8_s, zb9_s, zb10_s, zb11_s, zb12_s, zb13_s, zb14_s, q_lit, nI_add, pk_mul, e_cl, gi_in, gz_n0, gz_n1, e_gz, si_eq, si_ne, sa_eq, sa_ne, if_true, if_false, ↓reduceIte, k_ltT, k_ltF, k_leT, k_leF, k_eqT, k_eqF, k_m1lt, k_nm1, not_true_eq_false, not_false_eq_true, pk]
      exact ⟨_, rfl, fr, f9⟩
  · have he := s3 (p + i) (by omega) (by omega)
    have pk := pk.1 (by omega)
    rw [show t (p + i) = 32 from he] at pk
    simp (maxSteps := 3000000) (disch := omega) only [↓nx_q, zb0_s, zb1_s, zb2_s, zb3_s, zb4_s, zb5_s, zb6_s, zb7_s, zb8_s, zb9_s, zb10_s, zb11_s, zb12_s, zb13_s, zb14_s, q_lit, nI_add, pk_mul, e_cl, gi_in, gz_n0, gz_n1, e_gz, si_eq, si_ne, sa_eq, sa_ne, if_true, if_false, ↓reduceIte, k_ltT, k_ltF, k_leT, k_leF, k_eqT, k_eqF, k_m1lt, k_nm1, not_true_eq_false, not_false_eq_true, pk, f9]
    refine ⟨_, rfl, by omega, fun j x => ?_, ?_⟩
    · simp (disch := omega) only [si_eq, si_ne, sa_eq, sa_ne, upd_eq, upd_ne, updN_eq, updN_ne]; exact fr j x
    · simp (disch := omega) only [si_eq, si_ne, sa_eq, sa_ne, upd_eq, upd_ne, updN_eq, updN_ne]; rfl
theorem m_run {M : Ob} {t : Nat → Nat} {n a x : Nat} {k0 : Int32} {B : Ob → Int32 → Option ((Ob × Int32) ⊕ (Ob × Int32))} (hT : TpM M t n) (hS : Sc rnC t n a x) (hax : a < x) (h9 : M 9 0 = nI (a + 1)) (h10 : M 10 0 = nI a) (hk : k0 = nI (nlN t a 1)) (hl : M 15 0 = nI (t a)) (hw : nlN t a 1 = 0 → M 12 0 = nI (nmT t a 1)) (hB : ∀ (o94 : Ob) (k95 : Int32), B o94 k95 = (
  zb1 (f_X12_peek o94) fun (r114 : Int32) =>
  zb1 (f_X12_isSmall r114) fun (r116 : Int32) =>
  nx (fun (_ : Unit) => (
  nx ((o94 9 0) - (o94 10 0)) fun x125 =>
  nx (fun (q131 : Ob) => (
  zb1 (f_X12_peek q131) fun (r133 : Int32) =>
  zb1 (f_X12_isSmall r133) fun (r135 : Int32) =>
  nx (fun (j138 : Int32) => (
  nx (k95 + j138) fun x140 =>
  nx (fun (j144 : Int32) => (
  nx (si q131 12 j144) fun o146 =>
  nx (si o146 9 ((o146 9 0) + (1 : Int32))) fun o147 =>
  some (.inl (o147, x140))
  )) fun K145 =>
  if (2 : Int32) ≤ x125 then (
  K145 (q131 12 0)
  ) else (
  zb1 (f_X12_peek q131) fun (r148 : Int32) =>
  K145 ((((10 : Int32) * (q131 12 0)) + r148) - (48 : Int32))
  )
  )) fun K139 =>
  if r135 = 0 then (
  K139 (0 : Int32)
  ) else (
  K139 (1 : Int32)
  )
  )) fun K132 =>
  if (6 : Int32) ≤ x125 then (
  K132 o94
  ) else (
  zb1 (f_X12_peek o94) fun (r152 : Int32) =>
  gi x125 6 <|
  nx (sa o94 15 (upd (o94 15) (Int32.toNatClampNeg x125) (vp_nar .byte ((Int32.toInt8 r152).toInt32)))) fun o155 =>
  K132 o155
  )
  )) fun K124 =>
  if r116 = 0 then (
  zb1 (f_X12_peek o94) fun (r157 : Int32) =>
  zb1 (f_X12_isDigit r157) fun (r159 : Int32) =>
  if r159 = 0 then (
  some (.inr (o94, k95))
  ) else (
  K124 ()
  )
  ) else (
  K124 ()
  )
  )) : Ok (zl2 B FU M k0) (fun r => (∀ j, j ≠ 9 → j ≠ 12 → j ≠ 15 → r.1 j = M j) ∧ r.1 9 0 = nI x ∧ r.2 = nI (nlN t a (x - a)) ∧ (∀ y, y < x - a → y < 6 → r.1 15 y = nI (t (a + y))) ∧ (nlN t a (x - a) = 0 → x - a ≤ 2 → r.1 12 0 = nI (nmT t a (x - a)))) := by
  obtain ⟨s1, s2, s3, s4⟩ := hS
  have hn := hT.2.1
  refine ok_zl2 (fun i o' k => (∀ j, j ≠ 9 → j ≠ 12 → j ≠ 15 → o' j = M j) ∧ o' 9 0 = nI (a + (i + 1)) ∧ k = nI (nlN t a (i + 1)) ∧ (∀ y, y < i + 1 → y < 6 → o' 15 y = nI (t (a + y))) ∧ (nlN t a (i + 1) = 0 → i + 1 ≤ 2 → o' 12 0 = nI (nmT t a (i + 1)))) (x - a - 1) (fun i o1 k hi hI => ?_) (fu_lt (by omega)) ⟨fun _ _ _ _ => rfl, h9, hk, fun y hy _ => by
    have e : y = 0 := by omega
    subst e
    exact hl, fun h _ => hw h⟩
  obtain ⟨fr, f9, rfl, fl, fn⟩ := hI
  rw [hB]
  have f10 : o1 10 0 = nI a := by rw [fr 10 (by decide) (by decide) (by decide)]; exact h10
  have hT1 : TpM o1 t n := TpM_fr hT (fr 6 (by decide) (by decide) (by decide)) (fr 8 (by decide) (by decide) (by decide))
  have pk := m_peek hT1 f9
  have hnl := nl_le t a (i + 1)
  by_cases q : i = x - a - 1
  · have e : a + (i + 1) = x := by omega
    have e2 : i + 1 = x - a := by omega
    rw [e] at f9 pk
    rw [e2] at fl fn ⊢
    by_cases z : x = n
    · have pk := pk.2 z
      simp (maxSteps := 3000000) (disch := omega) only [↓nx_q, zb0_s, zb1_s, zb2_s, zb3_s, zb4_s, zb5_s, zb6_s, zb7_s, zb8_s, zb9_s, zb10_s, zb11_s, zb12_s, zb13_s, zb14_s, q_lit, nI_add, pk_mul, e_cl, gi_in, gz_n0, gz_n1, e_gz, si_eq, si_ne, sa_eq, sa_ne, if_true, if_false, ↓reduceIte, k_ltT, k_ltF, k_leT, k_leF, k_eqT, k_eqF, k_m1lt, k_nm1, not_true_eq_false, not_false_eq_true, pk, m_smE, m_dgE]
      exact ⟨_, rfl, fr, f9, rfl, fl, fn⟩
    · obtain ⟨c1, c2⟩ := hT.2.2 x (by omega)
      have hz := s4 (by omega)
      have pk := pk.1 (by omega)
      have hsm := (m_sm c1).2 (fun h => hz (Or.inl h))
      have hdg := (m_dg c1).2 (fun h => hz (Or.inr h))
      simp (maxSteps := 3000000) (disch := omega) only [↓nx_q, zb0_s, zb1_s, zb2_s, zb3_s, zb4_s, zb5_s, zb6_s, zb7_s, zb8_s, zb9_s, zb10_s, zb11_s, zb12_s, zb13_s, zb14_s, q_lit, nI_add, pk_mul, e_cl, gi_in, gz_n0, gz_n1, e_gz, si_eq, si_ne, sa_eq, sa_ne, if_true, if_false, ↓reduceIte, k_ltT, k_ltF, k_leT, k_leF, k_eqT, k_eqF, k_m1lt, k_nm1, not_true_eq_false, not_false_eq_true, pk, hsm, hdg]
      exact ⟨_, rfl, fr, f9, rfl, fl, fn⟩
  · obtain ⟨c1, c2⟩ := hT.2.2 (a + (i + 1)) (by omega)
    have pk0 := pk.1 (by omega)
    have hrn := s3 (a + (i + 1)) (by omega) (by omega)
    have c128 : t (a + (i + 1)) < 128 := by
      rcases hrn with h | h
      · have := h.2; omega
      · have := h.2; omega
    have enar := by_nar ⟨t (a + (i + 1)), c128⟩
    dsimp only at enar
    have pk1 : f_X12_peek (sa o1 15 (upd (o1 15) (i + 1) (nI (t (a + (i + 1)))))) = some (nI (t (a + (i + 1)))) := by
      refine (m_peek (n := n) (TpM_fr hT1 ?_ ?_) ?_).1 (by omega)
      · simp (disch := omega) only [si_eq, si_ne, sa_eq, sa_ne, upd_eq, upd_ne, updN_eq, updN_ne]
      · simp (disch := omega) only [si_eq, si_ne, sa_eq, sa_ne, upd_eq, upd_ne, updN_eq, updN_ne]
      · simp (disch := omega) only [si_eq, si_ne, sa_eq, sa_ne, upd_eq, upd_ne, updN_eq, updN_ne]; exact f9
    by_cases b : smC (t (a + (i + 1)))
    · have hsm := (m_sm c1).1 b
      have en := nl_s b
      have b1 := b.1
      have b2 := b.2
      by_cases q6 : 6 ≤ i + 1
      · simp (maxSteps := 3000000) (disch := omega) only [↓nx_q, zb0_s, zb1_s, zb2_s, zb3_s, zb4_s, zb5_s, zb6_s, zb7_s, zb8_s, zb9_s, zb10_s, zb11_s, zb12_s, zb13_s, zb14_s, q_lit, nI_add, pk_mul, e_cl, gi_in, gz_n0, gz_n1, e_gz, si_eq, si_ne, sa_eq, sa_ne, if_true, if_false, ↓reduceIte, k_ltT, k_ltF, k_leT, k_leF, k_eqT, k_eqF, k_m1lt, k_nm1, not_true_eq_false, not_false_eq_true, pk0, f9, f10, e_sub, Nat.add_sub_cancel_left, hsm]
        refine ⟨_, rfl, by omega, fun j x y z => ?_, ?_, ?_, fun y hy hy6 => ?_, fun w z => ?_⟩
        · simp (disch := omega) only [si_eq, si_ne, sa_eq, sa_ne, upd_eq, upd_ne, updN_eq, updN_ne]; exact fr j x y z
        · simp (disch := omega) only [si_eq, si_ne, sa_eq, sa_ne, upd_eq, upd_ne, updN_eq, updN_ne]; rfl
        · rw [en]
        · simp (disch := omega) only [si_eq, si_ne, sa_eq, sa_ne, upd_eq, upd_ne, updN_eq, updN_ne]; exact fl y (by omega) hy6
        · rw [en] at w; omega
      · by_cases q2 : 2 ≤ i + 1
        · simp (maxSteps := 3000000) (disch := omega) only [↓nx_q, zb0_s, zb1_s, zb2_s, zb3_s, zb4_s, zb5_s, zb6_s, zb7_s, zb8_s, zb9_s, zb10_s, zb11_s, zb12_s, zb13_s, zb14_s, q_lit, nI_add, pk_mul, e_cl, gi_in, gz_n0, gz_n1, e_gz, si_eq, si_ne, sa_eq, sa_ne, if_true, if_false, ↓reduceIte, k_ltT, k_ltF, k_leT, k_leF, k_eqT, k_eqF, k_m1lt, k_nm1, not_true_eq_false, not_false_eq_true, pk0, f9, f10, e_sub, Nat.add_sub_cancel_left, pk1, enar, hsm]
          refine ⟨_, rfl, by omega, fun j x y z => ?_, ?_, ?_, fun y hy hy6 => ?_, fun w z => ?_⟩
          · simp (disch := omega) only [si_eq, si_ne, sa_eq, sa_ne, upd_eq, upd_ne, updN_eq, updN_ne]; exact fr j x y z
          · simp (disch := omega) only [si_eq, si_ne, sa_eq, sa_ne, upd_eq, upd_ne, updN_eq, updN_ne]; rfl
          · rw [en]
          · by_cases e : y = i + 1
            · subst e
              simp (disch := omega) only [si_eq, si_ne, sa_eq, sa_ne, upd_eq, upd_ne, updN_eq, updN_ne]
            · simp (disch := omega) only [si_eq, si_ne, sa_eq, sa_ne, upd_eq, upd_ne, updN_eq, updN_ne]
              exact fl y (by omega) hy6
          · rw [en] at w; omega
        · simp (maxSteps := 3000000) (disch := omega) only [↓nx_q, zb0_s, zb1_s, zb2_s, zb3_s, zb4_s, zb5_s, zb6_s, zb7_s, zb8_s, zb9_s, zb10_s, zb11_s, zb12_s, zb13_s, zb14_s, q_lit, nI_add, pk_mul, e_cl, gi_in, gz_n0, gz_n1, e_gz, si_eq, si_ne, sa_eq, sa_ne, if_true, if_false, ↓reduceIte, k_ltT, k_ltF, k_leT, k_leF, k_eqT, k_eqF, k_m1lt, k_nm1, not_true_eq_false, not_false_eq_true, pk0, f9, f10, e_sub, Nat.add_sub_cancel_left, pk1, enar, hsm]
          refine ⟨_, rfl, by omega, fun j x y z => ?_, ?_, ?_, fun y hy hy6 => ?_, fun w z => ?_⟩
          · simp (disch := omega) only [si_eq, si_ne, sa_eq, sa_ne, upd_eq, upd_ne, updN_eq, updN_ne]; exact fr j x y z
          · simp (disch := omega) only [si_eq, si_ne, sa_eq, sa_ne, upd_eq, upd_ne, updN_eq, updN_ne]; rfl
          · rw [en]
          · by_cases e : y = i + 1
            · subst e
              simp (disch := omega) only [si_eq, si_ne, sa_eq, sa_ne, upd_eq, upd_ne, updN_eq, updN_ne]
            · simp (disch := omega) only [si_eq, si_ne, sa_eq, sa_ne, upd_eq, upd_ne, updN_eq, updN_ne]
              exact fl y (by omega) hy6
          · rw [en] at w; omega
    · have bd : dgC (t (a + (i + 1))) := by
        rcases hrn with h | h
        · exact absurd h b
        · exact h
      have hsm := (m_sm c1).2 b
      have hdg := (m_dg c1).1 bd
      have en := nl_n b
      have b1 := bd.1
      have b2 := bd.2
      by_cases q6 : 6 ≤ i + 1
      · simp (maxSteps := 3000000) (disch := omega) only [↓nx_q, zb0_s, zb1_s, zb2_s, zb3_s, zb4_s, zb5_s, zb6_s, zb7_s, zb8_s, zb9_s, zb10_s, zb11_s, zb12_s, zb13_s, zb14_s, q_lit, nI_add, pk_mul, e_cl, gi_in, gz_n0, gz_n1, e_gz, si_eq, si_ne, sa_eq, sa_ne, if_true, if_false, ↓reduceIte, k_ltT, k_ltF, k_leT, k_leF, k_eqT, k_eqF, k_m1lt, k_nm1, not_true_eq_false, not_false_eq_true, pk0, f9, f10, e_sub, Nat.add_sub_cancel_left, hsm, hdg]
        refine ⟨_, rfl, by omega, fun j x y z => ?_, ?_, ?_, fun y hy hy6 => ?_, fun w z => ?_⟩
        · simp (disch := omega) only [si_eq, si_ne, sa_eq, sa_ne, upd_eq, upd_ne, updN_eq, updN_ne]; exact fr j x y z
        · simp (disch := omega) only [si_eq, si_ne, sa_eq, sa_ne, upd_eq, upd_ne, updN_eq, updN_ne]; rfl
        · rw [en]; rfl
        · simp (disch := omega) only [si_eq, si_ne, sa_eq, sa_ne, upd_eq, upd_ne, updN_eq, updN_ne]; exact fl y (by omega) hy6
        · omega
      · by_cases q2 : 2 ≤ i + 1
        · simp (maxSteps := 3000000) (disch := omega) only [↓nx_q, zb0_s, zb1_s, zb2_s, zb3_s, zb4_s, zb5_s, zb6_s, zb7_s, zb8_s, zb9_s, zb10_s, zb11_s, zb12_s, zb13_s, zb14_s, q_lit, nI_add, pk_mul, e_cl, gi_in, gz_n0, gz_n1, e_gz, si_eq, si_ne, sa_eq, sa_ne, if_true, if_false, ↓reduceIte, k_ltT, k_ltF, k_leT, k_leF, k_eqT, k_eqF, k_m1lt, k_nm1, not_true_eq_false, not_false_eq_true, pk0, f9, f10, e_sub, Nat.add_sub_cancel_left, pk1, enar, hsm, hdg]
          refine ⟨_, rfl, by omega, fun j x y z => ?_, ?_, ?_, fun y hy hy6 => ?_, fun w z => ?_⟩
          · simp (disch := omega) only [si_eq, si_ne, sa_eq, sa_ne, upd_eq, upd_ne, updN_eq, updN_ne]; exact fr j x y z
          · simp (disch := omega) only [si_eq, si_ne, sa_eq, sa_ne, upd_eq, upd_ne, updN_eq, updN_ne]; rfl
          · rw [en]; rfl
          · by_cases e : y = i + 1
            · subst e
              simp (disch := omega) only [si_eq, si_ne, sa_eq, sa_ne, upd_eq, upd_ne, updN_eq, updN_ne]
            · simp (disch := omega) only [si_eq, si_ne, sa_eq, sa_ne, upd_eq, upd_ne, updN_eq, updN_ne]
              exact fl y (by omega) hy6
          · omega
        · simp (maxSteps := 3000000) (disch := omega) only [↓nx_q, zb0_s, zb1_s, zb2_s, zb3_s, zb4_s, zb5_s, zb6_s, zb7_s, zb8_s, zb9_s, zb10_s, zb11_s, zb12_s, zb13_s, zb14_s, q_lit, nI_add, pk_mul, e_cl, gi_in, gz_n0, gz_n1, e_gz, si_eq, si_ne, sa_eq, sa_ne, if_true, if_false, ↓reduceIte, k_ltT, k_ltF, k_leT, k_leF, k_eqT, k_eqF, k_m1lt, k_nm1, not_true_eq_false, not_false_eq_true, pk0, f9, f10, e_sub, Nat.add_sub_cancel_left, pk1, enar, hsm, hdg]
          refine ⟨_, rfl, by omega, fun j x y z => ?_, ?_, ?_, fun y hy hy6 => ?_, fun w z => ?_⟩
          · simp (disch := omega) only [si_eq, si_ne, sa_eq, sa_ne, upd_eq, upd_ne, updN_eq, updN_ne]; exact fr j x y z
          · simp (disch := omega) only [si_eq, si_ne, sa_eq, sa_ne, upd_eq, upd_ne, updN_eq, updN_ne]; rfl
          · rw [en]; rfl
          · by_cases e : y = i + 1
            · subst e
              simp (disch := omega) only [si_eq, si_ne, sa_eq, sa_ne, upd_eq, upd_ne, updN_eq, updN_ne]
            · simp (disch := omega) only [si_eq, si_ne, sa_eq, sa_ne, upd_eq, upd_ne, updN_eq, updN_ne]
              exact fl y (by omega) hy6
          · rw [en] at w
            have fn' := fn w (by omega)
            simp (disch := omega) only [si_eq, si_ne, sa_eq, sa_ne, upd_eq, upd_ne, updN_eq, updN_ne]
            rw [fn', pk_mul, nI_add, e_sub (by omega)]
            refine congrArg nI ?_
            show _ = nmT t a (i + 1) * 10 + t (a + (i + 1)) - 48
            rw [Nat.mul_comm]
