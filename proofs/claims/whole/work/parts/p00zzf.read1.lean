/-! ===== reading: both ===== -/
def TS (o M : Ob) (t : Nat → Nat) (n a x k : Nat) : Prop := TpC o t n ∧ TpM M t n ∧ (a ≤ x ∧ x ≤ n ∧ k < 256) ∧ TkC o t a x k ∧ TkM M t a x k ∧ ((k = 2 → 1 ≤ x - a ∧ x - a ≤ 6 ∧ ∀ i, i < x - a → smC (t (a + i))) ∧ (k = 1 → a = n) ∧ (k ≠ 1 → a < x)) ∧ (k = 3 → nmT t a (x - a) ≤ 99)
theorem nl_all {t : Nat → Nat} {a : Nat} : ∀ {i : Nat}, nlN t a i = i → ∀ j, j < i → smC (t (a + j))
  | 0, _, j, h => absurd h (Nat.not_lt_zero _)
  | i + 1, e, j, h => by
    have hle := nl_le t a i
    by_cases q : smC (t (a + i))
    · rw [nl_s q] at e
      by_cases z : j = i
      · subst z; exact q
      · exact nl_all (i := i) (by omega) j (by omega)
    · rw [nl_n q] at e
      omega
theorem tok_word {t : Nat → Nat} {n p a x k : Nat} (h : Tok t n p a x k) : (k = 2 → 1 ≤ x - a ∧ x - a ≤ 6 ∧ ∀ i, i < x - a → smC (t (a + i))) := by
  intro hk
  rcases h.2 with ⟨-, -, e⟩ | ⟨-, hr, -, e⟩ | ⟨q, hr, hx, e⟩
  · omega
  · rcases e with ⟨e, e2⟩ | ⟨-, e⟩ <;> omega
  · have hxa : a < x := by
      refine Classical.byContradiction fun y => ?_
      have : x = a := by have := hx.1; omega
      subst this
      exact hx.2.2.2 q hr
    rw [hk] at e
    unfold kdN at e
    by_cases q1 : nlN t a (x - a) = x - a
    · rw [if_pos q1] at e
      by_cases q6 : x - a ≤ 6
      · exact ⟨by omega, q6, nl_all q1⟩
      · rw [if_neg q6] at e; omega
    · rw [if_neg q1] at e
      by_cases q0 : nlN t a (x - a) = 0
      · rw [if_pos q0] at e
        by_cases q2 : x - a ≤ 2
        · rw [if_pos q2] at e; omega
        · rw [if_neg q2] at e; omega
      · rw [if_neg q0] at e; omega
theorem nm_le {t : Nat → Nat} {a d : Nat} (hd : d ≤ 2) (h : ∀ i, i < d → t (a + i) ≤ 57) : nmT t a d ≤ 99 := by
  have : d = 0 ∨ d = 1 ∨ d = 2 := by omega
  rcases this with e | e | e
  · subst e; exact Nat.zero_le _
  · subst e
    have := h 0 (by omega)
    show 0 * 10 + t (a + 0) - 48 ≤ 99
    omega
  · subst e
    have h0 := h 0 (by omega)
    have h1 := h 1 (by omega)
    show (0 * 10 + t (a + 0) - 48) * 10 + t (a + 1) - 48 ≤ 99
    omega
theorem nl_none {t : Nat → Nat} {a : Nat} : ∀ {i : Nat}, nlN t a i = 0 → ∀ j, j < i → ¬ smC (t (a + j))
  | 0, _, j, h => absurd h (Nat.not_lt_zero _)
  | i + 1, e, j, h => by
    by_cases q : smC (t (a + i))
    · rw [nl_s q] at e; omega
    · rw [nl_n q] at e
      by_cases z : j = i
      · subst z; exact q
      · exact nl_none (i := i) e j (by omega)
theorem tok_num {t : Nat → Nat} {n p a x k : Nat} (h : Tok t n p a x k) : (k = 3 → nmT t a (x - a) ≤ 99) := by
  intro hk
  rcases h.2 with ⟨-, -, e⟩ | ⟨-, hr, -, e⟩ | ⟨q, hr, hx, e⟩
  · omega
  · rcases e with ⟨e, e2⟩ | ⟨-, e⟩ <;> omega
  · rw [hk] at e
    unfold kdN at e
    by_cases q1 : nlN t a (x - a) = x - a
    · rw [if_pos q1] at e
      by_cases q6 : x - a ≤ 6
      · rw [if_pos q6] at e; omega
      · rw [if_neg q6] at e; omega
    · rw [if_neg q1] at e
      by_cases q0 : nlN t a (x - a) = 0
      · rw [if_pos q0] at e
        by_cases q2 : x - a ≤ 2
        · refine nm_le q2 (fun i hi => ?_)
          have := nl_none q0 i hi
          rcases hx.2.2.1 (a + i) (by omega) (by omega) with h | h
          · exact absurd h this
          · exact h.2
        · rw [if_neg q2] at e; omega
      · rw [if_neg q0] at e; omega
theorem tok_lt {t : Nat → Nat} {n p a x k : Nat} (h : Tok t n p a x k) (ht : ∀ i, i < n → t i < 256) : k < 256 := by
  rcases h.2 with ⟨-, -, e⟩ | ⟨q, hr, -, e⟩ | ⟨q, hr, hx, e⟩
  · omega
  · have := ht a q
    rcases e with ⟨e, e2⟩ | ⟨-, e⟩ <;> omega
  · rcases kd_lt (t := t) (a := a) (x := x) with h | h | h <;> omega
theorem tok_end {t : Nat → Nat} {n p a x k : Nat} (h : Tok t n p a x k) : (k = 1 → a = n) ∧ (k ≠ 1 → a < x) := by
  rcases h.2 with ⟨e0, -, e⟩ | ⟨q, hr, e2, e⟩ | ⟨q, hr, hx, e⟩
  · exact ⟨fun _ => e0, fun z => absurd e z⟩
  · refine ⟨fun z => ?_, fun _ => by omega⟩
    rcases e with ⟨e, e3⟩ | ⟨-, e⟩ <;> omega
  · refine ⟨fun z => ?_, fun _ => ?_⟩
    · rcases kd_lt (t := t) (a := a) (x := x) with h | h | h <;> omega
    · refine Classical.byContradiction fun y => ?_
      have : x = a := by have := hx.1; omega
      subst this
      exact hx.2.2.2 q hr
def FrC (o o' : Ob) : Prop := ∀ j, j < 13 ∨ 16 < j → o' j = o j
def FrN (M M' : Ob) : Prop := ∀ j, j ≠ 9 → j ≠ 10 → j ≠ 11 → j ≠ 12 → j ≠ 15 → j ≠ 16 → M' j = M j
theorem adv_at {o M : Ob} {t : Nat → Nat} {n p : Nat} (hC : TpC o t n) (hM : TpM M t n) (h1 : o 15 0 = nI p) (h2 : M 9 0 = nI p) (hp : p ≤ n) : ∃ o' M' a x k, f_X6_advance o = some o' ∧ f_X12_next M = some M' ∧ FrC o o' ∧ FrN M M' ∧ p ≤ a ∧ TS o' M' t n a x k := by
  obtain ⟨a, x, k, hk, hax, hx⟩ := tok_ex (t := t) hp
  obtain ⟨o', e1, f1, t1⟩ := c_advance hC h1 hk
  obtain ⟨M', e2, f2, t2⟩ := m_next hM h2 hk
  exact ⟨o', M', a, x, k, e1, e2, f1, f2, hk.1.1, TpC_fr hC (f1 0 (by omega)) (f1 1 (by omega)), TpM_fr hM (f2 6 (by decide) (by decide) (by decide) (by decide) (by decide) (by decide)) (f2 8 (by decide) (by decide) (by decide) (by decide) (by decide) (by decide)), ⟨hax, hx, tok_lt hk (fun i hi => (hC.2.2 i hi).1)⟩, t1, t2, ⟨tok_word hk, tok_end hk⟩, tok_num hk⟩
theorem adv_both {o M : Ob} {t : Nat → Nat} {n a x k : Nat} (h : TS o M t n a x k) : ∃ o' M' a' x' k', f_X6_advance o = some o' ∧ f_X12_next M = some M' ∧ FrC o o' ∧ FrN M M' ∧ x ≤ a' ∧ TS o' M' t n a' x' k' := adv_at h.1 h.2.1 h.2.2.2.1.2.1 h.2.2.2.2.1.2.1 h.2.2.1.2.1
/-- fields that the tokens don't reach -/
theorem TS_fr {o o' M M' : Ob} {t : Nat → Nat} {n a x k : Nat} (h : TS o M t n a x k) (h0 : o' 0 = o 0) (h1 : o' 1 = o 1) (h13 : o' 13 = o 13) (h14 : o' 14 = o 14) (h15 : o' 15 = o 15) (h16 : o' 16 = o 16) (g6 : M' 6 = M 6) (g8 : M' 8 = M 8) (g9 : M' 9 = M 9) (g10 : M' 10 = M 10) (g11 : M' 11 = M 11) (g12 : M' 12 = M 12) (g15 : M' 15 = M 15) (g16 : M' 16 = M 16) : TS o' M' t n a x k := by
  obtain ⟨a1, a2, a3, a4, a5, a6, a7⟩ := h
  refine ⟨TpC_fr a1 h0 h1, TpM_fr a2 g6 g8, a3, ?_, ?_, a6, a7⟩
  · unfold TkC
    rw [h13, h14, h15, h16]
    exact a4
  · unfold TkM
    rw [g9, g10, g11, g12, g15, g16]
    exact a5
/-- words, both -/
theorem word0 {o M : Ob} {t : Nat → Nat} {n a x k : Nat} (h : TS o M t n a x k) : ∀ c m L, (c, m, L) ∈ [(0, 0, 4), (1, 1, 4), (2, 2, 4), (3, 4, 4), (4, 5, 4), (5, 6, 4), (6, 3, 5)] → (WdP t a x k c L → f_X12_isKnown M (nI m) = some (nI 1)) ∧ (¬ WdP t a x k c L → f_X12_isKnown M (nI m) = some (nI 0)) := by
  intro c m L hm
  have hxa : x - a ≤ 400 := by have := h.2.2.1.2.1; have := h.1.2.1; omega
  simp only [List.mem_cons, List.mem_nil_iff, or_false, Prod.mk.injEq] at hm
  rcases hm with ⟨rfl, rfl, rfl⟩ | ⟨rfl, rfl, rfl⟩ | ⟨rfl, rfl, rfl⟩ | ⟨rfl, rfl, rfl⟩ | ⟨rfl, rfl, rfl⟩ | ⟨rfl, rfl, rfl⟩ | ⟨rfl, rfl, rfl⟩ <;> exact m_known h.2.2.2.2.1 hxa (by decide) (by decide) (by decide)
def NmP (t : Nat → Nat) (a x k : Nat) : Prop := k = 2 ∧ ¬ WdP t a x k 0 4 ∧ ¬ WdP t a x k 1 4 ∧ ¬ WdP t a x k 2 4 ∧ ¬ WdP t a x k 6 5
theorem c_isNm {o M : Ob} {t : Nat → Nat} {n a x k : Nat} (h : TS o M t n a x k) : (NmP t a x k → f_X6_isName o = some (nI 1)) ∧ (¬ NmP t a x k → f_X6_isName o = some (nI 0)) := by
  obtain ⟨a1, a2, a3, a4, a5, a6, a7⟩ := h
  have s0 := c_says0 a1 a3.2.1 a3.2.2 a4 a3.1
  have s1 := c_says1 a1 a3.2.1 a3.2.2 a4 a3.1
  have s2 := c_says2 a1 a3.2.1 a3.2.2 a4 a3.1
  have s6 := c_says6 a1 a3.2.1 a3.2.2 a4 a3.1
  have e13 := a4.2.2.1
  have hk := a3.2.2
  unfold f_X6_isName
  by_cases q : k = 2
  · by_cases w0 : WdP t a x k 0 4
    · refine ⟨fun z => absurd w0 z.2.1, fun _ => ?_⟩
      have s0 := s0.1 w0
      simp (maxSteps := 3000000) (disch := omega) only [↓nx_q, zb0_s, zb1_s, zb2_s, zb3_s, zb4_s, zb5_s, zb6_s, zb7_s, zb8_s, zb9_s, zb10_s, zb11_s, zb12_s, zb13_s, zb14_s, q_lit, nI_add, pk_mul, e_cl, gi_in, gz_n0, gz_n1, e_gz, si_eq, si_ne, sa_eq, sa_ne, if_true, if_false, ↓reduceIte, k_ltT, k_ltF, k_leT, k_leF, k_eqT, k_eqF, k_m1lt, k_nm1, not_true_eq_false, not_false_eq_true, e13, s0]
    · have s0 := s0.2 w0
      by_cases w1 : WdP t a x k 1 4
      · refine ⟨fun z => absurd w1 z.2.2.1, fun _ => ?_⟩
        have s1 := s1.1 w1
        simp (maxSteps := 3000000) (disch := omega) only [↓nx_q, zb0_s, zb1_s, zb2_s, zb3_s, zb4_s, zb5_s, zb6_s, zb7_s, zb8_s, zb9_s, zb10_s, zb11_s, zb12_s, zb13_s, zb14_s, q_lit, nI_add, pk_mul, e_cl, gi_in, gz_n0, gz_n1, e_gz, si_eq, si_ne, sa_eq, sa_ne, if_true, if_false, ↓reduceIte, k_ltT, k_ltF, k_leT, k_leF, k_eqT, k_eqF, k_m1lt, k_nm1, not_true_eq_false, not_false_eq_true, e13, s0, s1]
      · have s1 := s1.2 w1
        by_cases w2 : WdP t a x k 2 4
        · refine ⟨fun z => absurd w2 z.2.2.2.1, fun _ => ?_⟩
          have s2 := s2.1 w2
          simp (maxSteps := 3000000) (disch := omega) only [↓nx_q, zb0_s, zb1_s, zb2_s, zb3_s, zb4_s, zb5_s, zb6_s, zb7_s, zb8_s, zb9_s, zb10_s, zb11_s, zb12_s, zb13_s, zb14_s, q_lit, nI_add, pk_mul, e_cl, gi_in, gz_n0, gz_n1, e_gz, si_eq, si_ne, sa_eq, sa_ne, if_true, if_false, ↓reduceIte, k_ltT, k_ltF, k_leT, k_leF, k_eqT, k_eqF, k_m1lt, k_nm1, not_true_eq_false, not_false_eq_true, e13, s0, s1, s2]
        · have s2 := s2.2 w2
          by_cases w6 : WdP t a x k 6 5
          · refine ⟨fun z => absurd w6 z.2.2.2.2, fun _ => ?_⟩
            have s6 := s6.1 w6
            simp (maxSteps := 3000000) (disch := omega) only [↓nx_q, zb0_s, zb1_s, zb2_s, zb3_s, zb4_s, zb5_s, zb6_s, zb7_s, zb8_s, zb9_s, zb10_s, zb11_s, zb12_s, zb13_s, zb14_s, q_lit, nI_add, pk_mul, e_cl, gi_in, gz_n0, gz_n1, e_gz, si_eq, si_ne, sa_eq, sa_ne, if_true, if_false, ↓reduceIte, k_ltT, k_ltF, k_leT, k_leF, k_eqT, k_eqF, k_m1lt, k_nm1, not_true_eq_false, not_false_eq_true, e13, s0, s1, s2, s6]
          · refine ⟨fun _ => ?_, fun z => absurd ⟨q, w0, w1, w2, w6⟩ z⟩
            have s6 := s6.2 w6
            simp (maxSteps := 3000000) (disch := omega) only [↓nx_q, zb0_s, zb1_s, zb2_s, zb3_s, zb4_s, zb5_s, zb6_s, zb7_s, zb8_s, zb9_s, zb10_s, zb11_s, zb12_s, zb13_s, zb14_s, q_lit, nI_add, pk_mul, e_cl, gi_in, gz_n0, gz_n1, e_gz, si_eq, si_ne, sa_eq, sa_ne, if_true, if_false, ↓reduceIte, k_ltT, k_ltF, k_leT, k_leF, k_eqT, k_eqF, k_m1lt, k_nm1, not_true_eq_false, not_false_eq_true, e13, s0, s1, s2, s6]
  · refine ⟨fun z => absurd z.1 q, fun _ => ?_⟩
    simp (maxSteps := 3000000) (disch := omega) only [↓nx_q, zb0_s, zb1_s, zb2_s, zb3_s, zb4_s, zb5_s, zb6_s, zb7_s, zb8_s, zb9_s, zb10_s, zb11_s, zb12_s, zb13_s, zb14_s, q_lit, nI_add, pk_mul, e_cl, gi_in, gz_n0, gz_n1, e_gz, si_eq, si_ne, sa_eq, sa_ne, if_true, if_false, ↓reduceIte, k_ltT, k_ltF, k_leT, k_leF, k_eqT, k_eqF, k_m1lt, k_nm1, not_true_eq_false, not_false_eq_true, e13]
