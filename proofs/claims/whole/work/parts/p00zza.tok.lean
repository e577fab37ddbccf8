/-! ===== reading: tokens ===== -/
def Sc (P : Nat → Prop) (t : Nat → Nat) (n p a : Nat) : Prop := p ≤ a ∧ a ≤ n ∧ (∀ i, p ≤ i → i < a → P (t i)) ∧ (a < n → ¬ P (t a))
theorem sc_ex (P : Nat → Prop) (t : Nat → Nat) (n : Nat) : ∀ d p, p + d = n → ∃ a, Sc P t n p a := by
  intro d
  induction d with
  | zero => intro p h; exact ⟨p, Nat.le_refl _, by omega, fun i a b => by omega, fun a => by omega⟩
  | succ d ih =>
    intro p h
    by_cases q : P (t p)
    · obtain ⟨a, a1, a2, a3, a4⟩ := ih (p + 1) (by omega)
      refine ⟨a, by omega, a2, fun i x y => ?_, a4⟩
      by_cases e : i = p
      · subst e; exact q
      · exact a3 i (by omega) y
    · exact ⟨p, Nat.le_refl _, by omega, fun i a b => by omega, fun _ => q⟩
def smC (c : Nat) : Prop := 97 ≤ c ∧ c ≤ 122
def dgC (c : Nat) : Prop := 48 ≤ c ∧ c ≤ 57
def rnC (c : Nat) : Prop := smC c ∨ dgC c
def nlN (t : Nat → Nat) (a : Nat) : Nat → Nat
  | 0 => 0
  | i + 1 => nlN t a i + (if 97 ≤ t (a + i) ∧ t (a + i) ≤ 122 then 1 else 0)
theorem nl_s {t : Nat → Nat} {a i : Nat} (h : smC (t (a + i))) : nlN t a (i + 1) = nlN t a i + 1 := by
  show nlN t a i + _ = _
  rw [if_pos (show 97 ≤ t (a + i) ∧ t (a + i) ≤ 122 from h)]
theorem nl_n {t : Nat → Nat} {a i : Nat} (h : ¬ smC (t (a + i))) : nlN t a (i + 1) = nlN t a i := by
  show nlN t a i + _ = _
  rw [if_neg (show ¬ (97 ≤ t (a + i) ∧ t (a + i) ≤ 122) from h)]
  rfl
theorem nl_le (t : Nat → Nat) (a : Nat) : ∀ i, nlN t a i ≤ i
  | 0 => Nat.le_refl _
  | i + 1 => by
    have := nl_le t a i
    by_cases h : smC (t (a + i))
    · rw [nl_s h]; omega
    · rw [nl_n h]; omega
def pkT (t : Nat → Nat) (a : Nat) : Nat → Nat
  | 0 => 0
  | i + 1 => pkT t a i + (t (a + i) - 97 + 1) * 2 ^ (5 * i)
def nmT (t : Nat → Nat) (a : Nat) : Nat → Nat
  | 0 => 0
  | i + 1 => nmT t a i * 10 + t (a + i) - 48
def kdN (t : Nat → Nat) (a x : Nat) : Nat := if nlN t a (x - a) = x - a then (if x - a ≤ 6 then 2 else 0) else if nlN t a (x - a) = 0 then (if x - a ≤ 2 then 3 else 0) else 0
def Tok (t : Nat → Nat) (n p a x k : Nat) : Prop := Sc (fun c => c = 32) t n p a ∧ ((a = n ∧ x = a ∧ k = 1) ∨ (a < n ∧ ¬ rnC (t a) ∧ x = a + 1 ∧ ((t a = 59 ∨ t a = 91 ∨ t a = 93) ∧ k = t a ∨ ¬ (t a = 59 ∨ t a = 91 ∨ t a = 93) ∧ k = 0)) ∨ (a < n ∧ rnC (t a) ∧ Sc rnC t n a x ∧ k = kdN t a x))
theorem tok_ex {t : Nat → Nat} {n p : Nat} (h : p ≤ n) : ∃ a x k, Tok t n p a x k ∧ a ≤ x ∧ x ≤ n := by
  obtain ⟨a, ha⟩ := sc_ex (fun c => c = 32) t n (n - p) p (by omega)
  by_cases q : a = n
  · exact ⟨a, a, 1, ⟨ha, Or.inl ⟨q, rfl, rfl⟩⟩, Nat.le_refl _, ha.2.1⟩
  · have hn : a < n := by have := ha.2.1; omega
    by_cases r : rnC (t a)
    · obtain ⟨x, hx⟩ := sc_ex rnC t n (n - a) a (by omega)
      exact ⟨a, x, _, ⟨ha, Or.inr (Or.inr ⟨hn, r, hx, rfl⟩)⟩, hx.1, hx.2.1⟩
    · by_cases s : t a = 59 ∨ t a = 91 ∨ t a = 93
      · exact ⟨a, a + 1, t a, ⟨ha, Or.inr (Or.inl ⟨hn, r, rfl, Or.inl ⟨s, rfl⟩⟩)⟩, by omega, by omega⟩
      · exact ⟨a, a + 1, 0, ⟨ha, Or.inr (Or.inl ⟨hn, r, rfl, Or.inr ⟨s, rfl⟩⟩)⟩, by omega, by omega⟩
def TpC (o : Ob) (t : Nat → Nat) (n : Nat) : Prop := o 1 0 = nI n ∧ n ≤ 400 ∧ ∀ i, i < n → t i < 256 ∧ o 0 i = nI (t i)
theorem TpC_fr {o o' : Ob} {t : Nat → Nat} {n : Nat} (h : TpC o t n) (h0 : o' 0 = o 0) (h1 : o' 1 = o 1) : TpC o' t n := by
  unfold TpC
  rw [h0, h1]
  exact h
theorem e_shlN {a k : Nat} (hk : k < 31) (ha : a * 2 ^ k < 4294967296) : nI a <<< (nI k &&& nI 31) = nI (a * 2 ^ k) := by
  rw [q_31 (by omega), pk_shlN (nI k) k (q_sm k (by omega)) (by omega)]
theorem pkT_lt {t : Nat → Nat} {a : Nat} : ∀ {i : Nat}, nlN t a i = i → pkT t a i < 2 ^ (5 * i)
  | 0, _ => Nat.zero_lt_one
  | i + 1, h => by
    have hle := nl_le t a i
    by_cases q : smC (t (a + i))
    · rw [nl_s q] at h
      have ih := pkT_lt (t := t) (a := a) (i := i) (by omega)
      show pkT t a i + (t (a + i) - 97 + 1) * 2 ^ (5 * i) < 2 ^ (5 * (i + 1))
      have hq := q.2
      have e : 2 ^ (5 * (i + 1)) = 32 * 2 ^ (5 * i) := by rw [Nat.mul_add, Nat.pow_add, Nat.mul_comm]
      have m : (t (a + i) - 97 + 1) * 2 ^ (5 * i) ≤ 31 * 2 ^ (5 * i) := Nat.mul_le_mul_right _ (by omega)
      omega
    · rw [nl_n q] at h
      omega
def TkC (o : Ob) (t : Nat → Nat) (a x k : Nat) : Prop := o 14 0 = nI a ∧ o 15 0 = nI x ∧ o 13 0 = nI k ∧ (k = 2 → o 16 0 = nI (pkT t a (x - a))) ∧ (k = 3 → o 16 0 = nI (nmT t a (x - a)))
theorem c_readRun {o : Ob} {t : Nat → Nat} {n a x : Nat} (hT : TpC o t n) (h15 : o 15 0 = nI a) (hS : Sc rnC t n a x) : Ok (f_X6_readRun o) (fun o' => (∀ j, j ≠ 13 → j ≠ 15 → j ≠ 16 → o' j = o j) ∧ o' 15 0 = nI x ∧ o' 13 0 = nI (kdN t a x) ∧ (kdN t a x = 2 → o' 16 0 = nI (pkT t a (x - a))) ∧ (kdN t a x = 3 → o' 16 0 = nI (nmT t a (x - a)))) := by
  obtain ⟨s1, s2, s3, s4⟩ := hS
  have hn := hT.2.1
  unfold f_X6_readRun
  simp (maxSteps := 3000000) (disch := omega) only [↓nx_q, q_lit]
  rw [ok_zb3]
  refine ok_mono (ok_zl3 (Q := fun r => (∀ j, j ≠ 15 → j ≠ 16 → r.1 j = o j) ∧ r.1 15 0 = nI x ∧ r.2.1 = nI (nlN t a (x - a)) ∧ r.2.2 = nI (x - a - nlN t a (x - a)) ∧ (nlN t a (x - a) = x - a → x - a ≤ 6 → r.1 16 0 = nI (pkT t a (x - a))) ∧ (nlN t a (x - a) = 0 → x - a ≤ 2 → r.1 16 0 = nI (nmT t a (x - a)))) (fun i o' k1 k2 => (∀ j, j ≠ 15 → j ≠ 16 → o' j = o j) ∧ o' 15 0 = nI (a + i) ∧ k1 = nI (nlN t a i) ∧ k2 = nI (i - nlN t a i) ∧ (nlN t a i = i → i ≤ 6 → o' 16 0 = nI (pkT t a i)) ∧ (nlN t a i = 0 → i ≤ 2 → o' 16 0 = nI (nmT t a i))) (x - a) (fun i o1 k1 k2 hi hI => ?_) (fu_lt (by omega)) ⟨fun j _ y => by simp (disch := omega) only [si_eq, si_ne, sa_eq, sa_ne, upd_eq, upd_ne, updN_eq, updN_ne], by simp (disch := omega) only [si_eq, si_ne, sa_eq, sa_ne, upd_eq, upd_ne, updN_eq, updN_ne]; exact h15, rfl, rfl, fun _ _ => by simp (disch := omega) only [si_eq, si_ne, sa_eq, sa_ne, upd_eq, upd_ne, updN_eq, updN_ne]; rfl, fun _ _ => by simp (disch := omega) only [si_eq, si_ne, sa_eq, sa_ne, upd_eq, upd_ne, updN_eq, updN_ne]; rfl⟩) (fun r hr => ?_)
  · obtain ⟨fr, f15, rfl, rfl, fp, fn⟩ := hI
    have f1 : o1 1 0 = nI n := by rw [fr 1 (by decide) (by decide)]; exact hT.1
    have hnl := nl_le t a i
    by_cases q : i = x - a
    · have e : a + i = x := by omega
      by_cases z : x = n
      · simp (maxSteps := 3000000) (disch := omega) only [↓nx_q, zb0_s, zb1_s, zb2_s, zb3_s, zb4_s, zb5_s, zb6_s, zb7_s, zb8_s, zb9_s, zb10_s, zb11_s, zb12_s, zb13_s, zb14_s, q_lit, nI_add, pk_mul, e_cl, gi_in, gz_n0, gz_n1, e_gz, si_eq, si_ne, sa_eq, sa_ne, if_true, if_false, ↓reduceIte, k_ltT, k_ltF, k_leT, k_leF, k_eqT, k_eqF, k_m1lt, k_nm1, not_true_eq_false, not_false_eq_true, f1, f15]
        subst q
        rw [e] at f15
        exact ⟨_, rfl, fr, f15, rfl, rfl, fp, fn⟩
      · have hz := s4 (by omega)
        obtain ⟨c1, c2⟩ := hT.2.2 x (by omega)
        have c2' : o1 0 x = nI (t x) := by rw [fr 0 (by decide) (by decide)]; exact c2
        have h1 : t x < 97 ∨ 122 < t x := by
          refine Classical.byContradiction fun y => hz (Or.inl ⟨by omega, by omega⟩)
        have h2 : t x < 48 ∨ 57 < t x := by
          refine Classical.byContradiction fun y => hz (Or.inr ⟨by omega, by omega⟩)
        rw [e] at f15
        have res : ∃ y, (some (Sum.inr (o1, nI (nlN t a i), nI (i - nlN t a i))) : Option ((Ob × Int32 × Int32) ⊕ (Ob × Int32 × Int32))) = some y ∧ Lp (fun p => i < x - a ∧ (∀ j, j ≠ 15 → j ≠ 16 → p.1 j = o j) ∧ p.1 15 0 = nI (a + (i + 1)) ∧ p.2.1 = nI (nlN t a (i + 1)) ∧ p.2.2 = nI (i + 1 - nlN t a (i + 1)) ∧ (nlN t a (i + 1) = i + 1 → i + 1 ≤ 6 → p.1 16 0 = nI (pkT t a (i + 1))) ∧ (nlN t a (i + 1) = 0 → i + 1 ≤ 2 → p.1 16 0 = nI (nmT t a (i + 1)))) (fun r => (∀ j, j ≠ 15 → j ≠ 16 → r.1 j = o j) ∧ r.1 15 0 = nI x ∧ r.2.1 = nI (nlN t a (x - a)) ∧ r.2.2 = nI (x - a - nlN t a (x - a)) ∧ (nlN t a (x - a) = x - a → x - a ≤ 6 → r.1 16 0 = nI (pkT t a (x - a))) ∧ (nlN t a (x - a) = 0 → x - a ≤ 2 → r.1 16 0 = nI (nmT t a (x - a)))) y := by
          subst q
          exact ⟨_, rfl, fr, f15, rfl, rfl, fp, fn⟩
        rcases h1 with h1 | h1
        · rcases h2 with h2 | h2
          · simp (maxSteps := 3000000) (disch := omega) only [↓nx_q, zb0_s, zb1_s, zb2_s, zb3_s, zb4_s, zb5_s, zb6_s, zb7_s, zb8_s, zb9_s, zb10_s, zb11_s, zb12_s, zb13_s, zb14_s, q_lit, nI_add, pk_mul, e_cl, gi_in, gz_n0, gz_n1, e_gz, si_eq, si_ne, sa_eq, sa_ne, if_true, if_false, ↓reduceIte, k_ltT, k_ltF, k_leT, k_leF, k_eqT, k_eqF, k_m1lt, k_nm1, not_true_eq_false, not_false_eq_true, f1, f15, c2']
            exact res
          · simp (maxSteps := 3000000) (disch := omega) only [↓nx_q, zb0_s, zb1_s, zb2_s, zb3_s, zb4_s, zb5_s, zb6_s, zb7_s, zb8_s, zb9_s, zb10_s, zb11_s, zb12_s, zb13_s, zb14_s, q_lit, nI_add, pk_mul, e_cl, gi_in, gz_n0, gz_n1, e_gz, si_eq, si_ne, sa_eq, sa_ne, if_true, if_false, ↓reduceIte, k_ltT, k_ltF, k_leT, k_leF, k_eqT, k_eqF, k_m1lt, k_nm1, not_true_eq_false, not_false_eq_true, f1, f15, c2']
            exact res
        · rcases h2 with h2 | h2
          · omega
          · simp (maxSteps := 3000000) (disch := omega) only [↓nx_q, zb0_s, zb1_s, zb2_s, zb3_s, zb4_s, zb5_s, zb6_s, zb7_s, zb8_s, zb9_s, zb10_s, zb11_s, zb12_s, zb13_s, zb14_s, q_lit, nI_add, pk_mul, e_cl, gi_in, gz_n0, gz_n1, e_gz, si_eq, si_ne, sa_eq, sa_ne, if_true, if_false, ↓reduceIte, k_ltT, k_ltF, k_leT, k_leF, k_eqT, k_eqF, k_m1lt, k_nm1, not_true_eq_false, not_false_eq_true, f1, f15, c2']
            exact res
    · obtain ⟨c1, c2⟩ := hT.2.2 (a + i) (by omega)
      have c2' : o1 0 (a + i) = nI (t (a + i)) := by rw [fr 0 (by decide) (by decide)]; exact c2
      by_cases b : smC (t (a + i))
      · have b1 := b.1
        have b2 := b.2
        have en := nl_s b
        simp (maxSteps := 3000000) (disch := omega) only [↓nx_q, zb0_s, zb1_s, zb2_s, zb3_s, zb4_s, zb5_s, zb6_s, zb7_s, zb8_s, zb9_s, zb10_s, zb11_s, zb12_s, zb13_s, zb14_s, q_lit, nI_add, pk_mul, e_cl, gi_in, gz_n0, gz_n1, e_gz, si_eq, si_ne, sa_eq, sa_ne, if_true, if_false, ↓reduceIte, k_ltT, k_ltF, k_leT, k_leF, k_eqT, k_eqF, k_m1lt, k_nm1, not_true_eq_false, not_false_eq_true, f1, f15, c2', e_sub]
        refine ⟨_, rfl, by omega, fun j x y => ?_, ?_, ?_, ?_, fun w z => ?_, fun w => ?_⟩
        · simp (disch := omega) only [si_eq, si_ne, sa_eq, sa_ne, upd_eq, upd_ne, updN_eq, updN_ne]; exact fr j x y
        · simp (disch := omega) only [si_eq, si_ne, sa_eq, sa_ne, upd_eq, upd_ne, updN_eq, updN_ne]; rfl
        · rw [en]
        · show nI _ = nI _
          rw [en]; exact congrArg nI (by omega)
        · rw [en] at w
          have ew : nlN t a i = i := by omega
          have fp' := fp ew (by omega)
          simp (disch := omega) only [si_eq, si_ne, sa_eq, sa_ne, upd_eq, upd_ne, updN_eq, updN_ne]
          rw [fp', ew, e_shlN (by omega) (Nat.lt_of_le_of_lt (Nat.mul_le_mul (show t (a + i) - 97 + 1 ≤ 26 by omega) (pw_le (show 5 * i ≤ 25 by omega))) (by decide)), nI_add]
          rfl
        · rw [en] at w; omega
      · have bd : dgC (t (a + i)) := by
          rcases s3 (a + i) (by omega) (by omega) with h | h
          · exact absurd h b
          · exact h
        have b1 := bd.1
        have b2 := bd.2
        have en := nl_n b
        simp (maxSteps := 3000000) (disch := omega) only [↓nx_q, zb0_s, zb1_s, zb2_s, zb3_s, zb4_s, zb5_s, zb6_s, zb7_s, zb8_s, zb9_s, zb10_s, zb11_s, zb12_s, zb13_s, zb14_s, q_lit, nI_add, pk_mul, e_cl, gi_in, gz_n0, gz_n1, e_gz, si_eq, si_ne, sa_eq, sa_ne, if_true, if_false, ↓reduceIte, k_ltT, k_ltF, k_leT, k_leF, k_eqT, k_eqF, k_m1lt, k_nm1, not_true_eq_false, not_false_eq_true, f1, f15, c2']
        refine ⟨_, rfl, by omega, fun j x y => ?_, ?_, ?_, ?_, fun w => ?_, fun w z => ?_⟩
        · simp (disch := omega) only [si_eq, si_ne, sa_eq, sa_ne, upd_eq, upd_ne, updN_eq, updN_ne]; exact fr j x y
        · simp (disch := omega) only [si_eq, si_ne, sa_eq, sa_ne, upd_eq, upd_ne, updN_eq, updN_ne]; rfl
        · rw [en]
        · show nI _ = nI _
          rw [en]; exact congrArg nI (by omega)
        · rw [en] at w; omega
        · rw [en] at w
          have fn' := fn w (by omega)
          simp (disch := omega) only [si_eq, si_ne, sa_eq, sa_ne, upd_eq, upd_ne, updN_eq, updN_ne]
          rw [fn', pk_mul, nI_add, e_sub (by omega)]
          rfl
  · obtain ⟨fr, f15, k1, k2, fp, fn⟩ := hr
    obtain ⟨o1, r1, r2⟩ := r
    dsimp only at fr f15 k1 k2 fp fn
    subst k1 k2
    have hnl := nl_le t a (x - a)
    have out : ∀ k, k = kdN t a x → ((k = 2 → o1 16 0 = nI (pkT t a (x - a))) ∧ (k = 3 → o1 16 0 = nI (nmT t a (x - a)))) → Ok (some (si o1 13 (nI k))) (fun o' => (∀ j, j ≠ 13 → j ≠ 15 → j ≠ 16 → o' j = o j) ∧ o' 15 0 = nI x ∧ o' 13 0 = nI (kdN t a x) ∧ (kdN t a x = 2 → o' 16 0 = nI (pkT t a (x - a))) ∧ (kdN t a x = 3 → o' 16 0 = nI (nmT t a (x - a)))) := by
      intro k hk h
      subst hk
      refine ⟨_, rfl, fun j a b c => ?_, ?_, ?_, fun e => ?_, fun e => ?_⟩
      · simp (disch := omega) only [si_eq, si_ne, sa_eq, sa_ne, upd_eq, upd_ne, updN_eq, updN_ne]; exact fr j b c
      · simp (disch := omega) only [si_eq, si_ne, sa_eq, sa_ne, upd_eq, upd_ne, updN_eq, updN_ne]; exact f15
      · simp (disch := omega) only [si_eq, si_ne, sa_eq, sa_ne, upd_eq, upd_ne, updN_eq, updN_ne]
      · simp (disch := omega) only [si_eq, si_ne, sa_eq, sa_ne, upd_eq, upd_ne, updN_eq, updN_ne]; exact h.1 e
      · simp (disch := omega) only [si_eq, si_ne, sa_eq, sa_ne, upd_eq, upd_ne, updN_eq, updN_ne]; exact h.2 e
    by_cases q : nlN t a (x - a) = x - a
    · by_cases q6 : x - a ≤ 6
      · simp (maxSteps := 3000000) (disch := omega) only [↓nx_q, zb0_s, zb1_s, zb2_s, zb3_s, zb4_s, zb5_s, zb6_s, zb7_s, zb8_s, zb9_s, zb10_s, zb11_s, zb12_s, zb13_s, zb14_s, q_lit, nI_add, pk_mul, e_cl, gi_in, gz_n0, gz_n1, e_gz, si_eq, si_ne, sa_eq, sa_ne, if_true, if_false, ↓reduceIte, k_ltT, k_ltF, k_leT, k_leF, k_eqT, k_eqF, k_m1lt, k_nm1, not_true_eq_false, not_false_eq_true]
        refine out 2 (by unfold kdN; rw [if_pos q, if_pos q6]) ⟨fun _ => fp q q6, fun e => by omega⟩
      · simp (maxSteps := 3000000) (disch := omega) only [↓nx_q, zb0_s, zb1_s, zb2_s, zb3_s, zb4_s, zb5_s, zb6_s, zb7_s, zb8_s, zb9_s, zb10_s, zb11_s, zb12_s, zb13_s, zb14_s, q_lit, nI_add, pk_mul, e_cl, gi_in, gz_n0, gz_n1, e_gz, si_eq, si_ne, sa_eq, sa_ne, if_true, if_false, ↓reduceIte, k_ltT, k_ltF, k_leT, k_leF, k_eqT, k_eqF, k_m1lt, k_nm1, not_true_eq_false, not_false_eq_true]
        refine out 0 (by unfold kdN; rw [if_pos q, if_neg q6]) ⟨fun e => by omega, fun e => by omega⟩
    · by_cases q0 : nlN t a (x - a) = 0
      · by_cases q2 : x - a ≤ 2
        · simp (maxSteps := 3000000) (disch := omega) only [↓nx_q, zb0_s, zb1_s, zb2_s, zb3_s, zb4_s, zb5_s, zb6_s, zb7_s, zb8_s, zb9_s, zb10_s, zb11_s, zb12_s, zb13_s, zb14_s, q_lit, nI_add, pk_mul, e_cl, gi_in, gz_n0, gz_n1, e_gz, si_eq, si_ne, sa_eq, sa_ne, if_true, if_false, ↓reduceIte, k_ltT, k_ltF, k_leT, k_leF, k_eqT, k_eqF, k_m1lt, k_nm1, not_true_eq_false, not_false_eq_true]
          refine out 3 (by unfold kdN; rw [if_neg q, if_pos q0, if_pos q2]) ⟨fun e => by omega, fun _ => fn q0 q2⟩
        · simp (maxSteps := 3000000) (disch := omega) only [↓nx_q, zb0_s, zb1_s, zb2_s, zb3_s, zb4_s, zb5_s, zb6_s, zb7_s, zb8_s, zb9_s, zb10_s, zb11_s, zb12_s, zb13_s, zb14_s, q_lit, nI_add, pk_mul, e_cl, gi_in, gz_n0, gz_n1, e_gz, si_eq, si_ne, sa_eq, sa_ne, if_true, if_false, ↓reduceIte, k_ltT, k_ltF, k_leT, k_leF, k_eqT, k_eqF, k_m1lt, k_nm1, not_true_eq_false, not_false_eq_true]
          refine out 0 (by unfold kdN; rw [if_neg q, if_pos q0, if_neg q2]) ⟨fun e => by omega, fun e => by omega⟩
      · simp (maxSteps := 3000000) (disch := omega) only [↓nx_q, zb0_s, zb1_s, zb2_s, zb3_s, zb4_s, zb5_s, zb6_s, zb7_s, zb8_s, zb9_s, zb10_s, zb11_s, zb12_s, zb13_s, zb14_s, q_lit, nI_add, pk_mul, e_cl, gi_in, gz_n0, gz_n1, e_gz, si_eq, si_ne, sa_eq, sa_ne, if_true, if_false, ↓reduceIte, k_ltT, k_ltF, k_leT, k_leF, k_eqT, k_eqF, k_m1lt, k_nm1, not_true_eq_false, not_false_eq_true]
        refine out 0 (by unfold kdN; rw [if_neg q, if_neg q0]) ⟨fun e => by omega, fun e => by omega⟩
