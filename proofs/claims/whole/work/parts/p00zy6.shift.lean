/-! ===== shift ===== -/
def mv1 (p : (Nat → Nat) × PQ) (k : Nat) : (Nat → Nat) × PQ := if (p.1 3).testBit k = true then (dnS p.1 k, pst p.2 (2, k, p.1 (8 + k))) else (upS p.1 k, pst p.2 (3, k, p.1 (16 + k)))
def mvA (m : Nat) (p : (Nat → Nat) × PQ) : Nat → (Nat → Nat) × PQ
  | 0 => p
  | i + 1 => if m.testBit i = true then mv1 (mvA m p i) i else mvA m p i
theorem mvA_y {m : Nat} {p : (Nat → Nat) × PQ} {i : Nat} (h : m.testBit i = true) : mvA m p (i + 1) = mv1 (mvA m p i) i := if_pos h
theorem mvA_n {m : Nat} {p : (Nat → Nat) × PQ} {i : Nat} (h : ¬ m.testBit i = true) : mvA m p (i + 1) = mvA m p i := if_neg h
theorem mv1_y {p : (Nat → Nat) × PQ} {k : Nat} (h : (p.1 3).testBit k = true) : mv1 p k = (dnS p.1 k, pst p.2 (2, k, p.1 (8 + k))) := if_pos h
theorem mv1_n {p : (Nat → Nat) × PQ} {k : Nat} (h : (p.1 3).testBit k = false) : mv1 p k = (upS p.1 k, pst p.2 (3, k, p.1 (16 + k))) := if_neg (by rw [h]; decide)
theorem mv1_fr {p : (Nat → Nat) × PQ} {k : Nat} (hk : k < 8) : ∀ j, j ≠ 3 → (j < 32 ∨ 48 ≤ j) → (mv1 p k).1 j = p.1 j := by
  intro j a b
  cases h : (p.1 3).testBit k
  · rw [mv1_n h]; exact up_mv hk j a b
  · rw [mv1_y h]; exact dn_mv hk j a b
theorem mvA_fr {m : Nat} {p : (Nat → Nat) × PQ} : ∀ {i : Nat}, i ≤ 8 → ∀ j, j ≠ 3 → (j < 32 ∨ 48 ≤ j) → (mvA m p i).1 j = p.1 j
  | 0, _, _, _, _ => rfl
  | i + 1, h, j, a, b => by
    by_cases q : m.testBit i = true
    · rw [mvA_y q, mv1_fr (by omega) j a b]
      exact mvA_fr (by omega) j a b
    · rw [mvA_n q]
      exact mvA_fr (by omega) j a b
theorem mv1_3 {p : (Nat → Nat) × PQ} {k : Nat} (hk : k < 8) (hp : p.1 3 < 256) : (mv1 p k).1 3 < 256 ∧ ∀ j, ((mv1 p k).1 3).testBit j = ((p.1 3).testBit j ^^ decide (k = j)) := by
  have p8 : 2 ^ k < 2 ^ 8 := pw_lt hk
  cases h : (p.1 3).testBit k
  · rw [mv1_n h]
    have e : upS p.1 k 3 = p.1 3 ||| 2 ^ k := by
      unfold upS
      simp (disch := omega) only [si_eq, si_ne, sa_eq, sa_ne, upd_eq, upd_ne, updN_eq, updN_ne]
    refine ⟨by show upS p.1 k 3 < 256; rw [e]; exact or_lt (n := 8) hp p8, fun j => ?_⟩
    show (upS p.1 k 3).testBit j = _
    rw [e, Nat.testBit_or, tb_pow]
    by_cases q : k = j
    · subst q; simp [h]
    · simp [q]
  · rw [mv1_y h]
    have e : dnS p.1 k 3 = andn (p.1 3) (2 ^ k) := by
      unfold dnS
      simp (disch := omega) only [si_eq, si_ne, sa_eq, sa_ne, upd_eq, upd_ne, updN_eq, updN_ne]
    refine ⟨by show dnS p.1 k 3 < 256; rw [e]; have := andn_le (p.1 3) (2 ^ k); omega, fun j => ?_⟩
    show (dnS p.1 k 3).testBit j = _
    rw [e, tb_andn (by omega), tb_pow]
    by_cases q : k = j
    · subst q; simp [h]
    · simp [q]
theorem mvA_3 {m : Nat} {p : (Nat → Nat) × PQ} (hp : p.1 3 < 256) : ∀ {i : Nat}, i ≤ 8 → (mvA m p i).1 3 < 256 ∧ ∀ j, ((mvA m p i).1 3).testBit j = ((p.1 3).testBit j ^^ (m.testBit j && decide (j < i)))
  | 0, _ => ⟨hp, fun j => by
    show (p.1 3).testBit j = _
    simp⟩
  | i + 1, h => by
    obtain ⟨a, b⟩ := mvA_3 (m := m) hp (i := i) (by omega)
    by_cases q : m.testBit i = true
    · rw [mvA_y q]
      obtain ⟨c, d⟩ := mv1_3 (p := mvA m p i) (k := i) (by omega) a
      refine ⟨c, fun j => ?_⟩
      rw [d j, b j]
      by_cases e : i = j
      · subst e
        simp [q]
      · by_cases e2 : j < i
        · simp [e, e2, show j < i + 1 by omega]
        · simp [e, e2, show ¬ j < i + 1 by omega]
    · rw [mvA_n q]
      refine ⟨a, fun j => ?_⟩
      rw [b j]
      by_cases e : i = j
      · subst e
        simp [q]
      · by_cases e2 : j < i
        · simp [e2, show j < i + 1 by omega]
        · simp [e2, show ¬ j < i + 1 by omega]
theorem mvA_at {m : Nat} {p : (Nat → Nat) × PQ} (hp : p.1 3 < 256) {i : Nat} (h : i ≤ 8) : ((mvA m p i).1 3).testBit i = (p.1 3).testBit i := by
  rw [(mvA_3 hp h).2 i]
  simp
theorem mvA_end {m : Nat} {p : (Nat → Nat) × PQ} (hp : p.1 3 < 256) {n : Nat} (h : n ≤ 8) (hm : m < 2 ^ n) : (mvA m p n).1 3 = p.1 3 ^^^ m := by
  refine tb_ext fun j => ?_
  rw [(mvA_3 hp h).2 j, Nat.testBit_xor]
  by_cases e : j < n
  · simp [e]
  · rw [tb_big hm (by omega)]
    simp
theorem WF_256 {σ : Nat → Nat} (hW : WF σ) : σ 3 < 256 := Nat.lt_of_lt_of_le hW.1.2.1 (pw8 hW.1.1)
theorem mvA_dn {m : Nat} {p : (Nat → Nat) × PQ} (hW : WF p.1) (hm : Sb m (p.1 3)) : ∀ i, i ≤ p.1 2 → WF (mvA m p i).1 := by
  have h8 := hW.1.1
  have h256 := WF_256 hW
  intro i
  induction i with
  | zero => intro _; exact hW
  | succ i ih =>
    intro h
    have hi := ih (by omega)
    by_cases q : m.testBit i = true
    · have b := mvA_at (m := m) h256 (i := i) (by omega)
      rw [hm i q] at b
      rw [mvA_y q, mv1_y b]
      exact WF_dn hi (by rw [mvA_fr (by omega) 2 (by decide) (by omega)]; omega) b
    · rw [mvA_n q]
      exact hi
theorem mvA_up {m : Nat} {p : (Nat → Nat) × PQ} (hW : WF p.1) (hm : ∀ j, m.testBit j = true → (p.1 3).testBit j = false) (hs : szS p.1 (p.1 3 ^^^ m) ≤ p.1 0) : ∀ i, i ≤ p.1 2 → WF (mvA m p i).1 := by
  have h8 := hW.1.1
  have h256 := WF_256 hW
  intro i
  induction i with
  | zero => intro _; exact hW
  | succ i ih =>
    intro h
    have hi := ih (by omega)
    by_cases q : m.testBit i = true
    · have b := mvA_at (m := m) h256 (i := i) (by omega)
      rw [hm i q] at b
      have f2 := mvA_fr (m := m) (p := p) (i := i) (by omega) 2 (by decide) (by omega)
      have f0 := mvA_fr (m := m) (p := p) (i := i) (by omega) 0 (by decide) (by omega)
      rw [mvA_y q, mv1_n b]
      refine WF_up hi (by rw [f2]; omega) b ?_
      rw [f0]
      refine Nat.le_trans ?_ hs
      have e1 : liesN (mvA m p i).1 + (mvA m p i).1 (8 + i) = sumB (szN (mvA m p i).1) ((mvA m p i).1 3 ||| 2 ^ i) (p.1 2) := by
        rw [sumB_set (by omega) b]
        show sumB _ _ _ + _ = _
        rw [f2]
      rw [e1]
      unfold szS
      rw [sumB_congr (w' := szN p.1) (fun _ _ => rfl) (fun k hk _ => mvA_fr (by omega) (8 + k) (by omega) (by omega))]
      refine sumB_mono fun k hk y => ?_
      rw [Nat.testBit_or, (mvA_3 h256 (i := i) (by omega)).2 k, tb_pow] at y
      rw [Nat.testBit_xor]
      by_cases e : i = k
      · subst e
        rw [q, hm i q]; rfl
      · cases z : m.testBit k
        · simpa [e, z] using y
        · rw [hm k z]; rfl
    · rw [mvA_n q]
      exact hi
theorem c_mv1 {o w s l b0 b1 b2 d g : Ob} {p : (Nat → Nat) × PQ} {k : Nat} (h : CS o w s l b0 b1 b2 g p.1 p.2) (hw : WF p.1) (hk : k < p.1 2) : Ok (f_X9_move o w s b0 b1 b2 d g (nI k)) (fun r => CS r.1 w r.2.1 l r.2.2.1 r.2.2.2.1 r.2.2.2.2.1 r.2.2.2.2.2.2 (mv1 p k).1 (mv1 p k).2) := by
  cases b : (p.1 3).testBit k
  · rw [mv1_n b]
    exact move_up h hw hk b
  · rw [mv1_y b]
    exact move_dn h hw hk b
theorem c_moveAll {o w s l b0 b1 b2 d g : Ob} {p : (Nat → Nat) × PQ} {m : Nat} (h : CS o w s l b0 b1 b2 g p.1 p.2) (hm : m < 256) (hW : ∀ i, i ≤ p.1 2 → WF (mvA m p i).1) : Ok (f_X11_moveAll o w s b0 b1 b2 g d (nI m)) (fun r => CS r.1 w r.2.1 l r.2.2.1 r.2.2.2.1 r.2.2.2.2.1 r.2.2.2.2.2.1 (mvA m p (p.1 2)).1 (mvA m p (p.1 2)).2) := by
  have hw := hW 0 (Nat.zero_le _)
  have h8 : p.1 2 ≤ 8 := hw.1.1
  have w0 : w 0 0 = nI (p.1 2) := h.2.2.1.1
  unfold f_X11_moveAll
  rw [ok_zb7]
  refine ok_mono (ok_zl8 (Q := fun r => CS r.1 w r.2.1 l r.2.2.1 r.2.2.2.1 r.2.2.2.2.1 r.2.2.2.2.2.1 (mvA m p (p.1 2)).1 (mvA m p (p.1 2)).2) (fun i a0 a1 a2 a3 a4 a5 _ k => k = nI i ∧ CS a0 w a1 l a2 a3 a4 a5 (mvA m p i).1 (mvA m p i).2) (p.1 2) (fun i a0 a1 a2 a3 a4 a5 a6 k hi hI => ?_) (fu_lt (by omega)) ⟨rfl, h⟩) (fun y hy => ok_some.mpr hy)
  obtain ⟨rfl, hC⟩ := hI
  by_cases q : i = p.1 2
  · simp (maxSteps := 3000000) (disch := omega) only [↓nx_q, zb0_s, zb1_s, zb2_s, zb3_s, zb4_s, zb5_s, zb6_s, zb7_s, zb8_s, zb9_s, zb10_s, zb11_s, zb12_s, zb13_s, zb14_s, q_lit, nI_add, pk_mul, e_cl, gi_in, gz_n0, gz_n1, e_gz, si_eq, si_ne, sa_eq, sa_ne, if_true, if_false, ↓reduceIte, k_ltT, k_ltF, k_leT, k_leF, k_eqT, k_eqF, k_m1lt, k_nm1, not_true_eq_false, not_false_eq_true, w0]
    subst q
    exact ⟨_, rfl, hC⟩
  · by_cases b : m.testBit i = true
    · simp (maxSteps := 3000000) (disch := omega) only [↓nx_q, zb0_s, zb1_s, zb2_s, zb3_s, zb4_s, zb5_s, zb6_s, zb7_s, zb8_s, zb9_s, zb10_s, zb11_s, zb12_s, zb13_s, zb14_s, q_lit, nI_add, pk_mul, e_cl, gi_in, gz_n0, gz_n1, e_gz, si_eq, si_ne, sa_eq, sa_ne, if_true, if_false, ↓reduceIte, k_ltT, k_ltF, k_leT, k_leF, k_eqT, k_eqF, k_m1lt, k_nm1, not_true_eq_false, not_false_eq_true, w0, e_bitv, if_pos b]
      rw [ok_zb7]
      refine ok_mono (c_mv1 hC (hW i (by omega)) (by rw [mvA_fr (by omega) 2 (by decide) (by omega)]; omega)) (fun y hy => ⟨_, rfl, by omega, rfl, ?_⟩)
      rw [mvA_y b]
      exact hy
    · simp (maxSteps := 3000000) (disch := omega) only [↓nx_q, zb0_s, zb1_s, zb2_s, zb3_s, zb4_s, zb5_s, zb6_s, zb7_s, zb8_s, zb9_s, zb10_s, zb11_s, zb12_s, zb13_s, zb14_s, q_lit, nI_add, pk_mul, e_cl, gi_in, gz_n0, gz_n1, e_gz, si_eq, si_ne, sa_eq, sa_ne, if_true, if_false, ↓reduceIte, k_ltT, k_ltF, k_leT, k_leF, k_eqT, k_eqF, k_m1lt, k_nm1, not_true_eq_false, not_false_eq_true, w0, e_bitv, if_neg b]
      refine ⟨_, rfl, by omega, rfl, ?_⟩
      rw [mvA_n b]
      exact hC
