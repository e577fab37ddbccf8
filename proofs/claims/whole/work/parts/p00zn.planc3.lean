/-- where a row lies -/
def rix (kp : Bool) (n : Nat) : Nat := if kp then 256 * n else 256 * (n % 2)
theorem c_row {p : Ob} {kp : Bool} {n : Nat} (h0 : p 0 0 = if kp then nI 1 else nI 0) (hn : n ≤ 41) : f_X5_row p (nI n) = some (nI (rix kp n)) := by
  unfold f_X5_row rix
  cases kp
  · rw [h0]
    simp (maxSteps := 3000000) (disch := omega) only [↓nx_q, zb0_s, zb1_s, zb2_s, zb3_s, zb4_s, zb5_s, zb6_s, zb7_s, zb8_s, zb9_s, zb10_s, zb11_s, zb12_s, zb13_s, zb14_s, q_lit, nI_add, pk_mul, e_cl, gi_in, gz_n0, gz_n1, e_gz, si_eq, si_ne, sa_eq, sa_ne, if_true, if_false, ↓reduceIte, k_ltT, k_ltF, k_leT, k_leF, k_eqT, k_eqF, k_m1lt, k_nm1, not_true_eq_false, not_false_eq_true, q_and]
    rw [show (1 : Nat) = 2 ^ 1 - 1 from rfl, Nat.and_two_pow_sub_one_eq_mod]
    refine congrArg some (congrArg nI ?_)
    rw [if_neg (by decide), Nat.mul_comm]
  · rw [h0]
    simp (maxSteps := 3000000) (disch := omega) only [↓nx_q, zb0_s, zb1_s, zb2_s, zb3_s, zb4_s, zb5_s, zb6_s, zb7_s, zb8_s, zb9_s, zb10_s, zb11_s, zb12_s, zb13_s, zb14_s, q_lit, nI_add, pk_mul, e_cl, gi_in, gz_n0, gz_n1, e_gz, si_eq, si_ne, sa_eq, sa_ne, if_true, if_false, ↓reduceIte, k_ltT, k_ltF, k_leT, k_leF, k_eqT, k_eqF, k_m1lt, k_nm1, not_true_eq_false, not_false_eq_true]
    refine congrArg some (congrArg nI ?_)
    rw [Nat.mul_comm]
/-- sums over all sets at once -/
theorem ss_step {w : Nat → Nat} {k s : Nat} (hs : s < 2 ^ k) : sumB w (2 ^ k + s) (k + 1) = sumB w s k + w k ∧ sumB w s (k + 1) = sumB w s k := by
  refine ⟨?_, ?_⟩
  · rw [sumB_s, Nat.testBit_two_pow_add_eq, tb_big hs (Nat.le_refl _)]
    rw [show (!false) = true from rfl, if_pos rfl]
    congr 1
    exact sumB_congr (fun j hj => Nat.testBit_two_pow_add_gt hj s) (fun _ _ _ => rfl)
  · rw [sumB_s, tb_big hs (Nat.le_refl _), if_neg (by decide)]
    rfl
theorem c_sumSize {o : Ob} {σ : Nat → Nat} {f : Fn} (hw : RCw o σ) (h8 : σ 2 ≤ 8) : Ok (f_X10_sumSets__size o 256 f) (fun f' => ∀ s, s < 2 ^ σ 2 → f' s = nI (sumB (szN σ) s (σ 2))) := by
  have w0 := hw.1
  unfold f_X10_sumSets__size
  simp (maxSteps := 3000000) (disch := omega) only [↓nx_q, q_lit, gi_in, e_cl]
  rw [ok_zb1]
  refine ok_mono (ok_zl2 (Q := fun f' => ∀ s, s < 2 ^ σ 2 → f' s = nI (sumB (szN σ) s (σ 2))) (fun i f' kk => kk = nI i ∧ ∀ s, s < 2 ^ i → f' s = nI (sumB (szN σ) s i)) (σ 2) (fun i f1 kk hi hI => ?_) (fu_lt (by omega)) ⟨rfl, fun s hs => by
    have : s = 0 := by
      rw [Nat.pow_zero] at hs
      omega
    subst this
    exact upd_eq _ _ _⟩) (fun y hy => ok_some.mpr hy)
  obtain ⟨rfl, hin⟩ := hI
  by_cases q : i = σ 2
  · subst q
    simp (maxSteps := 3000000) (disch := omega) only [↓nx_q, zb0_s, zb1_s, zb2_s, zb3_s, zb4_s, zb5_s, zb6_s, zb7_s, zb8_s, zb9_s, zb10_s, zb11_s, zb12_s, zb13_s, zb14_s, q_lit, nI_add, pk_mul, e_cl, gi_in, gz_n0, gz_n1, e_gz, si_eq, si_ne, sa_eq, sa_ne, if_true, if_false, ↓reduceIte, k_ltT, k_ltF, k_leT, k_leF, k_eqT, k_eqF, k_m1lt, k_nm1, not_true_eq_false, not_false_eq_true, w0]
    exact ⟨_, rfl, hin⟩
  · have hp : 2 ^ i + 2 ^ i ≤ 256 := by
      have := pw8 (show i + 1 ≤ 8 by omega)
      rw [Nat.pow_succ] at this
      omega
    have wi := (hw.2 i (by omega)).1
    simp (maxSteps := 3000000) (disch := omega) only [↓nx_q, zb0_s, zb1_s, zb2_s, zb3_s, zb4_s, zb5_s, zb6_s, zb7_s, zb8_s, zb9_s, zb10_s, zb11_s, zb12_s, zb13_s, zb14_s, q_lit, nI_add, pk_mul, e_cl, gi_in, gz_n0, gz_n1, e_gz, si_eq, si_ne, sa_eq, sa_ne, if_true, if_false, ↓reduceIte, k_ltT, k_ltF, k_leT, k_leF, k_eqT, k_eqF, k_m1lt, k_nm1, not_true_eq_false, not_false_eq_true, w0, e_shl1]
    rw [ok_zb1]
    refine ok_mono (ok_zl2 (Q := fun f2 => ∀ s, s < 2 ^ (i + 1) → f2 s = nI (sumB (szN σ) s (i + 1))) (fun x f2 kk => kk = nI x ∧ (∀ s, s < 2 ^ i → f2 s = nI (sumB (szN σ) s i)) ∧ ∀ s, s < x → f2 (2 ^ i + s) = nI (sumB (szN σ) s i + σ (8 + i))) (2 ^ i) (fun x f2 kk hx hI2 => ?_) (fu_lt (by omega)) ⟨rfl, hin, fun s hs => absurd hs (Nat.not_lt_zero _)⟩) (fun f2 hf2 => ⟨_, rfl, by omega, rfl, hf2⟩)
    obtain ⟨rfl, ha, hb⟩ := hI2
    by_cases qx : x = 2 ^ i
    · subst qx
      simp (maxSteps := 3000000) (disch := omega) only [↓nx_q, zb0_s, zb1_s, zb2_s, zb3_s, zb4_s, zb5_s, zb6_s, zb7_s, zb8_s, zb9_s, zb10_s, zb11_s, zb12_s, zb13_s, zb14_s, q_lit, nI_add, pk_mul, e_cl, gi_in, gz_n0, gz_n1, e_gz, si_eq, si_ne, sa_eq, sa_ne, if_true, if_false, ↓reduceIte, k_ltT, k_ltF, k_leT, k_leF, k_eqT, k_eqF, k_m1lt, k_nm1, not_true_eq_false, not_false_eq_true]
      refine ⟨_, rfl, fun s hs => ?_⟩
      by_cases z : s < 2 ^ i
      · rw [ha s z, (ss_step z).2]
      · rw [Nat.pow_succ] at hs
        obtain ⟨t, rfl⟩ : ∃ t, s = 2 ^ i + t := ⟨s - 2 ^ i, by omega⟩
        rw [hb t (by omega), (ss_step (by omega)).1]
    · have hax := ha x (by omega)
      simp (maxSteps := 3000000) (disch := omega) only [↓nx_q, zb0_s, zb1_s, zb2_s, zb3_s, zb4_s, zb5_s, zb6_s, zb7_s, zb8_s, zb9_s, zb10_s, zb11_s, zb12_s, zb13_s, zb14_s, q_lit, nI_add, pk_mul, e_cl, gi_in, gz_n0, gz_n1, e_gz, si_eq, si_ne, sa_eq, sa_ne, if_true, if_false, ↓reduceIte, k_ltT, k_ltF, k_leT, k_leF, k_eqT, k_eqF, k_m1lt, k_nm1, not_true_eq_false, not_false_eq_true, hax, wi]
      refine ⟨_, rfl, by omega, rfl, fun s hs => ?_, fun s hs => ?_⟩
      · simp (disch := omega) only [si_eq, si_ne, sa_eq, sa_ne, upd_eq, upd_ne, updN_eq, updN_ne]
        exact ha s hs
      · by_cases e : s = x
        · subst e
          simp (disch := omega) only [si_eq, si_ne, sa_eq, sa_ne, upd_eq, upd_ne, updN_eq, updN_ne]
        · simp (disch := omega) only [si_eq, si_ne, sa_eq, sa_ne, upd_eq, upd_ne, updN_eq, updN_ne]
          exact hb s (by omega)
theorem c_sumPrice {o : Ob} {σ : Nat → Nat} {f : Fn} (hw : RCw o σ) (h8 : σ 2 ≤ 8) : Ok (f_X10_sumSets__price o 256 f) (fun f' => ∀ s, s < 2 ^ σ 2 → f' s = nI (prS σ s)) := by
  have w0 := hw.1
  show Ok _ (fun (f' : Fn) => ∀ s, s < 2 ^ σ 2 → f' s = nI (sumB (prN σ) s (σ 2)))
  unfold f_X10_sumSets__price
  simp (maxSteps := 3000000) (disch := omega) only [↓nx_q, q_lit, gi_in, e_cl]
  rw [ok_zb1]
  refine ok_mono (ok_zl2 (Q := fun f' => ∀ s, s < 2 ^ σ 2 → f' s = nI (sumB (prN σ) s (σ 2))) (fun i f' kk => kk = nI i ∧ ∀ s, s < 2 ^ i → f' s = nI (sumB (prN σ) s i)) (σ 2) (fun i f1 kk hi hI => ?_) (fu_lt (by omega)) ⟨rfl, fun s hs => by
    have : s = 0 := by
      rw [Nat.pow_zero] at hs
      omega
    subst this
    exact upd_eq _ _ _⟩) (fun y hy => ok_some.mpr hy)
  obtain ⟨rfl, hin⟩ := hI
  by_cases q : i = σ 2
  · subst q
    simp (maxSteps := 3000000) (disch := omega) only [↓nx_q, zb0_s, zb1_s, zb2_s, zb3_s, zb4_s, zb5_s, zb6_s, zb7_s, zb8_s, zb9_s, zb10_s, zb11_s, zb12_s, zb13_s, zb14_s, q_lit, nI_add, pk_mul, e_cl, gi_in, gz_n0, gz_n1, e_gz, si_eq, si_ne, sa_eq, sa_ne, if_true, if_false, ↓reduceIte, k_ltT, k_ltF, k_leT, k_leF, k_eqT, k_eqF, k_m1lt, k_nm1, not_true_eq_false, not_false_eq_true, w0]
    exact ⟨_, rfl, hin⟩
  · have hp : 2 ^ i + 2 ^ i ≤ 256 := by
      have := pw8 (show i + 1 ≤ 8 by omega)
      rw [Nat.pow_succ] at this
      omega
    have wi := (hw.2 i (by omega)).2.1
    simp (maxSteps := 3000000) (disch := omega) only [↓nx_q, zb0_s, zb1_s, zb2_s, zb3_s, zb4_s, zb5_s, zb6_s, zb7_s, zb8_s, zb9_s, zb10_s, zb11_s, zb12_s, zb13_s, zb14_s, q_lit, nI_add, pk_mul, e_cl, gi_in, gz_n0, gz_n1, e_gz, si_eq, si_ne, sa_eq, sa_ne, if_true, if_false, ↓reduceIte, k_ltT, k_ltF, k_leT, k_leF, k_eqT, k_eqF, k_m1lt, k_nm1, not_true_eq_false, not_false_eq_true, w0, e_shl1]
    rw [ok_zb1]
    refine ok_mono (ok_zl2 (Q := fun f2 => ∀ s, s < 2 ^ (i + 1) → f2 s = nI (sumB (prN σ) s (i + 1))) (fun x f2 kk => kk = nI x ∧ (∀ s, s < 2 ^ i → f2 s = nI (sumB (prN σ) s i)) ∧ ∀ s, s < x → f2 (2 ^ i + s) = nI (sumB (prN σ) s i + σ (16 + i))) (2 ^ i) (fun x f2 kk hx hI2 => ?_) (fu_lt (by omega)) ⟨rfl, hin, fun s hs => absurd hs (Nat.not_lt_zero _)⟩) (fun f2 hf2 => ⟨_, rfl, by omega, rfl, hf2⟩)
    obtain ⟨rfl, ha, hb⟩ := hI2
    by_cases qx : x = 2 ^ i
    · subst qx
      simp (maxSteps := 3000000) (disch := omega) only [↓nx_q, zb0_s, zb1_s, zb2_s, zb3_s, zb4_s, zb5_s, zb6_s, zb7_s, zb8_s, zb9_s, zb10_s, zb11_s, zb12_s, zb13_s, zb14_s, q_lit, nI_add, pk_mul, e_cl, gi_in, gz_n0, gz_n1, e_gz, si_eq, si_ne, sa_eq, sa_ne, if_true, if_false, ↓reduceIte, k_ltT, k_ltF, k_leT, k_leF, k_eqT, k_eqF, k_m1lt, k_nm1, not_true_eq_false, not_false_eq_true]
      refine ⟨_, rfl, fun s hs => ?_⟩
      by_cases z : s < 2 ^ i
      · rw [ha s z, (ss_step z).2]
      · rw [Nat.pow_succ] at hs
        obtain ⟨t, rfl⟩ : ∃ t, s = 2 ^ i + t := ⟨s - 2 ^ i, by omega⟩
        rw [hb t (by omega), (ss_step (by omega)).1]
    · have hax := ha x (by omega)
      simp (maxSteps := 3000000) (disch := omega) only [↓nx_q, zb0_s, zb1_s, zb2_s, zb3_s, zb4_s, zb5_s, zb6_s, zb7_s, zb8_s, zb9_s, zb10_s, zb11_s, zb12_s, zb13_s, zb14_s, q_lit, nI_add, pk_mul, e_cl, gi_in, gz_n0, gz_n1, e_gz, si_eq, si_ne, sa_eq, sa_ne, if_true, if_false, ↓reduceIte, k_ltT, k_ltF, k_leT, k_leF, k_eqT, k_eqF, k_m1lt, k_nm1, not_true_eq_false, not_false_eq_true, hax, wi]
      refine ⟨_, rfl, by omega, rfl, fun s hs => ?_, fun s hs => ?_⟩
      · simp (disch := omega) only [si_eq, si_ne, sa_eq, sa_ne, upd_eq, upd_ne, updN_eq, updN_ne]
        exact ha s hs
      · by_cases e : s = x
        · subst e
          simp (disch := omega) only [si_eq, si_ne, sa_eq, sa_ne, upd_eq, upd_ne, updN_eq, updN_ne]
        · simp (disch := omega) only [si_eq, si_ne, sa_eq, sa_ne, upd_eq, upd_ne, updN_eq, updN_ne]
          exact hb s (by omega)
theorem c_plBegin {p w : Ob} {σ : Nat → Nat} {room nt : Nat} (al : Nat) (hw : RCw w σ) (h8 : σ 2 ≤ 8) (hwi : WFi σ) (hr : room ≤ 20) (hnt : 256 ≤ nt) (hn : nt < 1000000) : Ok (f_X5_begin nt p w (nI room)) (fun p' => PT p' σ room ∧ p' 7 0 = nI 0 ∧ p' 0 = p 0 ∧ p' 8 = p 8 ∧ CR σ room (p' 1) 0 (rowN σ room al 0)) := by
  have hN : 2 ^ σ 2 ≤ 256 := pw8 h8
  have hN0 : 0 < 2 ^ σ 2 := Nat.two_pow_pos _
  have w0 := hw.1
  have hsz : ∀ s, sumB (szN σ) s (σ 2) ≤ 48 := fun s => by
    have := sumB_le (w := szN σ) (f := s) (m := 6) (n := σ 2) (fun k hk => (hwi k hk).1.2)
    omega
  unfold f_X5_begin
  rw [nx_eq, ok_zb1]
  refine ok_mono (c_sumSize hw h8) (fun f2 hf2 => ?_)
  rw [nx_eq, ok_zb1]
  refine ok_mono (c_sumPrice hw h8) (fun f3 hf3 => ?_)
  rw [nx_eq, nx_eq, ok_zb1]
  refine ok_mono (ok_zl2 (Q := fun o => PT o σ room ∧ o 0 = p 0 ∧ o 8 = p 8 ∧ ∀ s, s < 2 ^ σ 2 → sumB (szN σ) s (σ 2) ≤ room → o 1 s = nI 1000000) (fun i o kk => kk = nI i ∧ o 0 = p 0 ∧ o 8 = p 8 ∧ o 6 0 = nI (σ 2) ∧ o 2 = f2 ∧ o 3 = f3 ∧ o 5 0 = nI (ftC σ room i) ∧ ∀ s, s < i → sumB (szN σ) s (σ 2) ≤ room → o 4 (ftC σ room s) = nI s ∧ o 1 s = nI 1000000) (2 ^ σ 2) (fun i o kk hi hI => ?_) (fu_lt (by omega)) ⟨rfl, ?_, ?_, ?_, ?_, ?_, ?_, fun s hs => absurd hs (Nat.not_lt_zero _)⟩) (fun o ho => ?_)
  · obtain ⟨rfl, i0, i8, i6, i2, i3, i5, hin⟩ := hI
    by_cases q : i = 2 ^ σ 2
    · subst q
      simp (maxSteps := 3000000) (disch := omega) only [↓nx_q, zb0_s, zb1_s, zb2_s, zb3_s, zb4_s, zb5_s, zb6_s, zb7_s, zb8_s, zb9_s, zb10_s, zb11_s, zb12_s, zb13_s, zb14_s, q_lit, nI_add, pk_mul, e_cl, gi_in, gz_n0, gz_n1, e_gz, si_eq, si_ne, sa_eq, sa_ne, if_true, if_false, ↓reduceIte, k_ltT, k_ltF, k_leT, k_leF, k_eqT, k_eqF, k_m1lt, k_nm1, not_true_eq_false, not_false_eq_true, i6, e_shl1]
      exact ⟨_, rfl, ⟨i6, fun s hs => by rw [i2, i3]; exact ⟨hf2 s hs, hf3 s hs⟩, i5, fun s hs hf => (hin s hs hf).1⟩, i0, i8, fun s hs hf => (hin s hs hf).2⟩
    · have hsi := hf2 i (by omega)
      have hsz' := hsz i
      have hft := ft_le σ room i
      have hfs : ftC σ room (i + 1) = ftC σ room i + (if sumB (szN σ) i (σ 2) ≤ room then 1 else 0) := rfl
      by_cases z : sumB (szN σ) i (σ 2) ≤ room
      · rw [if_pos z] at hfs
        simp (maxSteps := 3000000) (disch := omega) only [↓nx_q, zb0_s, zb1_s, zb2_s, zb3_s, zb4_s, zb5_s, zb6_s, zb7_s, zb8_s, zb9_s, zb10_s, zb11_s, zb12_s, zb13_s, zb14_s, q_lit, nI_add, pk_mul, e_cl, gi_in, gz_n0, gz_n1, e_gz, si_eq, si_ne, sa_eq, sa_ne, if_true, if_false, ↓reduceIte, k_ltT, k_ltF, k_leT, k_leF, k_eqT, k_eqF, k_m1lt, k_nm1, not_true_eq_false, not_false_eq_true, i6, e_shl1, i2, hsi, i5]
        refine ⟨_, rfl, by omega, rfl, ?_, ?_, ?_, ?_, ?_, ?_, fun s hs hf => ?_⟩
        · simp (disch := omega) only [si_eq, si_ne, sa_eq, sa_ne, upd_eq, upd_ne, updN_eq, updN_ne]; exact i0
        · simp (disch := omega) only [si_eq, si_ne, sa_eq, sa_ne, upd_eq, upd_ne, updN_eq, updN_ne]; exact i8
        · simp (disch := omega) only [si_eq, si_ne, sa_eq, sa_ne, upd_eq, upd_ne, updN_eq, updN_ne]; exact i6
        · simp (disch := omega) only [si_eq, si_ne, sa_eq, sa_ne, upd_eq, upd_ne, updN_eq, updN_ne]; exact i2
        · simp (disch := omega) only [si_eq, si_ne, sa_eq, sa_ne, upd_eq, upd_ne, updN_eq, updN_ne]; exact i3
        · simp (disch := omega) only [si_eq, si_ne, sa_eq, sa_ne, upd_eq, upd_ne, updN_eq, updN_ne]; rw [hfs]
        · by_cases e : s = i
          · subst e
            simp (disch := omega) only [si_eq, si_ne, sa_eq, sa_ne, upd_eq, upd_ne, updN_eq, updN_ne]
            exact ⟨trivial, trivial⟩
          · have := ft_lt (σ := σ) (room := room) (show s < i by omega) hf
            simp (disch := omega) only [si_eq, si_ne, sa_eq, sa_ne, upd_eq, upd_ne, updN_eq, updN_ne]
            exact hin s (by omega) hf
      · rw [if_neg z] at hfs
        simp (maxSteps := 3000000) (disch := omega) only [↓nx_q, zb0_s, zb1_s, zb2_s, zb3_s, zb4_s, zb5_s, zb6_s, zb7_s, zb8_s, zb9_s, zb10_s, zb11_s, zb12_s, zb13_s, zb14_s, q_lit, nI_add, pk_mul, e_cl, gi_in, gz_n0, gz_n1, e_gz, si_eq, si_ne, sa_eq, sa_ne, if_true, if_false, ↓reduceIte, k_ltT, k_ltF, k_leT, k_leF, k_eqT, k_eqF, k_m1lt, k_nm1, not_true_eq_false, not_false_eq_true, i6, e_shl1, i2, hsi]
        refine ⟨_, rfl, by omega, rfl, i0, i8, i6, i2, i3, by rw [hfs]; exact i5, fun s hs hf => ?_⟩
        by_cases e : s = i
        · subst e; exact absurd hf z
        · exact hin s (by omega) hf
  · simp (disch := omega) only [si_eq, si_ne, sa_eq, sa_ne, upd_eq, upd_ne, updN_eq, updN_ne]
  · simp (disch := omega) only [si_eq, si_ne, sa_eq, sa_ne, upd_eq, upd_ne, updN_eq, updN_ne]
  · simp (disch := omega) only [si_eq, si_ne, sa_eq, sa_ne, upd_eq, upd_ne, updN_eq, updN_ne]; exact w0
  · simp (disch := omega) only [si_eq, si_ne, sa_eq, sa_ne, upd_eq, upd_ne, updN_eq, updN_ne]
  · simp (disch := omega) only [si_eq, si_ne, sa_eq, sa_ne, upd_eq, upd_ne, updN_eq, updN_ne]
  · simp (disch := omega) only [si_eq, si_ne, sa_eq, sa_ne, upd_eq, upd_ne, updN_eq, updN_ne]; rfl
  · obtain ⟨hT, h0, h80, hc⟩ := ho
    simp (maxSteps := 3000000) (disch := omega) only [↓nx_q, zb0_s, zb1_s, zb2_s, zb3_s, zb4_s, zb5_s, zb6_s, zb7_s, zb8_s, zb9_s, zb10_s, zb11_s, zb12_s, zb13_s, zb14_s, q_lit, nI_add, pk_mul, e_cl, gi_in, gz_n0, gz_n1, e_gz, si_eq, si_ne, sa_eq, sa_ne, if_true, if_false, ↓reduceIte, k_ltT, k_ltF, k_leT, k_leF, k_eqT, k_eqF, k_m1lt, k_nm1, not_true_eq_false, not_false_eq_true]
    refine ⟨_, rfl, PT_fr hT (fun j a b c d => ?_), ?_, ?_, ?_, fun s hs hf => ?_⟩
    · simp (disch := omega) only [si_eq, si_ne, sa_eq, sa_ne, upd_eq, upd_ne, updN_eq, updN_ne]
    · simp (disch := omega) only [si_eq, si_ne, sa_eq, sa_ne, upd_eq, upd_ne, updN_eq, updN_ne]
    · simp (disch := omega) only [si_eq, si_ne, sa_eq, sa_ne, upd_eq, upd_ne, updN_eq, updN_ne]; exact h0
    · simp (disch := omega) only [si_eq, si_ne, sa_eq, sa_ne, upd_eq, upd_ne, updN_eq, updN_ne]; exact h80
    · rw [Nat.zero_add]
      unfold rowN
      by_cases e : s = 0
      · subst e
        simp (disch := omega) only [si_eq, si_ne, sa_eq, sa_ne, upd_eq, upd_ne, updN_eq, updN_ne]
        rfl
      · rw [if_neg e]
        simp (disch := omega) only [si_eq, si_ne, sa_eq, sa_ne, upd_eq, upd_ne, updN_eq, updN_ne]
        exact hc s hs hf
