theorem ls_uniq {σ : Nat → Nat} {room : Nat} {C : Nat → Nat} {b n : Nat} (hb : b < n) (hf : sumB (szN σ) b (σ 2) ≤ room) (h1 : ∀ s, s < n → sumB (szN σ) s (σ 2) ≤ room → C b ≤ C s) (h2 : ∀ s, s < b → sumB (szN σ) s (σ 2) ≤ room → C b < C s) : lsN σ room C n = b := by
  obtain ⟨a, b', c, d⟩ := ls_spec (σ := σ) (room := room) (C := C) n
  have hl : lsN σ room C n < n := by
    rcases d with d | d
    · omega
    · exact d
  rcases Nat.lt_trichotomy (lsN σ room C n) b with q | q | q
  · have := h2 _ q a
    have := b' b hb hf
    omega
  · exact q
  · have := c b q hf
    have := h1 _ hl a
    omega
theorem c_leastSet {kp : Bool} {p : Ob} {σ : Nat → Nat} {room n : Nat} {C : Nat → Nat} (hT : PT p σ room) (h8 : σ 2 ≤ 8) (h0 : p 0 0 = if kp then nI 1 else nI 0) (hn : n ≤ 40) (hC : CR σ room (p 1) (rix kp n) C) (hle : ∀ s, C s ≤ 1000000) : f_X5_leastSet (ntK kp) p (nI n) = some (nI (lsN σ room C (2 ^ σ 2))) := by
  obtain ⟨t1, t2, t3, t4⟩ := hT
  have hN : 2 ^ σ 2 ≤ 256 := pw8 h8
  have hN0 : 0 < 2 ^ σ 2 := Nat.two_pow_pos _
  have hfl := ft_le σ room (2 ^ σ 2)
  have hz : sumB (szN σ) 0 (σ 2) ≤ room := by rw [sumB_0]; exact Nat.zero_le _
  have hf1 : 0 < ftC σ room (2 ^ σ 2) := ft_lt (s := 0) hN0 hz
  have hr := c_row h0 (show n ≤ 41 by omega)
  have hrl := rix_le (kp := kp) hn
  have hnt := ntK_lt kp
  unfold f_X5_leastSet
  suffices h : Ok (zb1 (zl2 (fun (k17 : Int32) (k18 : Int32) => (
  if p 5 0 ≤ k18 then (
  some (.inr k17)
  ) else (
  zb1 (f_X5_row p (nI n)) fun (r22 : Int32) =>
  gi k18 256 <|
  gi (r22 + (p 4 (Int32.toNatClampNeg k18))) (ntK kp) <|
  zb1 (f_X5_row p (nI n)) fun (r26 : Int32) =>
  gi (r26 + k17) (ntK kp) <|
  if p 1 (Int32.toNatClampNeg (r26 + k17)) ≤ p 1 (Int32.toNatClampNeg (r22 + (p 4 (Int32.toNatClampNeg k18)))) then (
  nx (k18 + (1 : Int32)) fun x29 =>
  some (.inl (k17, x29))
  ) else (
  gi k18 256 <|
  nx (p 4 (Int32.toNatClampNeg k18)) fun x31 =>
  nx (k18 + (1 : Int32)) fun x32 =>
  some (.inl (x31, x32))
  )
  )
  )) FU (0 : Int32) (1 : Int32)) <| fun (k19 : Int32) => some k19) (fun r => r = nI (lsN σ room C (2 ^ σ 2))) by
    obtain ⟨y, e, rfl⟩ := h
    exact e
  rw [ok_zb1]
  refine ok_mono (ok_zl2 (Q := fun r => r = nI (lsN σ room C (2 ^ σ 2))) (fun i k17 k18 => k18 = nI (1 + i) ∧ ∃ b, k17 = nI b ∧ b < 2 ^ σ 2 ∧ sumB (szN σ) b (σ 2) ≤ room ∧ (∀ s, s < 2 ^ σ 2 → sumB (szN σ) s (σ 2) ≤ room → ftC σ room s < 1 + i → C b ≤ C s) ∧ (∀ s, s < b → sumB (szN σ) s (σ 2) ≤ room → C b < C s) ∧ ftC σ room b < 1 + i) (ftC σ room (2 ^ σ 2) - 1) (fun i k17 k18 hi hI => ?_) (fu_lt (by omega)) ⟨rfl, 0, rfl, hN0, hz, fun s hs hf hl => ?_, fun s hs => absurd hs (Nat.not_lt_zero _), by show 0 < 1 + 0; decide⟩) (fun y hy => ok_some.mpr hy)
  · obtain ⟨rfl, b, rfl, hb, hbf, h1, h2, h3⟩ := hI
    by_cases q : i = ftC σ room (2 ^ σ 2) - 1
    · have e : 1 + i = ftC σ room (2 ^ σ 2) := by omega
      rw [e] at h1 ⊢
      simp (maxSteps := 3000000) (disch := omega) only [↓nx_q, zb0_s, zb1_s, zb2_s, zb3_s, zb4_s, zb5_s, zb6_s, zb7_s, zb8_s, zb9_s, zb10_s, zb11_s, zb12_s, zb13_s, zb14_s, q_lit, nI_add, pk_mul, e_cl, gi_in, gz_n0, gz_n1, e_gz, si_eq, si_ne, sa_eq, sa_ne, if_true, if_false, ↓reduceIte, k_ltT, k_ltF, k_leT, k_leF, k_eqT, k_eqF, k_m1lt, k_nm1, not_true_eq_false, not_false_eq_true, t3]
      refine ⟨_, rfl, congrArg nI ?_⟩
      exact (ls_uniq hb hbf (fun s hs hf => h1 s hs hf (ft_lt hs hf)) h2).symm
    · obtain ⟨u, hu, huf, hui⟩ := ft_ex (σ := σ) (room := room) (n := 2 ^ σ 2) (i := 1 + i) (by omega)
      have o4 : p 4 (1 + i) = nI u := by rw [← hui]; exact t4 u hu huf
      have cu := hC u hu huf
      have cb := hC b hb hbf
      have hcu := hle u
      have hcb := hle b
      have hub : b < u := by
        apply Nat.lt_of_not_le
        intro z
        have := ft_mono (σ := σ) (room := room) z
        omega
      by_cases z : C b ≤ C u
      · simp (maxSteps := 3000000) (disch := omega) only [↓nx_q, zb0_s, zb1_s, zb2_s, zb3_s, zb4_s, zb5_s, zb6_s, zb7_s, zb8_s, zb9_s, zb10_s, zb11_s, zb12_s, zb13_s, zb14_s, q_lit, nI_add, pk_mul, e_cl, gi_in, gz_n0, gz_n1, e_gz, si_eq, si_ne, sa_eq, sa_ne, if_true, if_false, ↓reduceIte, k_ltT, k_ltF, k_leT, k_leF, k_eqT, k_eqF, k_m1lt, k_nm1, not_true_eq_false, not_false_eq_true, t3, hr, o4, cu, cb]
        refine ⟨_, rfl, by omega, congrArg nI (by omega), b, rfl, hb, hbf, fun s hs hf hl => ?_, h2, by omega⟩
        by_cases e : ftC σ room s = 1 + i
        · have := ft_inj hf huf (by rw [e, hui])
          subst this
          exact z
        · exact h1 s hs hf (by omega)
      · simp (maxSteps := 3000000) (disch := omega) only [↓nx_q, zb0_s, zb1_s, zb2_s, zb3_s, zb4_s, zb5_s, zb6_s, zb7_s, zb8_s, zb9_s, zb10_s, zb11_s, zb12_s, zb13_s, zb14_s, q_lit, nI_add, pk_mul, e_cl, gi_in, gz_n0, gz_n1, e_gz, si_eq, si_ne, sa_eq, sa_ne, if_true, if_false, ↓reduceIte, k_ltT, k_ltF, k_leT, k_leF, k_eqT, k_eqF, k_m1lt, k_nm1, not_true_eq_false, not_false_eq_true, t3, hr, o4, cu, cb]
        refine ⟨_, rfl, by omega, congrArg nI (by omega), u, rfl, hu, huf, fun s hs hf hl => ?_, fun s hs hf => ?_, by omega⟩
        · by_cases e : ftC σ room s = 1 + i
          · have := ft_inj hf huf (by rw [e, hui])
            subst this
            exact Nat.le_refl _
          · have := h1 s hs hf (by omega)
            omega
        · have := ft_lt (σ := σ) (room := room) hs hf
          have := h1 s (by omega) hf (by omega)
          omega
  · have : s = 0 := ft_inj hf hz (by
      have : ftC σ room 0 = 0 := rfl
      omega)
    subst this
    exact Nat.le_refl _
theorem ls_lt {σ : Nat → Nat} {room : Nat} {C : Nat → Nat} : lsN σ room C (2 ^ σ 2) < 2 ^ σ 2 := by
  have hN0 : 0 < 2 ^ σ 2 := Nat.two_pow_pos _
  rcases (ls_spec (σ := σ) (room := room) (C := C) (2 ^ σ 2)).2.2.2 with d | d
  · omega
  · exact d
theorem c_least {kp : Bool} {p : Ob} {σ : Nat → Nat} {room n : Nat} {C : Nat → Nat} (hT : PT p σ room) (h8 : σ 2 ≤ 8) (h0 : p 0 0 = if kp then nI 1 else nI 0) (hn : n ≤ 40) (hC : CR σ room (p 1) (rix kp n) C) (hle : ∀ s, C s ≤ 1000000) : f_X5_least (ntK kp) p (nI n) = some (nI (C (lsN σ room C (2 ^ σ 2)))) := by
  have hN : 2 ^ σ 2 ≤ 256 := pw8 h8
  have hr := c_row h0 (show n ≤ 41 by omega)
  have hrl := rix_le (kp := kp) hn
  have hnt := ntK_lt kp
  have hls := ls_lt (σ := σ) (room := room) (C := C)
  have hc := hC _ hls (ls_spec (σ := σ) (room := room) (C := C) (2 ^ σ 2)).1
  unfold f_X5_least
  simp (maxSteps := 3000000) (disch := omega) only [↓nx_q, zb0_s, zb1_s, zb2_s, zb3_s, zb4_s, zb5_s, zb6_s, zb7_s, zb8_s, zb9_s, zb10_s, zb11_s, zb12_s, zb13_s, zb14_s, q_lit, nI_add, pk_mul, e_cl, gi_in, gz_n0, gz_n1, e_gz, si_eq, si_ne, sa_eq, sa_ne, if_true, if_false, ↓reduceIte, k_ltT, k_ltF, k_leT, k_leF, k_eqT, k_eqF, k_m1lt, k_nm1, not_true_eq_false, not_false_eq_true, hr, c_leastSet hT h8 h0 hn hC hle, hc]
theorem fa_uniq {σ : Nat → Nat} {room b m : Nat} {C : Nat → Nat} {u n : Nat} (hu : u < n) (hf : sumB (szN σ) u (σ 2) ≤ room) (h1 : C u + prS σ (andn b u) = m) (h2 : ∀ s, s < u → sumB (szN σ) s (σ 2) ≤ room → C s + prS σ (andn b s) ≠ m) : faN σ room C b m n = some u := by
  cases q : faN σ room C b m n with
  | none => exact absurd h1 (fa_none q u hu hf)
  | some t =>
    obtain ⟨a, b', c, d⟩ := fa_some q
    rcases Nat.lt_trichotomy t u with z | z | z
    · exact absurd c (h2 t z b')
    · rw [z]
    · exact absurd h1 (d u z hf)
theorem c_firstAhead {p : Ob} {σ : Nat → Nat} {room b beh m nt : Nat} {C : Nat → Nat} (hT : PT p σ room) (h8 : σ 2 ≤ 8) (hwi : WFi σ) (hC : CR σ room (p 1) b C) (hle : ∀ s, C s ≤ 1000000) (hbeh : beh < 2 ^ σ 2) (hm : m < 2000000) (hb : b + 256 ≤ nt) (hn : nt < 1000000) : f_X5_firstAhead nt p (nI b) (nI beh) (nI m) = some (nI ((faN σ room C beh m (2 ^ σ 2)).getD 0)) := by
  obtain ⟨t1, t2, t3, t4⟩ := hT
  have hN : 2 ^ σ 2 ≤ 256 := pw8 h8
  have hfl := ft_le σ room (2 ^ σ 2)
  unfold f_X5_firstAhead
  suffices h : Ok (ze0 (zl1 (fun (k10 : Int32) => (
  if p 5 0 ≤ k10 then (
  some (.inr (.inl ()))
  ) else (
  gi k10 256 <|
  nx (p 4 (Int32.toNatClampNeg k10)) fun x14 =>
  gi (nI b + x14) nt <|
  gi (nI beh &&& (x14 ^^^ (-1 : Int32))) 256 <|
  if (p 1 (Int32.toNatClampNeg (nI b + x14))) + (p 3 (Int32.toNatClampNeg (nI beh &&& (x14 ^^^ (-1 : Int32))))) = nI m then (
  some (.inr (.inr x14))
  ) else (
  nx (k10 + (1 : Int32)) fun x17 =>
  some (.inl x17)
  )
  )
  )) FU (0 : Int32)) (fun r => some r) <| some (0 : Int32)) (fun r => r = nI ((faN σ room C beh m (2 ^ σ 2)).getD 0)) by
    obtain ⟨y, e, rfl⟩ := h
    exact e
  rw [ok_ze0]
  refine ok_mono (ok_zl1 (Q := fun (r : Unit ⊕ Int32) => (r = .inl () ∧ faN σ room C beh m (2 ^ σ 2) = none) ∨ ∃ u, r = .inr (nI u) ∧ faN σ room C beh m (2 ^ σ 2) = some u) (fun i k10 => k10 = nI i ∧ ∀ s, s < 2 ^ σ 2 → sumB (szN σ) s (σ 2) ≤ room → ftC σ room s < i → C s + prS σ (andn beh s) ≠ m) (ftC σ room (2 ^ σ 2)) (fun i k10 hi hI => ?_) (fu_lt (by omega)) ⟨rfl, fun s _ _ h => absurd h (Nat.not_lt_zero _)⟩) (fun y hy => ?_)
  · obtain ⟨rfl, hin⟩ := hI
    by_cases q : i = ftC σ room (2 ^ σ 2)
    · subst q
      simp (maxSteps := 3000000) (disch := omega) only [↓nx_q, zb0_s, zb1_s, zb2_s, zb3_s, zb4_s, zb5_s, zb6_s, zb7_s, zb8_s, zb9_s, zb10_s, zb11_s, zb12_s, zb13_s, zb14_s, q_lit, nI_add, pk_mul, e_cl, gi_in, gz_n0, gz_n1, e_gz, si_eq, si_ne, sa_eq, sa_ne, if_true, if_false, ↓reduceIte, k_ltT, k_ltF, k_leT, k_leF, k_eqT, k_eqF, k_m1lt, k_nm1, not_true_eq_false, not_false_eq_true, t3]
      refine ⟨_, rfl, Or.inl ⟨rfl, ?_⟩⟩
      cases z : faN σ room C beh m (2 ^ σ 2) with
      | none => rfl
      | some t =>
        obtain ⟨a, b', c, d⟩ := fa_some z
        exact absurd c (hin t a b' (ft_lt a b'))
    · obtain ⟨u, hu, huf, hui⟩ := ft_ex (σ := σ) (room := room) (n := 2 ^ σ 2) (i := i) (by omega)
      have o4 : p 4 i = nI u := by rw [← hui]; exact t4 u hu huf
      have cu := hC u hu huf
      have hcu := hle u
      have han : andn beh u < 2 ^ σ 2 := andn_lt hbeh
      have pu := (t2 _ han).2
      have hpu := prS_le h8 hwi (andn beh u)
      by_cases z : C u + prS σ (andn beh u) = m
      · simp (maxSteps := 3000000) (disch := omega) only [↓nx_q, zb0_s, zb1_s, zb2_s, zb3_s, zb4_s, zb5_s, zb6_s, zb7_s, zb8_s, zb9_s, zb10_s, zb11_s, zb12_s, zb13_s, zb14_s, q_lit, nI_add, pk_mul, e_cl, gi_in, gz_n0, gz_n1, e_gz, si_eq, si_ne, sa_eq, sa_ne, if_true, if_false, ↓reduceIte, k_ltT, k_ltF, k_leT, k_leF, k_eqT, k_eqF, k_m1lt, k_nm1, not_true_eq_false, not_false_eq_true, t3, o4, cu, q_andn', pu]
        refine ⟨_, rfl, Or.inr ⟨u, rfl, fa_uniq hu huf z (fun s hs hf => hin s (by omega) hf ?_)⟩⟩
        have := ft_lt (σ := σ) (room := room) hs hf
        omega
      · simp (maxSteps := 3000000) (disch := omega) only [↓nx_q, zb0_s, zb1_s, zb2_s, zb3_s, zb4_s, zb5_s, zb6_s, zb7_s, zb8_s, zb9_s, zb10_s, zb11_s, zb12_s, zb13_s, zb14_s, q_lit, nI_add, pk_mul, e_cl, gi_in, gz_n0, gz_n1, e_gz, si_eq, si_ne, sa_eq, sa_ne, if_true, if_false, ↓reduceIte, k_ltT, k_ltF, k_leT, k_leF, k_eqT, k_eqF, k_m1lt, k_nm1, not_true_eq_false, not_false_eq_true, t3, o4, cu, q_andn', pu]
        refine ⟨_, rfl, by omega, rfl, fun s hs hf hl => ?_⟩
        by_cases e : ftC σ room s = i
        · have := ft_inj hf huf (by rw [e, hui])
          subst this
          exact z
        · exact hin s hs hf (by omega)
  · rcases hy with ⟨rfl, h⟩ | ⟨u, rfl, h⟩
    · refine ⟨_, rfl, ?_⟩
      rw [h]
      rfl
    · refine ⟨_, rfl, ?_⟩
      rw [h]
      rfl
theorem ch_lt {σ : Nat → Nat} {room t : Nat} : ∀ d, chN σ room t d < 2 ^ σ 2
  | 0 => ls_lt
  | d + 1 => by
    have hN0 : 0 < 2 ^ σ 2 := Nat.two_pow_pos _
    unfold chN
    cases q : faN σ room (rowN σ room 0 (t - 1 - d)) (chN σ room t d) (rowN σ room 0 (t - d) (chN σ room t d) - srvN σ (t - 1 - d) (chN σ room t d)) (2 ^ σ 2) with
    | none => exact hN0
    | some u => exact (fa_some q).1
theorem c_serving {p w l : Ob} {σ : Nat → Nat} {i c : Nat} (hw : RCw w σ) (hl : RCl l σ) (hW : WF σ) (hi : i < σ 7) (hc : p 9 i = nI c) (hcl : c < 256) : f_X5_servingCost p w l (nI i) = some (nI (srvN σ i c)) := by
  have h8 := hW.1.1
  have h7 := hW.2.2.1
  have hli := (hl.2 i hi).1
  have hk := (hW.2.2.2.2.2.2 i hi).1
  have wk := hw.2 _ hk
  unfold f_X5_servingCost srvN
  by_cases b : c.testBit (σ (104 + i)) = true
  · rw [if_pos b]
    simp (maxSteps := 3000000) (disch := omega) only [↓nx_q, zb0_s, zb1_s, zb2_s, zb3_s, zb4_s, zb5_s, zb6_s, zb7_s, zb8_s, zb9_s, zb10_s, zb11_s, zb12_s, zb13_s, zb14_s, q_lit, nI_add, pk_mul, e_cl, gi_in, gz_n0, gz_n1, e_gz, si_eq, si_ne, sa_eq, sa_ne, if_true, if_false, ↓reduceIte, k_ltT, k_ltF, k_leT, k_leF, k_eqT, k_eqF, k_m1lt, k_nm1, not_true_eq_false, not_false_eq_true, hli, hc, e_bit, if_pos b]
  · rw [if_neg b]
    simp (maxSteps := 3000000) (disch := omega) only [↓nx_q, zb0_s, zb1_s, zb2_s, zb3_s, zb4_s, zb5_s, zb6_s, zb7_s, zb8_s, zb9_s, zb10_s, zb11_s, zb12_s, zb13_s, zb14_s, q_lit, nI_add, pk_mul, e_cl, gi_in, gz_n0, gz_n1, e_gz, si_eq, si_ne, sa_eq, sa_ne, if_true, if_false, ↓reduceIte, k_ltT, k_ltF, k_leT, k_leF, k_eqT, k_eqF, k_m1lt, k_nm1, not_true_eq_false, not_false_eq_true, hli, hc, e_bit, if_neg b, wk.2.2.1]
