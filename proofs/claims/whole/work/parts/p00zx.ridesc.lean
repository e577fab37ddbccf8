/-! ===== rides: the class ===== -/
def tb (f : Fn) (l : Nat) : Nat := Int32.toNatClampNeg (f l)
theorem tb_of {f : Fn} {l d : Nat} (h : f l = nI d) (hd : d < 2147483648) : tb f l = d := by
  unfold tb
  rw [h]
  exact e_cl (by omega)
theorem sz_le {σ : Nat → Nat} (hW : WF σ) (s : Nat) : szS σ s ≤ 48 := by
  have h8 := hW.1.1
  have := sumB_le (w := szN σ) (f := s) (m := 6) (n := σ 2) (fun k hk => (hW.1.2.2.2.2.1 k hk).1.2)
  unfold szS
  omega
/-- the object as it counts -/
def RdO (o : Ob) (σ : Nat → Nat) (T L : Nat) : Prop := (∀ s, s < 2 ^ σ 2 → o 2 s = nI (szS σ s)) ∧ o 4 0 = nI T ∧ o 5 0 = nI L ∧ o 6 0 = nI (σ 0)
theorem x_lt {a b : Nat} (ha : a < 256) (hb : b < 256) : a ^^^ b < 256 := xor_lt (n := 8) ha hb
theorem sbe {s l : Nat} (hs : s < 256) : (andn s l = 0) = Sb s l := propext (sb_andn (by omega))
theorem sb_pl {s l n : Nat} (h : Sb s l) (hl : l < 2 ^ n) : s < 2 ^ n := Nat.lt_of_le_of_lt (sb_le h) hl
theorem c_canGo {o : Ob} {σ : Nat → Nat} {T A L l s : Nat} (hW : WF σ) (hR : Rd σ T A L) (hL : L ≤ 40) (hO : RdO o σ T L) (hl : Sb l A) (hs : s < 256) (h0 : s ≠ 0) : (goP σ T L l s → f_X7_canGo o (nI s) (nI l) = some (nI 1)) ∧ (¬ goP σ T L l s → f_X7_canGo o (nI s) (nI l) = some (nI 0)) := by
  have hA := Rd_A hR
  have hT := Rd_T hR
  have hla := sb_le hl
  have hal := andn_le s l
  have hr := hW.1.2.2.1
  unfold f_X7_canGo
  by_cases q : Sb s l
  · have q1 : andn s l = 0 := (sb_andn (by omega)).mpr q
    have hsl := sb_le q
    have p2 := pw8 hR.1
    have hsn := sb_pl (sb_tr q hl) hR.2.2.1
    have z1 := hO.1 s hsn
    have hx : T ^^^ l ^^^ s < 2 ^ σ 2 := xor_lt (xor_lt hR.2.1 (sb_pl hl hR.2.2.1)) hsn
    have z2 := hO.1 _ hx
    have b1 := sz_le hW s
    have b2 := sz_le hW (T ^^^ l ^^^ s)
    by_cases q2 : szS σ s ≤ L
    · by_cases q3 : szS σ (T ^^^ l ^^^ s) ≤ σ 0
      · refine ⟨fun _ => ?_, fun h => absurd ⟨h0, q, q2, q3⟩ h⟩
        simp (maxSteps := 3000000) (disch := omega) only [↓nx_q, zb0_s, zb1_s, zb2_s, zb3_s, zb4_s, zb5_s, zb6_s, zb7_s, zb8_s, zb9_s, zb10_s, zb11_s, zb12_s, zb13_s, zb14_s, q_lit, nI_add, pk_mul, e_cl, gi_in, gz_n0, gz_n1, e_gz, si_eq, si_ne, sa_eq, sa_ne, if_true, if_false, ↓reduceIte, k_ltT, k_ltF, k_leT, k_leF, k_eqT, k_eqF, k_m1lt, k_nm1, not_true_eq_false, not_false_eq_true, q_andn', q1, hO.2.1, hO.2.2.1, hO.2.2.2, z1, q_xor, z2]
      · refine ⟨fun h => absurd h.2.2.2 q3, fun _ => ?_⟩
        simp (maxSteps := 3000000) (disch := omega) only [↓nx_q, zb0_s, zb1_s, zb2_s, zb3_s, zb4_s, zb5_s, zb6_s, zb7_s, zb8_s, zb9_s, zb10_s, zb11_s, zb12_s, zb13_s, zb14_s, q_lit, nI_add, pk_mul, e_cl, gi_in, gz_n0, gz_n1, e_gz, si_eq, si_ne, sa_eq, sa_ne, if_true, if_false, ↓reduceIte, k_ltT, k_ltF, k_leT, k_leF, k_eqT, k_eqF, k_m1lt, k_nm1, not_true_eq_false, not_false_eq_true, q_andn', q1, hO.2.1, hO.2.2.1, hO.2.2.2, z1, q_xor, z2]
    · refine ⟨fun h => absurd h.2.2.1 q2, fun _ => ?_⟩
      simp (maxSteps := 3000000) (disch := omega) only [↓nx_q, zb0_s, zb1_s, zb2_s, zb3_s, zb4_s, zb5_s, zb6_s, zb7_s, zb8_s, zb9_s, zb10_s, zb11_s, zb12_s, zb13_s, zb14_s, q_lit, nI_add, pk_mul, e_cl, gi_in, gz_n0, gz_n1, e_gz, si_eq, si_ne, sa_eq, sa_ne, if_true, if_false, ↓reduceIte, k_ltT, k_ltF, k_leT, k_leF, k_eqT, k_eqF, k_m1lt, k_nm1, not_true_eq_false, not_false_eq_true, q_andn', q1, hO.2.1, hO.2.2.1, hO.2.2.2, z1]
  · have q1 : andn s l ≠ 0 := fun h => q ((sb_andn (by omega)).mp h)
    refine ⟨fun h => absurd h.2.1 q, fun _ => ?_⟩
    simp (maxSteps := 3000000) (disch := omega) only [↓nx_q, zb0_s, zb1_s, zb2_s, zb3_s, zb4_s, zb5_s, zb6_s, zb7_s, zb8_s, zb9_s, zb10_s, zb11_s, zb12_s, zb13_s, zb14_s, q_lit, nI_add, pk_mul, e_cl, gi_in, gz_n0, gz_n1, e_gz, si_eq, si_ne, sa_eq, sa_ne, if_true, if_false, ↓reduceIte, k_ltT, k_ltF, k_leT, k_leF, k_eqT, k_eqF, k_m1lt, k_nm1, not_true_eq_false, not_false_eq_true, q_andn']
def TbO (o : Ob) (A i : Nat) : Prop := ∀ l, l < i → Sb l A → o 3 l = nI (tb (o 3) l) ∧ tb (o 3) l ≤ cntB l 32
theorem cnt_32 (l : Nat) : cntB l 32 ≤ 32 := cnt_le l 32
theorem c_needOf {o : Ob} {σ : Nat → Nat} {T A L l : Nat} (hW : WF σ) (hR : Rd σ T A L) (hL : L ≤ 40) (hO : RdO o σ T L) (hl : Sb l A) (hT : TbO o A l) : Ok (f_X7_needOf o (nI l)) (fun r => ∃ d, r = nI d ∧ d ≤ cntB l 32 ∧ (∀ s, goP σ T L l s → d ≤ tb (o 3) (l ^^^ s) + 1) ∧ (d = cntB l 32 ∨ ∃ s, goP σ T L l s ∧ d = tb (o 3) (l ^^^ s) + 1)) := by
  have hA := Rd_A hR
  have hla := sb_le hl
  have hc := cnt_32 l
  unfold f_X7_needOf
  rw [zb1_of (c_bitCount (f := l) (by omega)), ok_zb1]
  refine ok_mono (ok_zl2 (Q := fun r => ∃ d, r = nI d ∧ d ≤ cntB l 32 ∧ (∀ s, goP σ T L l s → d ≤ tb (o 3) (l ^^^ s) + 1) ∧ (d = cntB l 32 ∨ ∃ s, goP σ T L l s ∧ d = tb (o 3) (l ^^^ s) + 1)) (fun i r k => ∃ d s, r = nI d ∧ k = nI s ∧ s + i ≤ l ∧ Sb s l ∧ d ≤ cntB l 32 ∧ (∀ t, s < t → goP σ T L l t → d ≤ tb (o 3) (l ^^^ t) + 1) ∧ (d = cntB l 32 ∨ ∃ s, goP σ T L l s ∧ d = tb (o 3) (l ^^^ s) + 1)) l (fun i r k hi hI => ?_) (fu_lt (by omega)) ⟨_, l, rfl, rfl, by omega, fun j q => q, Nat.le_refl _, fun t h g => absurd (sb_le g.2.1) (by omega), Or.inl rfl⟩) (fun y hy => ok_some.mpr hy)
  obtain ⟨d, s, rfl, rfl, h1, h2, h3, h4, h5⟩ := hI
  by_cases q0 : s = 0
  · subst q0
    simp (maxSteps := 3000000) (disch := omega) only [↓nx_q, zb0_s, zb1_s, zb2_s, zb3_s, zb4_s, zb5_s, zb6_s, zb7_s, zb8_s, zb9_s, zb10_s, zb11_s, zb12_s, zb13_s, zb14_s, q_lit, nI_add, pk_mul, e_cl, gi_in, gz_n0, gz_n1, e_gz, si_eq, si_ne, sa_eq, sa_ne, if_true, if_false, ↓reduceIte, k_ltT, k_ltF, k_leT, k_leF, k_eqT, k_eqF, k_m1lt, k_nm1, not_true_eq_false, not_false_eq_true]
    exact ⟨_, rfl, d, rfl, h3, fun t g => h4 t (Nat.pos_of_ne_zero g.1) g, h5⟩
  · have hp : (s - 1) &&& l ≤ s - 1 := Nat.and_le_left
    have hcg := c_canGo (s := s) hW hR hL hO hl (by omega) q0
    have hsb : Sb ((s - 1) &&& l) l := fun j q => by
      rw [Nat.testBit_and] at q
      cases z : l.testBit j
      · rw [z] at q; simpa using q
      · rfl
    have hnx : ∀ t, (s - 1) &&& l < t → goP σ T L l t → t ≠ s → s < t := fun t a g e => by
      refine Classical.byContradiction fun y => ?_
      have := sub_pred s s l t (Nat.le_refl _) h2 g.2.1 (by omega)
      omega
    by_cases q : goP σ T L l s
    · have hcg := hcg.1 q
      have hlt := sb_lt (by omega) h2 q0
      have hxs : Sb (l ^^^ s) A := sb_tr (sb_x (by omega) h2) hl
      obtain ⟨t1, t2⟩ := hT _ hlt hxs
      have h32 := cnt_32 (l ^^^ s)
      by_cases q2 : d ≤ tb (o 3) (l ^^^ s) + 1
      · simp (maxSteps := 3000000) (disch := omega) only [↓nx_q, zb0_s, zb1_s, zb2_s, zb3_s, zb4_s, zb5_s, zb6_s, zb7_s, zb8_s, zb9_s, zb10_s, zb11_s, zb12_s, zb13_s, zb14_s, q_lit, nI_add, pk_mul, e_cl, gi_in, gz_n0, gz_n1, e_gz, si_eq, si_ne, sa_eq, sa_ne, if_true, if_false, ↓reduceIte, k_ltT, k_ltF, k_leT, k_leF, k_eqT, k_eqF, k_m1lt, k_nm1, not_true_eq_false, not_false_eq_true, hcg, q_xor, t1, e_sub, q_and]
        refine ⟨_, rfl, by omega, d, _, rfl, rfl, by omega, hsb, h3, fun t a g => ?_, h5⟩
        by_cases e : t = s
        · subst e; exact q2
        · exact h4 t (hnx t a g e) g
      · simp (maxSteps := 3000000) (disch := omega) only [↓nx_q, zb0_s, zb1_s, zb2_s, zb3_s, zb4_s, zb5_s, zb6_s, zb7_s, zb8_s, zb9_s, zb10_s, zb11_s, zb12_s, zb13_s, zb14_s, q_lit, nI_add, pk_mul, e_cl, gi_in, gz_n0, gz_n1, e_gz, si_eq, si_ne, sa_eq, sa_ne, if_true, if_false, ↓reduceIte, k_ltT, k_ltF, k_leT, k_leF, k_eqT, k_eqF, k_m1lt, k_nm1, not_true_eq_false, not_false_eq_true, hcg, q_xor, t1, e_sub, q_and]
        refine ⟨_, rfl, by omega, _, _, rfl, rfl, by omega, hsb, by omega, fun t a g => ?_, Or.inr ⟨s, q, rfl⟩⟩
        by_cases e : t = s
        · subst e; exact Nat.le_refl _
        · have := h4 t (hnx t a g e) g
          omega
    · have hcg := hcg.2 q
      simp (maxSteps := 3000000) (disch := omega) only [↓nx_q, zb0_s, zb1_s, zb2_s, zb3_s, zb4_s, zb5_s, zb6_s, zb7_s, zb8_s, zb9_s, zb10_s, zb11_s, zb12_s, zb13_s, zb14_s, q_lit, nI_add, pk_mul, e_cl, gi_in, gz_n0, gz_n1, e_gz, si_eq, si_ne, sa_eq, sa_ne, if_true, if_false, ↓reduceIte, k_ltT, k_ltF, k_leT, k_leF, k_eqT, k_eqF, k_m1lt, k_nm1, not_true_eq_false, not_false_eq_true, hcg, e_sub, q_and]
      refine ⟨_, rfl, by omega, d, _, rfl, rfl, by omega, hsb, h3, fun t a g => ?_, h5⟩
      by_cases e : t = s
      · subst e; exact absurd g q
      · exact h4 t (hnx t a g e) g
