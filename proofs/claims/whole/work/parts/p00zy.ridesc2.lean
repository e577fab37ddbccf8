theorem RdO_fr {o o' : Ob} {σ : Nat → Nat} {T L : Nat} (h : RdO o σ T L) (h2 : o' 2 = o 2) (h4 : o' 4 = o 4) (h5 : o' 5 = o 5) (h6 : o' 6 = o 6) : RdO o' σ T L := by
  unfold RdO
  rw [h2, h4, h5, h6]
  exact h
theorem tb_upd {f : Fn} {k d : Nat} (hd : d < 2147483648) (x : Nat) : tb (upd f k (nI d)) x = if x = k then d else tb f x := by
  by_cases e : x = k
  · subst e
    rw [if_pos rfl]
    exact tb_of (by simp only [si_eq, si_ne, sa_eq, sa_ne, upd_eq, upd_ne, updN_eq, updN_ne]) hd
  · rw [if_neg e]
    unfold tb
    rw [upd_ne e]
/-- the counts, one more -/
theorem nd_step {σ : Nat → Nat} {T A L l d : Nat} {D E : Nat → Nat} (hR : Rd σ T A L) (hl : l ≠ 0) (h0 : E l = d) (hE : ∀ x, x < l → Sb x A → E x = D x) (hb : ∀ x, x < l → Sb x A → D x ≤ cntB x 32) (h1 : d ≤ cntB l 32) (h2 : ∀ s, goP σ T L l s → d ≤ D (l ^^^ s) + 1) (h3 : d = cntB l 32 ∨ ∃ s, goP σ T L l s ∧ d = D (l ^^^ s) + 1) : NdAt σ T A L E l := by
  intro hg
  have hA := Rd_A hR
  have hla := sb_le hg.1
  have hx : ∀ s, goP σ T L l s → E (l ^^^ s) = D (l ^^^ s) := fun s g => by
    have := go_lg hR hg g
    exact hE _ this.2 this.1.1
  refine ⟨fun e => absurd e hl, fun _ => ⟨?_, fun s g => by rw [h0, hx s g]; exact h2 s g⟩⟩
  rcases h3 with h3 | ⟨s, g, h3⟩
  · obtain ⟨k, k1, k2, k3⟩ := go_one hR hg hl
    have g1 := go_lg hR hg k3
    have z := cnt_clr (f := l) (k := k) (n := 32) (by omega) (by have := hR.1; omega) k2
    rw [← sb_xor (by omega) k3.2.1] at z
    have y := hb _ g1.2 g1.1.1
    have w := h2 _ k3
    refine ⟨_, k3, ?_⟩
    rw [h0, hx _ k3]
    omega
  · exact ⟨s, g, by rw [h0, hx s g]; exact h3⟩
theorem cnt_z (n : Nat) : cntB 0 n = 0 := sumB_0
theorem c_countNeeds {o : Ob} {σ : Nat → Nat} {T A L : Nat} (hW : WF σ) (hR : Rd σ T A L) (hL : L ≤ 40) (hO : RdO o σ T L) : Ok (f_X7_countNeeds o (nI A)) (fun o' => (∀ j, j ≠ 3 → o' j = o j) ∧ TbO o' A (A + 1) ∧ ∀ l, l ≤ A → NdAt σ T A L (tb (o' 3)) l) := by
  have hA := Rd_A hR
  unfold f_X7_countNeeds
  simp (maxSteps := 3000000) (disch := omega) only [↓nx_q, q_lit, gi_in, e_cl]
  rw [ok_zb1]
  refine ok_mono (ok_zl2 (Q := fun o' => (∀ j, j ≠ 3 → o' j = o j) ∧ TbO o' A (A + 1) ∧ ∀ l, l ≤ A → NdAt σ T A L (tb (o' 3)) l) (fun i o' k => k = nI (i + 1) ∧ (∀ j, j ≠ 3 → o' j = o j) ∧ TbO o' A (i + 1) ∧ ∀ l, l ≤ i → NdAt σ T A L (tb (o' 3)) l) A (fun i o1 k hi hI => ?_) (fu_lt (by omega)) ⟨rfl, fun j hj => ?_, fun l hl _ => ?_, fun l hl hg => ?_⟩) (fun y hy => ok_some.mpr hy)
  · obtain ⟨rfl, hf, hT, hN⟩ := hI
    by_cases q : i = A
    · subst q
      simp (maxSteps := 3000000) (disch := omega) only [↓nx_q, zb0_s, zb1_s, zb2_s, zb3_s, zb4_s, zb5_s, zb6_s, zb7_s, zb8_s, zb9_s, zb10_s, zb11_s, zb12_s, zb13_s, zb14_s, q_lit, nI_add, pk_mul, e_cl, gi_in, gz_n0, gz_n1, e_gz, si_eq, si_ne, sa_eq, sa_ne, if_true, if_false, ↓reduceIte, k_ltT, k_ltF, k_leT, k_leF, k_eqT, k_eqF, k_m1lt, k_nm1, not_true_eq_false, not_false_eq_true]
      exact ⟨_, rfl, hf, hT, hN⟩
    · have han := andn_le (i + 1) A
      by_cases b : Sb (i + 1) A
      · have b1 : andn (i + 1) A = 0 := (sb_andn (by omega)).mpr b
        obtain ⟨r, er, d, rfl, d1, d2, d3⟩ := c_needOf hW hR hL (RdO_fr hO (hf 2 (by decide)) (hf 4 (by decide)) (hf 5 (by decide)) (hf 6 (by decide))) b (l := i + 1) hT
        have hc := cnt_32 (i + 1)
        simp (maxSteps := 3000000) (disch := omega) only [↓nx_q, zb0_s, zb1_s, zb2_s, zb3_s, zb4_s, zb5_s, zb6_s, zb7_s, zb8_s, zb9_s, zb10_s, zb11_s, zb12_s, zb13_s, zb14_s, q_lit, nI_add, pk_mul, e_cl, gi_in, gz_n0, gz_n1, e_gz, si_eq, si_ne, sa_eq, sa_ne, if_true, if_false, ↓reduceIte, k_ltT, k_ltF, k_leT, k_leF, k_eqT, k_eqF, k_m1lt, k_nm1, not_true_eq_false, not_false_eq_true, q_andn', b1, er]
        have ht : ∀ x, tb (sa o1 3 (upd (o1 3) (i + 1) (nI d)) 3) x = if x = i + 1 then d else tb (o1 3) x := fun x => by
          rw [sa_eq]
          exact tb_upd (by omega) x
        refine ⟨_, rfl, by omega, rfl, fun j hj => ?_, fun l hl hs => ?_, fun l hl => ?_⟩
        · simp (disch := omega) only [si_eq, si_ne, sa_eq, sa_ne, upd_eq, upd_ne, updN_eq, updN_ne]
          exact hf j hj
        · dsimp only
          rw [ht l]
          by_cases e : l = i + 1
          · subst e
            rw [if_pos rfl]
            simp (disch := omega) only [si_eq, si_ne, sa_eq, sa_ne, upd_eq, upd_ne, updN_eq, updN_ne]
            exact ⟨trivial, d1⟩
          · rw [if_neg e]
            simp (disch := omega) only [si_eq, si_ne, sa_eq, sa_ne, upd_eq, upd_ne, updN_eq, updN_ne]
            exact hT l (by omega) hs
        · by_cases e : l = i + 1
          · subst e
            refine nd_step (D := tb (o1 3)) hR (by omega) ((ht _).trans (if_pos rfl)) (fun x hx _ => (ht x).trans (if_neg (by omega))) (fun x hx hs => (hT x hx hs).2) d1 d2 d3
          · exact nd_cg hR (hN l (by omega)) (fun x hx _ => ((ht x).trans (if_neg (by omega))).symm)
      · have b1 : andn (i + 1) A ≠ 0 := fun h => b ((sb_andn (by omega)).mp h)
        simp (maxSteps := 3000000) (disch := omega) only [↓nx_q, zb0_s, zb1_s, zb2_s, zb3_s, zb4_s, zb5_s, zb6_s, zb7_s, zb8_s, zb9_s, zb10_s, zb11_s, zb12_s, zb13_s, zb14_s, q_lit, nI_add, pk_mul, e_cl, gi_in, gz_n0, gz_n1, e_gz, si_eq, si_ne, sa_eq, sa_ne, if_true, if_false, ↓reduceIte, k_ltT, k_ltF, k_leT, k_leF, k_eqT, k_eqF, k_m1lt, k_nm1, not_true_eq_false, not_false_eq_true, q_andn']
        refine ⟨_, rfl, by omega, rfl, hf, fun l hl hs => ?_, fun l hl hg => ?_⟩
        · by_cases e : l = i + 1
          · subst e; exact absurd hs b
          · exact hT l (by omega) hs
        · by_cases e : l = i + 1
          · subst e; exact absurd hg.1 b
          · exact hN l (by omega) hg
  · simp (disch := omega) only [si_eq, si_ne, sa_eq, sa_ne, upd_eq, upd_ne, updN_eq, updN_ne]
  · have e : l = 0 := by omega
    subst e
    have ht : tb (sa o 3 (upd (o 3) 0 (nI 0)) 3) 0 = 0 := tb_of (by simp (disch := omega) only [si_eq, si_ne, sa_eq, sa_ne, upd_eq, upd_ne, updN_eq, updN_ne]) (by decide)
    rw [ht]
    simp (disch := omega) only [si_eq, si_ne, sa_eq, sa_ne, upd_eq, upd_ne, updN_eq, updN_ne]
    exact ⟨trivial, Nat.zero_le _⟩
  · have e : l = 0 := by omega
    subst e
    exact ⟨fun _ => tb_of (by simp (disch := omega) only [si_eq, si_ne, sa_eq, sa_ne, upd_eq, upd_ne, updN_eq, updN_ne]) (by decide), fun h => absurd rfl h⟩
theorem c_firstGoing {o : Ob} {σ : Nat → Nat} {T A L l : Nat} (hW : WF σ) (hR : Rd σ T A L) (hL : L ≤ 40) (hO : RdO o σ T L) (hT : TbO o A (A + 1)) (hN : ∀ l, l ≤ A → NdAt σ T A L (tb (o 3)) l) (hg : Lg σ T A l) (h0 : l ≠ 0) : Ok (f_X7_firstGoing o (nI l)) (fun r => ∃ s, r = nI s ∧ s < 256 ∧ FG σ T L (tb (o 3)) l s) := by
  have hA := Rd_A hR
  have hla := sb_le hg.1
  obtain ⟨⟨s0, g0, e0⟩, hmin⟩ := (hN l hla hg).2 h0
  have hs0 := sb_le g0.2.1
  obtain ⟨tl, tl2⟩ := hT l (by omega) hg.1
  have hc := cnt_32 l
  unfold f_X7_firstGoing
  rw [ok_ze0]
  refine ok_zl1 (fun i k => k = nI (i + 1) ∧ ∀ t, t < i + 1 → ¬ (goP σ T L l t ∧ tb (o 3) (l ^^^ t) + 1 = tb (o 3) l)) l (fun i k hi hI => ?_) (fu_lt (by omega)) ⟨rfl, fun t ht g => g.1.1 (by omega)⟩
  obtain ⟨rfl, hno⟩ := hI
  have hil : i < l := by
    refine Classical.byContradiction fun y => hno s0 (by omega) ⟨g0, e0.symm⟩
  have hcg := c_canGo (s := i + 1) hW hR hL hO hg.1 (by omega) (by omega)
  by_cases q : goP σ T L l (i + 1)
  · have hcg := hcg.1 q
    have g1 := go_lg hR hg q
    obtain ⟨t1, t2⟩ := hT _ (by omega) g1.1.1
    have hc2 := cnt_32 (l ^^^ (i + 1))
    by_cases q2 : tb (o 3) (l ^^^ (i + 1)) + 1 = tb (o 3) l
    · simp (maxSteps := 3000000) (disch := omega) only [↓nx_q, zb0_s, zb1_s, zb2_s, zb3_s, zb4_s, zb5_s, zb6_s, zb7_s, zb8_s, zb9_s, zb10_s, zb11_s, zb12_s, zb13_s, zb14_s, q_lit, nI_add, pk_mul, e_cl, gi_in, gz_n0, gz_n1, e_gz, si_eq, si_ne, sa_eq, sa_ne, if_true, if_false, ↓reduceIte, k_ltT, k_ltF, k_leT, k_leF, k_eqT, k_eqF, k_m1lt, k_nm1, not_true_eq_false, not_false_eq_true, hcg, q_xor, t1, tl, e_sub]
      exact ⟨_, rfl, _, rfl, i + 1, rfl, by omega, ⟨q, q2⟩, hno⟩
    · simp (maxSteps := 3000000) (disch := omega) only [↓nx_q, zb0_s, zb1_s, zb2_s, zb3_s, zb4_s, zb5_s, zb6_s, zb7_s, zb8_s, zb9_s, zb10_s, zb11_s, zb12_s, zb13_s, zb14_s, q_lit, nI_add, pk_mul, e_cl, gi_in, gz_n0, gz_n1, e_gz, si_eq, si_ne, sa_eq, sa_ne, if_true, if_false, ↓reduceIte, k_ltT, k_ltF, k_leT, k_leF, k_eqT, k_eqF, k_m1lt, k_nm1, not_true_eq_false, not_false_eq_true, hcg, q_xor, t1, tl, e_sub]
      refine ⟨_, rfl, hil, rfl, fun t ht g => ?_⟩
      by_cases e : t = i + 1
      · subst e; exact q2 g.2
      · exact hno t (by omega) g
  · have hcg := hcg.2 q
    simp (maxSteps := 3000000) (disch := omega) only [↓nx_q, zb0_s, zb1_s, zb2_s, zb3_s, zb4_s, zb5_s, zb6_s, zb7_s, zb8_s, zb9_s, zb10_s, zb11_s, zb12_s, zb13_s, zb14_s, q_lit, nI_add, pk_mul, e_cl, gi_in, gz_n0, gz_n1, e_gz, si_eq, si_ne, sa_eq, sa_ne, if_true, if_false, ↓reduceIte, k_ltT, k_ltF, k_leT, k_leF, k_eqT, k_eqF, k_m1lt, k_nm1, not_true_eq_false, not_false_eq_true, hcg]
    refine ⟨_, rfl, hil, rfl, fun t ht g => ?_⟩
    by_cases e : t = i + 1
    · subst e; exact q g.1
    · exact hno t (by omega) g
