theorem dzero {σ : Nat → Nat} {T A L l : Nat} {D : Nat → Nat} (hN : ∀ l, l ≤ A → NdAt σ T A L D l) (hg : Lg σ T A l) : (l = 0 → D l = 0) ∧ (l ≠ 0 → 0 < D l) := by
  obtain ⟨a, b⟩ := hN l (sb_le hg.1) hg
  refine ⟨a, fun h => ?_⟩
  obtain ⟨⟨s, g, e⟩, _⟩ := b h
  omega
/-- a way grows by one ride -/
theorem ch_step {σ : Nat → Nat} {T A L i s : Nat} {D g g' : Nat → Nat} (hR : Rd σ T A L) (h : ChR σ T A L D g i) (hF : FG σ T L D (lfN A g i) s) (e : ∀ j, j < i → g' j = g j) (es : g' i = s) : ChR σ T A L D g' (i + 1) ∧ lfN A g' (i + 1) = lfN A g i ^^^ s := by
  have el : ∀ j, j ≤ i → lfN A g' j = lfN A g j := fun j hj => lfN_cg fun x hx => e x (by omega)
  have en : lfN A g' (i + 1) = lfN A g i ^^^ s := by
    show lfN A g' i ^^^ g' i = _
    rw [el i (Nat.le_refl _), es]
  refine ⟨⟨?_, ?_, fun j hj => ?_⟩, en⟩
  · rw [en]
    have := hF.1.2
    have := h.1
    omega
  · rw [en]
    exact (go_lg hR h.2.1 hF.1.1).1
  · by_cases q : j = i
    · subst q
      rw [el j (Nat.le_refl _), es]
      exact ⟨h.2.1, hF⟩
    · rw [el j (by omega), e j (by omega)]
      exact h.2.2 j (by omega)
theorem ch_0 {σ : Nat → Nat} {T A L : Nat} {D g : Nat → Nat} (h : Lg σ T A A) : ChR σ T A L D g 0 := ⟨rfl, h, fun j hj => absurd hj (Nat.not_lt_zero _)⟩
theorem c_find {o w s : Ob} {σ : Nat → Nat} {T L : Nat} (hW : WF σ) (hR : Rd σ T (σ 3 ^^^ T) L) (hL : L ≤ 40) (hw : RCw w σ) (hs0 : s 0 0 = nI (σ 0)) (hs2 : s 2 0 = nI (σ 3)) (hA : Lg σ T (σ 3 ^^^ T) (σ 3 ^^^ T)) : Ok (f_X7_find o w s (nI T) (nI L)) (fun o' => ∃ c D, (∀ l, l ≤ σ 3 ^^^ T → NdAt σ T (σ 3 ^^^ T) L D l) ∧ c = D (σ 3 ^^^ T) ∧ c ≤ 8 ∧ o' 0 0 = nI c ∧ ChR σ T (σ 3 ^^^ T) L D (tb (o' 1)) c ∧ ∀ i, i < c → o' 1 i = nI (tb (o' 1) i) ∧ tb (o' 1) i < 256) := by
  have h256 := Rd_A hR
  have hr := hW.1.2.2.1
  unfold f_X7_find
  simp (maxSteps := 3000000) (disch := omega) only [↓nx_q, q_lit, hs0]
  obtain ⟨f, ef, hf⟩ := c_sumSize (f := si (si (si o 4 (nI T)) 5 (nI L)) 6 (nI (σ 0)) 2) hw hW.1.1
  rw [zb1_of ef]
  simp (maxSteps := 3000000) (disch := omega) only [↓nx_q, hs2, si_eq, si_ne, sa_ne, q_xor]
  obtain ⟨o1, e1, fr, hT, hN⟩ := c_countNeeds (o := sa (si (si (si o 4 (nI T)) 5 (nI L)) 6 (nI (σ 0))) 2 f) hW hR hL ⟨fun s hs => by simp (disch := omega) only [si_eq, si_ne, sa_eq, sa_ne, upd_eq, upd_ne, updN_eq, updN_ne]; exact hf s hs, by simp (disch := omega) only [si_eq, si_ne, sa_eq, sa_ne, upd_eq, upd_ne, updN_eq, updN_ne], by simp (disch := omega) only [si_eq, si_ne, sa_eq, sa_ne, upd_eq, upd_ne, updN_eq, updN_ne], by simp (disch := omega) only [si_eq, si_ne, sa_eq, sa_ne, upd_eq, upd_ne, updN_eq, updN_ne]⟩
  rw [zb1_of e1]
  have tA := hT (σ 3 ^^^ T) (by omega) (fun j q => q)
  have cA := nd_le hR hN _ _ (Nat.le_refl _) hA
  have cn := cnt_le (σ 3 ^^^ T) (σ 2)
  have h8 := hR.1
  simp (maxSteps := 3000000) (disch := omega) only [↓nx_q, gi_in, e_cl, tA.1]
  rw [ok_zb1]
  have hO : ∀ o', (∀ j, j ≠ 0 → j ≠ 1 → o' j = o1 j) → RdO o' σ T L ∧ o' 3 = o1 3 := fun o' h => by
    have z : ∀ j, j ≠ 0 → j ≠ 1 → j ≠ 3 → o' j = sa (si (si (si o 4 (nI T)) 5 (nI L)) 6 (nI (σ 0))) 2 f j := fun j a b c => by rw [h j a b, fr j c]
    refine ⟨⟨fun s hs => ?_, ?_, ?_, ?_⟩, h 3 (by decide) (by decide)⟩
    · rw [z 2 (by decide) (by decide) (by decide)]; simp (disch := omega) only [si_eq, si_ne, sa_eq, sa_ne, upd_eq, upd_ne, updN_eq, updN_ne]; exact hf s hs
    · rw [z 4 (by decide) (by decide) (by decide)]; simp (disch := omega) only [si_eq, si_ne, sa_eq, sa_ne, upd_eq, upd_ne, updN_eq, updN_ne]
    · rw [z 5 (by decide) (by decide) (by decide)]; simp (disch := omega) only [si_eq, si_ne, sa_eq, sa_ne, upd_eq, upd_ne, updN_eq, updN_ne]
    · rw [z 6 (by decide) (by decide) (by decide)]; simp (disch := omega) only [si_eq, si_ne, sa_eq, sa_ne, upd_eq, upd_ne, updN_eq, updN_ne]
  refine ok_mono (ok_zl3 (Q := fun o' => ∃ c D, (∀ l, l ≤ σ 3 ^^^ T → NdAt σ T (σ 3 ^^^ T) L D l) ∧ c = D (σ 3 ^^^ T) ∧ c ≤ 8 ∧ o' 0 0 = nI c ∧ ChR σ T (σ 3 ^^^ T) L D (tb (o' 1)) c ∧ ∀ i, i < c → o' 1 i = nI (tb (o' 1) i) ∧ tb (o' 1) i < 256) (fun i o' k kk => kk = nI i ∧ o' 0 0 = nI (tb (o1 3) (σ 3 ^^^ T)) ∧ (∀ j, j ≠ 0 → j ≠ 1 → o' j = o1 j) ∧ k = nI (lfN (σ 3 ^^^ T) (tb (o' 1)) i) ∧ ChR σ T (σ 3 ^^^ T) L (tb (o1 3)) (tb (o' 1)) i ∧ ∀ j, j < i → o' 1 j = nI (tb (o' 1) j) ∧ tb (o' 1) j < 256) (tb (o1 3) (σ 3 ^^^ T)) (fun i o2 k kk hi hI => ?_) (fu_lt (by omega)) ⟨rfl, ?_, fun j a b => ?_, rfl, ch_0 hA, fun j hj => absurd hj (Nat.not_lt_zero _)⟩) (fun y hy => ok_some.mpr hy)
  · obtain ⟨rfl, a, b, rfl, c, d⟩ := hI
    by_cases q : i = tb (o1 3) (σ 3 ^^^ T)
    · simp (maxSteps := 3000000) (disch := omega) only [↓nx_q, zb0_s, zb1_s, zb2_s, zb3_s, zb4_s, zb5_s, zb6_s, zb7_s, zb8_s, zb9_s, zb10_s, zb11_s, zb12_s, zb13_s, zb14_s, q_lit, nI_add, pk_mul, e_cl, gi_in, gz_n0, gz_n1, e_gz, si_eq, si_ne, sa_eq, sa_ne, if_true, if_false, ↓reduceIte, k_ltT, k_ltF, k_leT, k_leF, k_eqT, k_eqF, k_m1lt, k_nm1, not_true_eq_false, not_false_eq_true, a]
      subst q
      exact ⟨_, rfl, _, _, hN, rfl, by omega, a, c, d⟩
    · have hz := dzero hN c.2.1
      have hne : lfN (σ 3 ^^^ T) (tb (o2 1)) i ≠ 0 := fun e => by
        have := hz.1 e
        have := c.1
        omega
      have hl3 := sb_le c.2.1.1
      obtain ⟨hO1, hO3⟩ := hO o2 b
      obtain ⟨r, er, s, rfl, s256, hF⟩ := c_firstGoing (o := o2) hW hR hL hO1 (fun l hl hs => by rw [hO3]; exact hT l hl hs) (by rw [hO3]; exact hN) c.2.1 hne
      rw [hO3] at hF
      have ht : ∀ x, tb (sa o2 1 (upd (o2 1) i (nI s)) 1) x = if x = i then s else tb (o2 1) x := fun x => by
        rw [sa_eq]
        exact tb_upd (by omega) x
      obtain ⟨c1, c2⟩ := ch_step (g' := tb (sa o2 1 (upd (o2 1) i (nI s)) 1)) hR c hF (fun j hj => (ht j).trans (if_neg (by omega))) ((ht i).trans (if_pos rfl))
      simp (maxSteps := 3000000) (disch := omega) only [↓nx_q, zb0_s, zb1_s, zb2_s, zb3_s, zb4_s, zb5_s, zb6_s, zb7_s, zb8_s, zb9_s, zb10_s, zb11_s, zb12_s, zb13_s, zb14_s, q_lit, nI_add, pk_mul, e_cl, gi_in, gz_n0, gz_n1, e_gz, si_eq, si_ne, sa_eq, sa_ne, if_true, if_false, ↓reduceIte, k_ltT, k_ltF, k_leT, k_leF, k_eqT, k_eqF, k_m1lt, k_nm1, not_true_eq_false, not_false_eq_true, a, er, q_xor, upd_eq]
      refine ⟨_, rfl, by omega, rfl, ?_, fun j x y => ?_, ?_, c1, fun j hj => ?_⟩
      · simp (disch := omega) only [si_eq, si_ne, sa_eq, sa_ne, upd_eq, upd_ne, updN_eq, updN_ne]; exact a
      · simp (disch := omega) only [si_eq, si_ne, sa_eq, sa_ne, upd_eq, upd_ne, updN_eq, updN_ne]; exact b j x y
      · exact congrArg nI c2.symm
      · dsimp only
        rw [ht j]
        by_cases e : j = i
        · subst e
          rw [if_pos rfl]
          simp (disch := omega) only [si_eq, si_ne, sa_eq, sa_ne, upd_eq, upd_ne, updN_eq, updN_ne]
          exact ⟨trivial, s256⟩
        · rw [if_neg e]
          simp (disch := omega) only [si_eq, si_ne, sa_eq, sa_ne, upd_eq, upd_ne, updN_eq, updN_ne]
          exact d j (by omega)
  · simp (disch := omega) only [si_eq, si_ne, sa_eq, sa_ne, upd_eq, upd_ne, updN_eq, updN_ne]
  · simp (disch := omega) only [si_eq, si_ne, sa_eq, sa_ne, upd_eq, upd_ne, updN_eq, updN_ne]
