/-! ===== rides: the model ===== -/
def RdM (M : Ob) (σ : Nat → Nat) (A L : Nat) : Prop := M 0 = rw σ ∧ M 43 0 = nI A ∧ M 44 0 = nI L
theorem x_left {F T l : Nat} (h256 : F ^^^ T < 256) (hl : Sb l (F ^^^ T)) : F ^^^ andn (F ^^^ T) l = T ^^^ l := by
  refine tb_ext fun j => ?_
  rw [Nat.testBit_xor, tb_andn (by omega), Nat.testBit_xor, Nat.testBit_xor]
  have := hl j
  rw [Nat.testBit_xor] at this
  cases hF : F.testBit j <;> cases hT : T.testBit j <;> cases hL : l.testBit j <;> simp_all
theorem m_isRide {M : Ob} {σ : Nat → Nat} {T L l s : Nat} (hW : WF σ) (hR : Rd σ T (σ 3 ^^^ T) L) (hL : L ≤ 40) (hM : RdM M σ (σ 3 ^^^ T) L) (hl : Sb l (σ 3 ^^^ T)) (hs : s < 256) (h0 : s ≠ 0) : (goP σ T L l s → f_X12_isRide M (nI l) (nI s) = some (nI 1)) ∧ (¬ goP σ T L l s → f_X12_isRide M (nI l) (nI s) = some (nI 0)) := by
  have hA := Rd_A hR
  have hT := Rd_T hR
  have hla := sb_le hl
  have hal := andn_le s l
  have hr := hW.1.2.2.1
  have e1 := m_sizeOf (s := s) hM.1 hR.1 (by omega)
  have b1 := sz_le hW s
  have ex := x_left hA hl
  have hx : T ^^^ l ^^^ s < 256 := x_lt (x_lt hT (by omega)) hs
  have e2 := m_sizeOf (s := T ^^^ l ^^^ s) hM.1 hR.1 (by omega)
  have b2 := sz_le hW (T ^^^ l ^^^ s)
  unfold szS at b1 b2
  unfold f_X12_isRide
  by_cases q : Sb s l
  · have q1 : andn s l = 0 := (sb_andn (by omega)).mpr q
    by_cases q2 : sumB (szN σ) s (σ 2) ≤ L
    · by_cases q3 : sumB (szN σ) (T ^^^ l ^^^ s) (σ 2) ≤ σ 0
      · refine ⟨fun _ => ?_, fun h => absurd ⟨h0, q, q2, q3⟩ h⟩
        simp (maxSteps := 3000000) (disch := omega) only [↓nx_q, zb0_s, zb1_s, zb2_s, zb3_s, zb4_s, zb5_s, zb6_s, zb7_s, zb8_s, zb9_s, zb10_s, zb11_s, zb12_s, zb13_s, zb14_s, q_lit, nI_add, pk_mul, e_cl, gi_in, gz_n0, gz_n1, e_gz, si_eq, si_ne, sa_eq, sa_ne, if_true, if_false, ↓reduceIte, k_ltT, k_ltF, k_leT, k_leF, k_eqT, k_eqF, k_m1lt, k_nm1, not_true_eq_false, not_false_eq_true, hM.1, hM.2.1, hM.2.2, rw_ap, upd_rw, sa_sa, jn_l, jn_r, jn_4, jn_5, jn_6, jn_ul, jn_ur, jn_u4, jn_u5, jn_u6, q_andn', q1, q_xor, ex, e1, e2]
      · refine ⟨fun h => absurd h.2.2.2 q3, fun _ => ?_⟩
        simp (maxSteps := 3000000) (disch := omega) only [↓nx_q, zb0_s, zb1_s, zb2_s, zb3_s, zb4_s, zb5_s, zb6_s, zb7_s, zb8_s, zb9_s, zb10_s, zb11_s, zb12_s, zb13_s, zb14_s, q_lit, nI_add, pk_mul, e_cl, gi_in, gz_n0, gz_n1, e_gz, si_eq, si_ne, sa_eq, sa_ne, if_true, if_false, ↓reduceIte, k_ltT, k_ltF, k_leT, k_leF, k_eqT, k_eqF, k_m1lt, k_nm1, not_true_eq_false, not_false_eq_true, hM.1, hM.2.1, hM.2.2, rw_ap, upd_rw, sa_sa, jn_l, jn_r, jn_4, jn_5, jn_6, jn_ul, jn_ur, jn_u4, jn_u5, jn_u6, q_andn', q1, q_xor, ex, e1, e2]
    · refine ⟨fun h => absurd h.2.2.1 q2, fun _ => ?_⟩
      simp (maxSteps := 3000000) (disch := omega) only [↓nx_q, zb0_s, zb1_s, zb2_s, zb3_s, zb4_s, zb5_s, zb6_s, zb7_s, zb8_s, zb9_s, zb10_s, zb11_s, zb12_s, zb13_s, zb14_s, q_lit, nI_add, pk_mul, e_cl, gi_in, gz_n0, gz_n1, e_gz, si_eq, si_ne, sa_eq, sa_ne, if_true, if_false, ↓reduceIte, k_ltT, k_ltF, k_leT, k_leF, k_eqT, k_eqF, k_m1lt, k_nm1, not_true_eq_false, not_false_eq_true, hM.1, hM.2.1, hM.2.2, rw_ap, upd_rw, sa_sa, jn_l, jn_r, jn_4, jn_5, jn_6, jn_ul, jn_ur, jn_u4, jn_u5, jn_u6, q_andn', q1, q_xor, ex, e1, e2]
  · have q1 : andn s l ≠ 0 := fun h => q ((sb_andn (by omega)).mp h)
    refine ⟨fun h => absurd h.2.1 q, fun _ => ?_⟩
    simp (maxSteps := 3000000) (disch := omega) only [↓nx_q, zb0_s, zb1_s, zb2_s, zb3_s, zb4_s, zb5_s, zb6_s, zb7_s, zb8_s, zb9_s, zb10_s, zb11_s, zb12_s, zb13_s, zb14_s, q_lit, nI_add, pk_mul, e_cl, gi_in, gz_n0, gz_n1, e_gz, si_eq, si_ne, sa_eq, sa_ne, if_true, if_false, ↓reduceIte, k_ltT, k_ltF, k_leT, k_leF, k_eqT, k_eqF, k_m1lt, k_nm1, not_true_eq_false, not_false_eq_true, q_andn']
def TbM (f : Fn) (i : Nat) : Prop := ∀ l, l < i → f l = nI (tb f l) ∧ tb f l ≤ 100000000
theorem RdM_fr {M M' : Ob} {σ : Nat → Nat} {A L : Nat} (h : RdM M σ A L) (h0 : M' 0 = M 0) (h1 : M' 43 = M 43) (h2 : M' 44 = M 44) : RdM M' σ A L := by
  unfold RdM
  rw [h0, h1, h2]
  exact h
/-- one set's count -/
theorem m_few1 {M : Ob} {σ : Nat → Nat} {T L l : Nat} {B : Ob → Int32 → Option ((Ob × Int32) ⊕ Ob)} (hW : WF σ) (hR : Rd σ T (σ 3 ^^^ T) L) (hL : L ≤ 40) (hM : RdM M σ (σ 3 ^^^ T) L) (hl : Sb l (σ 3 ^^^ T)) (hT : TbM (M 40) l) (h0 : M 40 l = nI 100000000) (hB : ∀ (o74 : Ob) (k75 : Int32), B o74 k75 = (
  if nI l < k75 then (
  some (.inr o74)
  ) else (
  zb1 (f_X12_isRide o74 (nI l) k75) fun (r80 : Int32) =>
  if r80 = 0 then (
  nx (k75 + (1 : Int32)) fun x82 =>
  some (.inl (o74, x82))
  ) else (
  gi (nI l &&& (k75 ^^^ (-1 : Int32))) 256 <|
  gi (nI l) 256 <|
  if o74 40 (Int32.toNatClampNeg (nI l)) ≤ (o74 40 (Int32.toNatClampNeg (nI l &&& (k75 ^^^ (-1 : Int32))))) + (1 : Int32) then (
  nx (k75 + (1 : Int32)) fun x85 =>
  some (.inl (o74, x85))
  ) else (
  gi (nI l &&& (k75 ^^^ (-1 : Int32))) 256 <|
  gi (nI l) 256 <|
  nx (sa o74 40 (upd (o74 40) (Int32.toNatClampNeg (nI l)) ((o74 40 (Int32.toNatClampNeg (nI l &&& (k75 ^^^ (-1 : Int32))))) + (1 : Int32)))) fun o88 =>
  nx (k75 + (1 : Int32)) fun x89 =>
  some (.inl (o88, x89))
  )
  )
  )
  )) : Ok (zl2 B FU M (nI 1)) (fun M' => (∀ j, j ≠ 40 → M' j = M j) ∧ (∀ x, x ≠ l → M' 40 x = M 40 x) ∧ ∃ d, M' 40 l = nI d ∧ d ≤ 100000000 ∧ (∀ t, goP σ T L l t → d ≤ tb (M 40) (l ^^^ t) + 1) ∧ (d = 100000000 ∨ ∃ s, goP σ T L l s ∧ d = tb (M 40) (l ^^^ s) + 1)) := by
  have hA := Rd_A hR
  have hla := sb_le hl
  refine ok_zl2 (fun i M' k => k = nI (i + 1) ∧ (∀ j, j ≠ 40 → M' j = M j) ∧ (∀ x, x ≠ l → M' 40 x = M 40 x) ∧ ∃ d, M' 40 l = nI d ∧ d ≤ 100000000 ∧ (∀ t, t < i + 1 → goP σ T L l t → d ≤ tb (M 40) (l ^^^ t) + 1) ∧ (d = 100000000 ∨ ∃ s, goP σ T L l s ∧ d = tb (M 40) (l ^^^ s) + 1)) l (fun i M' k hi hI => ?_) (fu_lt (by omega)) ⟨rfl, fun _ _ => rfl, fun _ _ => rfl, _, h0, Nat.le_refl _, fun t ht g => absurd (by omega) g.1, Or.inl rfl⟩
  obtain ⟨rfl, fr, ft, d, hd, d1, d2, d3⟩ := hI
  rw [hB]
  by_cases q : i = l
  · subst q
    simp (maxSteps := 3000000) (disch := omega) only [↓nx_q, zb0_s, zb1_s, zb2_s, zb3_s, zb4_s, zb5_s, zb6_s, zb7_s, zb8_s, zb9_s, zb10_s, zb11_s, zb12_s, zb13_s, zb14_s, q_lit, nI_add, pk_mul, e_cl, gi_in, gz_n0, gz_n1, e_gz, si_eq, si_ne, sa_eq, sa_ne, if_true, if_false, ↓reduceIte, k_ltT, k_ltF, k_leT, k_leF, k_eqT, k_eqF, k_m1lt, k_nm1, not_true_eq_false, not_false_eq_true]
    exact ⟨_, rfl, fr, ft, d, hd, d1, fun t g => d2 t (by have := sb_le g.2.1; omega) g, d3⟩
  · have hM' : RdM M' σ (σ 3 ^^^ T) L := RdM_fr hM (fr 0 (by decide)) (fr 43 (by decide)) (fr 44 (by decide))
    have hcg := m_isRide (s := i + 1) hW hR hL hM' hl (by omega) (by omega)
    by_cases q1 : goP σ T L l (i + 1)
    · have hcg := hcg.1 q1
      have hlt := sb_lt (by omega) q1.2.1 q1.1
      have ea : andn l (i + 1) = l ^^^ (i + 1) := (sb_xor (by omega) q1.2.1).symm
      obtain ⟨t1, t2⟩ := hT _ hlt
      have t1' : M' 40 (l ^^^ (i + 1)) = nI (tb (M 40) (l ^^^ (i + 1))) := by rw [ft _ (by omega)]; exact t1
      by_cases q2 : d ≤ tb (M 40) (l ^^^ (i + 1)) + 1
      · simp (maxSteps := 3000000) (disch := omega) only [↓nx_q, zb0_s, zb1_s, zb2_s, zb3_s, zb4_s, zb5_s, zb6_s, zb7_s, zb8_s, zb9_s, zb10_s, zb11_s, zb12_s, zb13_s, zb14_s, q_lit, nI_add, pk_mul, e_cl, gi_in, gz_n0, gz_n1, e_gz, si_eq, si_ne, sa_eq, sa_ne, if_true, if_false, ↓reduceIte, k_ltT, k_ltF, k_leT, k_leF, k_eqT, k_eqF, k_m1lt, k_nm1, not_true_eq_false, not_false_eq_true, hcg, q_andn', ea, hd, t1']
        refine ⟨_, rfl, by omega, rfl, fr, ft, d, hd, d1, fun t ht g => ?_, d3⟩
        by_cases e : t = i + 1
        · subst e; exact q2
        · exact d2 t (by omega) g
      · simp (maxSteps := 3000000) (disch := omega) only [↓nx_q, zb0_s, zb1_s, zb2_s, zb3_s, zb4_s, zb5_s, zb6_s, zb7_s, zb8_s, zb9_s, zb10_s, zb11_s, zb12_s, zb13_s, zb14_s, q_lit, nI_add, pk_mul, e_cl, gi_in, gz_n0, gz_n1, e_gz, si_eq, si_ne, sa_eq, sa_ne, if_true, if_false, ↓reduceIte, k_ltT, k_ltF, k_leT, k_leF, k_eqT, k_eqF, k_m1lt, k_nm1, not_true_eq_false, not_false_eq_true, hcg, q_andn', ea, hd, t1']
        refine ⟨_, rfl, by omega, rfl, fun j hj => ?_, fun x hx => ?_, tb (M 40) (l ^^^ (i + 1)) + 1, ?_, by omega, fun t ht g => ?_, Or.inr ⟨_, q1, rfl⟩⟩
        · simp (disch := omega) only [si_eq, si_ne, sa_eq, sa_ne, upd_eq, upd_ne, updN_eq, updN_ne]; exact fr j hj
        · simp (disch := omega) only [si_eq, si_ne, sa_eq, sa_ne, upd_eq, upd_ne, updN_eq, updN_ne]; exact ft x hx
        · simp (disch := omega) only [si_eq, si_ne, sa_eq, sa_ne, upd_eq, upd_ne, updN_eq, updN_ne]
        · by_cases e : t = i + 1
          · subst e; exact Nat.le_refl _
          · have := d2 t (by omega) g
            omega
    · have hcg := hcg.2 q1
      simp (maxSteps := 3000000) (disch := omega) only [↓nx_q, zb0_s, zb1_s, zb2_s, zb3_s, zb4_s, zb5_s, zb6_s, zb7_s, zb8_s, zb9_s, zb10_s, zb11_s, zb12_s, zb13_s, zb14_s, q_lit, nI_add, pk_mul, e_cl, gi_in, gz_n0, gz_n1, e_gz, si_eq, si_ne, sa_eq, sa_ne, if_true, if_false, ↓reduceIte, k_ltT, k_ltF, k_leT, k_leF, k_eqT, k_eqF, k_m1lt, k_nm1, not_true_eq_false, not_false_eq_true, hcg]
      refine ⟨_, rfl, by omega, rfl, fr, ft, d, hd, d1, fun t ht g => ?_, d3⟩
      by_cases e : t = i + 1
      · subst e; exact absurd g q1
      · exact d2 t (by omega) g
theorem nd_stepM {σ : Nat → Nat} {T A L l d : Nat} {D E : Nat → Nat} (hR : Rd σ T A L) (hl : l ≠ 0) (h0 : E l = d) (hE : ∀ x, x < l → E x = D x) (hb : ∀ x, x < l → Lg σ T A x → D x ≤ 8) (h2 : ∀ s, goP σ T L l s → d ≤ D (l ^^^ s) + 1) (h3 : d = 100000000 ∨ ∃ s, goP σ T L l s ∧ d = D (l ^^^ s) + 1) : NdAt σ T A L E l := by
  intro hg
  have hx : ∀ s, goP σ T L l s → E (l ^^^ s) = D (l ^^^ s) := fun s g => hE _ (go_lg hR hg g).2
  refine ⟨fun e => absurd e hl, fun _ => ⟨?_, fun s g => by rw [h0, hx s g]; exact h2 s g⟩⟩
  rcases h3 with h3 | ⟨s, g, h3⟩
  · obtain ⟨k, k1, k2, k3⟩ := go_one hR hg hl
    have g1 := go_lg hR hg k3
    have y := hb _ g1.2 g1.1
    have w := h2 _ k3
    exact absurd w (by omega)
  · exact ⟨s, g, by rw [h0, hx s g]; exact h3⟩
/-- bounds from the counts so far -/
theorem nd_le' {σ : Nat → Nat} {T A L i : Nat} {D : Nat → Nat} (hR : Rd σ T A L) (hD : ∀ l, l < i → NdAt σ T A L D l) : ∀ n l, l ≤ n → l < i → Lg σ T A l → D l ≤ cntB l (σ 2) := by
  intro n
  induction n with
  | zero =>
    intro l h hi hl
    have h0 : l = 0 := by omega
    rw [(hD l hi hl).1 h0]
    exact Nat.zero_le _
  | succ n ih =>
    intro l h hi hl
    have hA := sb_le hl.1
    have h256 := Rd_A hR
    by_cases h0 : l = 0
    · rw [(hD l hi hl).1 h0]
      exact Nat.zero_le _
    · obtain ⟨k, k1, k2, k3⟩ := go_one hR hl h0
      have g1 := go_lg hR hl k3
      have x1 := ih _ (by omega) (by omega) g1.1
      have y1 := ((hD l hi hl).2 h0).2 _ k3
      have z := cnt_clr (f := l) (by omega) k1 k2
      rw [← sb_xor (by omega) k3.2.1] at z
      omega
