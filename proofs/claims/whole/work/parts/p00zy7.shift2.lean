theorem m_dnAll {M : Ob} {p : (Nat → Nat) × PQ} {g m c : Nat} {x : Int32} {B : Ob → Int32 → Option ((Ob × Int32) ⊕ Ob)} (h : MS M p.1 p.2) (hW : WF p.1) (hm : Sb m (p.1 3)) (hm2 : m < 256) (hc : c < 8) (hg : nI g &&& x = nI m) (h45 : M 45 c = nI g) (hB : ∀ (o94 : Ob) (k95 : Int32), B o94 k95 = (
  gi (2 : Int32) 835 <|
  if o94 0 (Int32.toNatClampNeg (2 : Int32)) ≤ k95 then (
  some (.inr o94)
  ) else (
  gi (nI c) 8 <|
  zb1 (f_X12_bitOf ((o94 45 (Int32.toNatClampNeg (nI c))) &&& x) k95) fun (r130 : Int32) =>
  if r130 = 0 then (
  nx (k95 + (1 : Int32)) fun x132 =>
  some (.inl (o94, x132))
  ) else (
  zb1 (f_X12_down o94 k95) fun (o133 : Ob) =>
  nx (k95 + (1 : Int32)) fun x135 =>
  some (.inl (o133, x135))
  )
  )
  )) : Ok (zl2 B FU M (nI 0)) (fun M' => MS M' (mvA m p (p.1 2)).1 (mvA m p (p.1 2)).2 ∧ FrM M M') := by
  have h8 : p.1 2 ≤ 8 := hW.1.1
  have h256 := WF_256 hW
  refine ok_zl2 (fun i M' k => k = nI i ∧ MS M' (mvA m p i).1 (mvA m p i).2 ∧ FrM M M') (p.1 2) (fun i M' k hi hI => ?_) (fu_lt (by omega)) ⟨rfl, h, fun _ _ _ _ _ => rfl⟩
  obtain ⟨rfl, hS, hF⟩ := hI
  rw [hB]
  have f2 := mvA_fr (m := m) (p := p) (i := i) (by omega) 2 (by decide) (by omega)
  have m0 := hS.1
  have e45 : M' 45 c = nI g := by rw [hF 45 (by decide) (by decide) (by decide) (by decide)]; exact h45
  by_cases q : i = p.1 2
  · simp (maxSteps := 3000000) (disch := omega) only [↓nx_q, zb0_s, zb1_s, zb2_s, zb3_s, zb4_s, zb5_s, zb6_s, zb7_s, zb8_s, zb9_s, zb10_s, zb11_s, zb12_s, zb13_s, zb14_s, q_lit, nI_add, pk_mul, e_cl, gi_in, gz_n0, gz_n1, e_gz, si_eq, si_ne, sa_eq, sa_ne, if_true, if_false, ↓reduceIte, k_ltT, k_ltF, k_leT, k_leF, k_eqT, k_eqF, k_m1lt, k_nm1, not_true_eq_false, not_false_eq_true, m0, rw_ap, upd_rw, sa_sa, jn_l, jn_r, jn_4, jn_5, jn_6, jn_ul, jn_ur, jn_u4, jn_u5, jn_u6, f2]
    subst q
    exact ⟨_, rfl, hS, hF⟩
  · by_cases b : m.testBit i = true
    · have bb := mvA_at (m := m) h256 (i := i) (by omega)
      rw [hm i b] at bb
      simp (maxSteps := 3000000) (disch := omega) only [↓nx_q, zb0_s, zb1_s, zb2_s, zb3_s, zb4_s, zb5_s, zb6_s, zb7_s, zb8_s, zb9_s, zb10_s, zb11_s, zb12_s, zb13_s, zb14_s, q_lit, nI_add, pk_mul, e_cl, gi_in, gz_n0, gz_n1, e_gz, si_eq, si_ne, sa_eq, sa_ne, if_true, if_false, ↓reduceIte, k_ltT, k_ltF, k_leT, k_leF, k_eqT, k_eqF, k_m1lt, k_nm1, not_true_eq_false, not_false_eq_true, m0, rw_ap, upd_rw, sa_sa, jn_l, jn_r, jn_4, jn_5, jn_6, jn_ul, jn_ur, jn_u4, jn_u5, jn_u6, f2, e45, hg, m_bitOf, if_pos b]
      rw [ok_zb1]
      refine ok_mono (m_down hS (k := i) (by omega)) (fun M2 h2 => ⟨_, rfl, by omega, rfl, ?_, fun j a b c d => (h2.2 j a b c d).trans (hF j a b c d)⟩)
      rw [mvA_y b, mv1_y bb]
      exact h2.1
    · simp (maxSteps := 3000000) (disch := omega) only [↓nx_q, zb0_s, zb1_s, zb2_s, zb3_s, zb4_s, zb5_s, zb6_s, zb7_s, zb8_s, zb9_s, zb10_s, zb11_s, zb12_s, zb13_s, zb14_s, q_lit, nI_add, pk_mul, e_cl, gi_in, gz_n0, gz_n1, e_gz, si_eq, si_ne, sa_eq, sa_ne, if_true, if_false, ↓reduceIte, k_ltT, k_ltF, k_leT, k_leF, k_eqT, k_eqF, k_m1lt, k_nm1, not_true_eq_false, not_false_eq_true, m0, rw_ap, upd_rw, sa_sa, jn_l, jn_r, jn_4, jn_5, jn_6, jn_ul, jn_ur, jn_u4, jn_u5, jn_u6, f2, e45, hg, m_bitOf, if_neg b]
      refine ⟨_, rfl, by omega, rfl, ?_, hF⟩
      rw [mvA_n b]
      exact hS
theorem m_upAll {M : Ob} {p : (Nat → Nat) × PQ} {g m c : Nat} {x : Int32} {B : Ob → Int32 → Option ((Ob × Int32) ⊕ Ob)} (h : MS M p.1 p.2) (hW : WF p.1) (hm : ∀ j, m.testBit j = true → (p.1 3).testBit j = false) (hm2 : m < 256) (hc : c < 8) (hg : nI g &&& x = nI m) (h45 : M 45 c = nI g) (hB : ∀ (o94 : Ob) (k95 : Int32), B o94 k95 = (
  gi (2 : Int32) 835 <|
  if o94 0 (Int32.toNatClampNeg (2 : Int32)) ≤ k95 then (
  some (.inr o94)
  ) else (
  gi (nI c) 8 <|
  zb1 (f_X12_bitOf ((o94 45 (Int32.toNatClampNeg (nI c))) &&& x) k95) fun (r130 : Int32) =>
  if r130 = 0 then (
  nx (k95 + (1 : Int32)) fun x132 =>
  some (.inl (o94, x132))
  ) else (
  zb1 (f_X12_up o94 k95) fun (o133 : Ob) =>
  nx (k95 + (1 : Int32)) fun x135 =>
  some (.inl (o133, x135))
  )
  )
  )) : Ok (zl2 B FU M (nI 0)) (fun M' => MS M' (mvA m p (p.1 2)).1 (mvA m p (p.1 2)).2 ∧ FrM M M') := by
  have h8 : p.1 2 ≤ 8 := hW.1.1
  have h256 := WF_256 hW
  refine ok_zl2 (fun i M' k => k = nI i ∧ MS M' (mvA m p i).1 (mvA m p i).2 ∧ FrM M M') (p.1 2) (fun i M' k hi hI => ?_) (fu_lt (by omega)) ⟨rfl, h, fun _ _ _ _ _ => rfl⟩
  obtain ⟨rfl, hS, hF⟩ := hI
  rw [hB]
  have f2 := mvA_fr (m := m) (p := p) (i := i) (by omega) 2 (by decide) (by omega)
  have m0 := hS.1
  have e45 : M' 45 c = nI g := by rw [hF 45 (by decide) (by decide) (by decide) (by decide)]; exact h45
  by_cases q : i = p.1 2
  · simp (maxSteps := 3000000) (disch := omega) only [↓nx_q, zb0_s, zb1_s, zb2_s, zb3_s, zb4_s, zb5_s, zb6_s, zb7_s, zb8_s, zb9_s, zb10_s, zb11_s, zb12_s, zb13_s, zb14_s, q_lit, nI_add, pk_mul, e_cl, gi_in, gz_n0, gz_n1, e_gz, si_eq, si_ne, sa_eq, sa_ne, if_true, if_false, ↓reduceIte, k_ltT, k_ltF, k_leT, k_leF, k_eqT, k_eqF, k_m1lt, k_nm1, not_true_eq_false, not_false_eq_true, m0, rw_ap, upd_rw, sa_sa, jn_l, jn_r, jn_4, jn_5, jn_6, jn_ul, jn_ur, jn_u4, jn_u5, jn_u6, f2]
    subst q
    exact ⟨_, rfl, hS, hF⟩
  · by_cases b : m.testBit i = true
    · have bb := mvA_at (m := m) h256 (i := i) (by omega)
      rw [hm i b] at bb
      have hi := hW.1.2.2.2.2.1 i (by omega)
      have f8 := mvA_fr (m := m) (p := p) (i := i) (by omega) (8 + i) (by omega) (by omega)
      have f16 := mvA_fr (m := m) (p := p) (i := i) (by omega) (16 + i) (by omega) (by omega)
      simp (maxSteps := 3000000) (disch := omega) only [↓nx_q, zb0_s, zb1_s, zb2_s, zb3_s, zb4_s, zb5_s, zb6_s, zb7_s, zb8_s, zb9_s, zb10_s, zb11_s, zb12_s, zb13_s, zb14_s, q_lit, nI_add, pk_mul, e_cl, gi_in, gz_n0, gz_n1, e_gz, si_eq, si_ne, sa_eq, sa_ne, if_true, if_false, ↓reduceIte, k_ltT, k_ltF, k_leT, k_leF, k_eqT, k_eqF, k_m1lt, k_nm1, not_true_eq_false, not_false_eq_true, m0, rw_ap, upd_rw, sa_sa, jn_l, jn_r, jn_4, jn_5, jn_6, jn_ul, jn_ur, jn_u4, jn_u5, jn_u6, f2, e45, hg, m_bitOf, if_pos b]
      rw [ok_zb1]
      refine ok_mono (m_up hS (k := i) (by omega) (by rw [f8]; exact hi.1) (by rw [f16]; exact hi.2.1.2)) (fun M2 h2 => ⟨_, rfl, by omega, rfl, ?_, fun j a b c d => (h2.2 j a b c d).trans (hF j a b c d)⟩)
      rw [mvA_y b, mv1_n bb]
      exact h2.1
    · simp (maxSteps := 3000000) (disch := omega) only [↓nx_q, zb0_s, zb1_s, zb2_s, zb3_s, zb4_s, zb5_s, zb6_s, zb7_s, zb8_s, zb9_s, zb10_s, zb11_s, zb12_s, zb13_s, zb14_s, q_lit, nI_add, pk_mul, e_cl, gi_in, gz_n0, gz_n1, e_gz, si_eq, si_ne, sa_eq, sa_ne, if_true, if_false, ↓reduceIte, k_ltT, k_ltF, k_leT, k_leF, k_eqT, k_eqF, k_m1lt, k_nm1, not_true_eq_false, not_false_eq_true, m0, rw_ap, upd_rw, sa_sa, jn_l, jn_r, jn_4, jn_5, jn_6, jn_ul, jn_ur, jn_u4, jn_u5, jn_u6, f2, e45, hg, m_bitOf, if_neg b]
      refine ⟨_, rfl, by omega, rfl, ?_, hF⟩
      rw [mvA_n b]
      exact hS
/-- the rides, one after another -/
def rdA (F T n : Nat) (g : Nat → Nat) (p : (Nat → Nat) × PQ) : Nat → (Nat → Nat) × PQ
  | 0 => p
  | i + 1 => mvA (g i &&& T) (mvA (g i &&& F) (rdA F T n g p i) n) n
theorem sz_fr {σ τ : Nat → Nat} (e : ∀ j, j ≠ 3 → (j < 32 ∨ 48 ≤ j) → τ j = σ j) (h8 : σ 2 ≤ 8) (s : Nat) : szS τ s = szS σ s := by
  unfold szS
  rw [e 2 (by decide) (by omega)]
  exact sumB_congr (fun _ _ => rfl) (fun k hk _ => e (8 + k) (by omega) (by omega))
/-- one ride: what it finds, what it leaves -/
def RdI (σ : Nat → Nat) (T : Nat) (g : Nat → Nat) (p : (Nat → Nat) × PQ) (i : Nat) : Prop := WF p.1 ∧ (∀ j, j ≠ 3 → (j < 32 ∨ 48 ≤ j) → p.1 j = σ j) ∧ p.1 3 = T ^^^ lfN (σ 3 ^^^ T) g i
theorem rd_step {σ : Nat → Nat} {T L i : Nat} {D g : Nat → Nat} {p : (Nat → Nat) × PQ} (hR : Rd σ T (σ 3 ^^^ T) L) (hL : Lg σ T (σ 3 ^^^ T) (lfN (σ 3 ^^^ T) g i)) (hF : FG σ T L D (lfN (σ 3 ^^^ T) g i) (g i)) (h : RdI σ T g p i) : g i < 256 ∧ g i &&& p.1 3 = g i &&& σ 3 ∧ andn (g i) (p.1 3) = g i &&& T ∧ Sb (g i &&& σ 3) (p.1 3) ∧ (∀ k, k ≤ σ 2 → WF (mvA (g i &&& σ 3) p k).1) ∧ WF (mvA (g i &&& σ 3) p (σ 2)).1 ∧ (∀ j, (g i &&& T).testBit j = true → ((mvA (g i &&& σ 3) p (σ 2)).1 3).testBit j = false) ∧ (∀ k, k ≤ σ 2 → WF (mvA (g i &&& T) (mvA (g i &&& σ 3) p (σ 2)) k).1) ∧ RdI σ T g (mvA (g i &&& T) (mvA (g i &&& σ 3) p (σ 2)) (σ 2)) (i + 1) := by
  obtain ⟨hW, hfr, h3⟩ := h
  have hA := Rd_A hR
  have h8 := hR.1
  have hle := sb_le hL.1
  have hgs := hF.1.1.2.1
  have hgl := sb_le hgs
  have hgA := sb_tr hgs hL.1
  have h256 := WF_256 hW
  have e2 := hfr 2 (by decide) (by omega)
  have hbit : ∀ j, (g i).testBit j = true → ((p.1 3).testBit j = (σ 3).testBit j ∧ T.testBit j = !(σ 3).testBit j) := fun j q => by
    have a := hgA j q
    have b := hgs j q
    rw [h3, Nat.testBit_xor, b]
    rw [Nat.testBit_xor] at a
    cases x : (σ 3).testBit j <;> cases y : T.testBit j <;> simp_all
  have m1 : g i &&& p.1 3 = g i &&& σ 3 := by
    refine tb_ext fun j => ?_
    rw [Nat.testBit_and, Nat.testBit_and]
    cases q : (g i).testBit j
    · rfl
    · rw [(hbit j q).1]
  have m2 : andn (g i) (p.1 3) = g i &&& T := by
    refine tb_ext fun j => ?_
    rw [tb_andn (by omega), Nat.testBit_and]
    cases q : (g i).testBit j
    · rfl
    · rw [(hbit j q).1, (hbit j q).2]
  have s1 : Sb (g i &&& σ 3) (p.1 3) := fun j q => by
    rw [← m1, Nat.testBit_and] at q
    cases z : (p.1 3).testBit j
    · rw [z] at q; simp at q
    · rfl
  have w1 : ∀ k, k ≤ σ 2 → WF (mvA (g i &&& σ 3) p k).1 := fun k hk => mvA_dn hW s1 k (by omega)
  have l1 : g i &&& σ 3 < 2 ^ σ 2 := Nat.lt_of_le_of_lt Nat.and_le_left (Nat.lt_of_le_of_lt hgl (Nat.lt_of_le_of_lt hle hR.2.2.1))
  have l2 : g i &&& T < 2 ^ σ 2 := Nat.lt_of_le_of_lt Nat.and_le_left (Nat.lt_of_le_of_lt hgl (Nat.lt_of_le_of_lt hle hR.2.2.1))
  have en1 := mvA_end (m := g i &&& σ 3) h256 h8 l1
  have q256 := (mvA_3 (m := g i &&& σ 3) h256 h8).1
  have s2 : ∀ j, (g i &&& T).testBit j = true → ((mvA (g i &&& σ 3) p (σ 2)).1 3).testBit j = false := fun j q => by
    rw [Nat.testBit_and] at q
    rw [en1, Nat.testBit_xor, Nat.testBit_and]
    cases z : (g i).testBit j
    · rw [z] at q; simp at q
    · rw [(hbit j z).1]
      have := (hbit j z).2
      rw [z] at q
      cases y : (σ 3).testBit j <;> simp_all
  have en2 := mvA_end (m := g i &&& T) (p := mvA (g i &&& σ 3) p (σ 2)) q256 h8 l2
  have ex : (mvA (g i &&& T) (mvA (g i &&& σ 3) p (σ 2)) (σ 2)).1 3 = T ^^^ lfN (σ 3 ^^^ T) g i ^^^ g i := by
    rw [en2, en1, h3]
    refine tb_ext fun j => ?_
    simp only [Nat.testBit_xor, Nat.testBit_and]
    cases z : (g i).testBit j
    · simp
    · have := (hbit j z).2
      rw [this]
      cases y : (σ 3).testBit j <;> simp
  have fr1 : ∀ j, j ≠ 3 → (j < 32 ∨ 48 ≤ j) → (mvA (g i &&& σ 3) p (σ 2)).1 j = σ j := fun j a b => (mvA_fr h8 j a b).trans (hfr j a b)
  have w2 : ∀ k, k ≤ σ 2 → WF (mvA (g i &&& T) (mvA (g i &&& σ 3) p (σ 2)) k).1 := fun k hk => by
    refine mvA_up (w1 (σ 2) (Nat.le_refl _)) s2 ?_ k (by rw [fr1 2 (by decide) (by omega)]; exact hk)
    rw [sz_fr fr1 h8, fr1 0 (by decide) (by omega), ← en2, ex]
    exact hF.1.1.2.2.2
  refine ⟨by omega, m1, m2, s1, w1, w1 _ (Nat.le_refl _), s2, w2, w2 _ (Nat.le_refl _), fun j a b => (mvA_fr h8 j a b).trans (fr1 j a b), ?_⟩
  rw [ex]
  show T ^^^ lfN (σ 3 ^^^ T) g i ^^^ g i = T ^^^ (lfN (σ 3 ^^^ T) g i ^^^ g i)
  rw [Nat.xor_assoc]
