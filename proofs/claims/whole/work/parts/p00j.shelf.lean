/-! ===== what is booked of a deed ===== -/
def FrM (M M' : Ob) : Prop := ∀ j, j ≠ 0 → j ≠ 19 → j ≠ 20 → j ≠ 21 → M' j = M j
theorem FrM_refl (M : Ob) : FrM M M := fun _ _ _ _ _ => rfl
theorem FrM_trans {M M1 M2 : Ob} (h : FrM M M1) (g : FrM M1 M2) : FrM M M2 := fun j a b c d => (g j a b c d).trans (h j a b c d)
abbrev PQ : Type := (Nat → Nat) × Nat × Bool
def ctN (π : Nat → Nat) (kd am : Nat) : Nat → Nat := if kd = 1 then updN π 4 (π 4 + am) else if kd = 2 then updN π 5 (π 5 + 1) else if kd = 3 then updN (updN π 6 (π 6 + 1)) 4 (π 4 + am) else π
def pst (x : PQ) (d : Nat × Nat × Nat) : PQ := (entN (ctN x.1 d.1 d.2.2) d.1 d.2.1 d.2.2, if 2 ≤ d.1 then psg x.2.1 x.2.2 else x.2.1, if 2 ≤ d.1 then false else x.2.2)
theorem ctN_BW3 {π : Nat → Nat} {kd am : Nat} (h : BW3 π) : BW3 (ctN π kd am) := by
  intro b hb
  refine BW_congr (h b hb) (fun j h1 h2 => ?_)
  unfold ctN
  by_cases q1 : kd = 1
  · rw [if_pos q1, updN_ne (by omega)]
  · rw [if_neg q1]
    by_cases q2 : kd = 2
    · rw [if_pos q2, updN_ne (by omega)]
    · rw [if_neg q2]
      by_cases q3 : kd = 3
      · rw [if_pos q3, updN_ne (by omega), updN_ne (by omega)]
      · rw [if_neg q3]
theorem entN_BW3 {π : Nat → Nat} {kd it am : Nat} (h : BW3 π) : BW3 (entN π kd it am) := entI_BW3 (i := 3) h (by decide)
theorem pst_BW3 {x : PQ} {d : Nat × Nat × Nat} (h : BW3 x.1) : BW3 (pst x d).1 := entN_BW3 (ctN_BW3 h)
def MS (M : Ob) (σ : Nat → Nat) (x : PQ) : Prop := M 0 = rw (jn σ x.1) ∧ GM M x.2.1 x.2.2 ∧ BW3 x.1
theorem GM_fr {M M' : Ob} {g : Nat} {fl : Bool} (h : GM M g fl) (h19 : M' 19 = M 19) (h20 : M' 20 = M 20) (h21 : M' 21 = M 21) : GM M' g fl := by
  obtain ⟨a, b, c, d⟩ := h
  exact ⟨a, by rw [h20]; exact b, by rw [h21]; exact c, fun i hi => by rw [h19]; exact d i hi⟩
theorem MS_set {M : Ob} {σ σ' : Nat → Nat} {x : PQ} (h : MS M σ x) : MS (sa M 0 (rw (jn σ' x.1))) σ' x := ⟨sa_eq _ _ _, GM_fr h.2.1 (sa_ne (by decide)) (sa_ne (by decide)) (sa_ne (by decide)), h.2.2⟩
theorem Fr_set (M : Ob) (f : Fn) : FrM M (sa M 0 f) := fun _ h _ _ _ => sa_ne h
/-! ===== ITEMS that go ===== -/
def dnS (σ : Nat → Nat) (k : Nat) : Nat → Nat := updN (updN σ 3 (andn (σ 3) (2 ^ k))) (32 + k) 0
def fulN (σ : Nat → Nat) (k : Nat) : Nat := 60 * σ (16 + k) / σ (8 + k)
def upS (σ : Nat → Nat) (k : Nat) : Nat → Nat := updN (updN (updN σ 3 (σ 3 ||| 2 ^ k)) (32 + k) (fulN σ k)) (40 + k) 0
theorem m_down {M : Ob} {σ : Nat → Nat} {x : PQ} {k : Nat} (h : MS M σ x) (hk : k < 8) : Ok (f_X12_down M (nI k)) (fun M' => MS M' (dnS σ k) (pst x (2, k, σ (8 + k))) ∧ FrM M M') := by
  obtain ⟨h1, h2, h3⟩ := h
  unfold f_X12_down
  have he := m_entry (M := sa M 0 (rw (jn (dnS σ k) (ctN x.1 2 (σ (8 + k)))))) (kd := 2) (it := k) (am := σ (8 + k)) (sa_eq _ _ _) (ctN_BW3 h3) (by decide)
  simp (disch := omega) only [↓nx_q, zb0_s, zb1_s, zb2_s, zb3_s, zb4_s, zb5_s, zb6_s, zb7_s, zb8_s, zb9_s, zb10_s, zb11_s, zb12_s, zb13_s, zb14_s, q_lit, nI_add, pk_mul, e_cl, gi_in, gz_n0, gz_n1, e_gz, si_eq, si_ne, sa_eq, sa_ne, if_true, if_false, ↓reduceIte, k_ltT, k_ltF, k_leT, k_leF, k_eqT, k_eqF, k_m1lt, k_nm1, not_true_eq_false, not_false_eq_true, h1, rw_ap, upd_rw, sa_sa, jn_l, jn_r, jn_4, jn_5, jn_6, jn_ul, jn_ur, jn_u4, jn_u5, jn_u6, e_shl1, q_andn', updN_ne]
  rw [show updN (updN σ 3 (andn (σ 3) (2 ^ k))) (32 + k) 0 = dnS σ k from rfl, show updN x.1 5 (x.1 5 + 1) = ctN x.1 2 (σ (8 + k)) from rfl, he]
  simp only [↓nx_q, zb0_s, zb1_s, zb2_s, zb3_s, zb4_s, zb5_s, zb6_s, zb7_s, zb8_s, zb9_s, zb10_s, zb11_s, zb12_s, zb13_s, zb14_s, q_lit, nI_add, pk_mul, e_cl, gi_in, gz_n0, gz_n1, e_gz, si_eq, si_ne, sa_eq, sa_ne, if_true, if_false, ↓reduceIte, k_ltT, k_ltF, k_leT, k_leF, k_eqT, k_eqF, k_m1lt, k_nm1, not_true_eq_false, not_false_eq_true, rw_ap, upd_rw, sa_sa, jn_l, jn_r, jn_4, jn_5, jn_6, jn_ul, jn_ur, jn_u4, jn_u5, jn_u6]
  rw [ok_zb1]
  refine ok_mono (m_gatesOpen (g := x.2.1) (fl := x.2.2) (GM_fr h2 (sa_ne (by decide)) (sa_ne (by decide)) (sa_ne (by decide)))) (fun M' hq => ok_some.mpr ⟨⟨?_, hq.1, pst_BW3 h3⟩, ?_⟩)
  · rw [hq.2 0 (by decide) (by decide) (by decide), sa_eq]
    rfl
  · intro j a b c d
    rw [hq.2 j b c d, sa_ne a]
theorem m_up {M : Ob} {σ : Nat → Nat} {x : PQ} {k : Nat} (h : MS M σ x) (hk : k < 8) (h8 : 1 ≤ σ (8 + k) ∧ σ (8 + k) ≤ 6) (h16 : σ (16 + k) ≤ 60) : Ok (f_X12_up M (nI k)) (fun M' => MS M' (upS σ k) (pst x (3, k, σ (16 + k))) ∧ FrM M M') := by
  obtain ⟨h1, h2, h3⟩ := h
  unfold f_X12_up
  have he := m_entry (M := sa M 0 (rw (jn (upS σ k) (ctN x.1 3 (σ (16 + k)))))) (kd := 3) (it := k) (am := σ (16 + k)) (sa_eq _ _ _) (ctN_BW3 h3) (by decide)
  simp (disch := omega) only [↓nx_q, zb0_s, zb1_s, zb2_s, zb3_s, zb4_s, zb5_s, zb6_s, zb7_s, zb8_s, zb9_s, zb10_s, zb11_s, zb12_s, zb13_s, zb14_s, q_lit, nI_add, pk_mul, e_cl, gi_in, gz_n0, gz_n1, e_gz, si_eq, si_ne, sa_eq, sa_ne, if_true, if_false, ↓reduceIte, k_ltT, k_ltF, k_leT, k_leF, k_eqT, k_eqF, k_m1lt, k_nm1, not_true_eq_false, not_false_eq_true, h1, rw_ap, upd_rw, sa_sa, jn_l, jn_r, jn_4, jn_5, jn_6, jn_ul, jn_ur, jn_u4, jn_u5, jn_u6, e_shl1, q_or, updN_ne, gn_ok, e_div]
  rw [show updN (updN (updN σ 3 (σ 3 ||| 2 ^ k)) (32 + k) (60 * σ (16 + k) / σ (8 + k))) (40 + k) 0 = upS σ k from rfl, show updN (updN x.1 6 (x.1 6 + 1)) 4 (x.1 4 + σ (16 + k)) = ctN x.1 3 (σ (16 + k)) from rfl, he]
  simp only [↓nx_q, zb0_s, zb1_s, zb2_s, zb3_s, zb4_s, zb5_s, zb6_s, zb7_s, zb8_s, zb9_s, zb10_s, zb11_s, zb12_s, zb13_s, zb14_s, q_lit, nI_add, pk_mul, e_cl, gi_in, gz_n0, gz_n1, e_gz, si_eq, si_ne, sa_eq, sa_ne, if_true, if_false, ↓reduceIte, k_ltT, k_ltF, k_leT, k_leF, k_eqT, k_eqF, k_m1lt, k_nm1, not_true_eq_false, not_false_eq_true, rw_ap, upd_rw, sa_sa, jn_l, jn_r, jn_4, jn_5, jn_6, jn_ul, jn_ur, jn_u4, jn_u5, jn_u6]
  rw [ok_zb1]
  refine ok_mono (m_gatesOpen (g := x.2.1) (fl := x.2.2) (GM_fr h2 (sa_ne (by decide)) (sa_ne (by decide)) (sa_ne (by decide)))) (fun M' hq => ok_some.mpr ⟨⟨?_, hq.1, pst_BW3 h3⟩, ?_⟩)
  · rw [hq.2 0 (by decide) (by decide) (by decide), sa_eq]
    rfl
  · intro j a b c d
    rw [hq.2 j b c d, sa_ne a]
