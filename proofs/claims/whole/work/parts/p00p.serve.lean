/-! ===== a REQUEST on both sides ===== -/
def pay1 (d : Nat × Nat × Nat) : Nat := if d.1 = 1 ∨ d.1 = 3 then d.2.2 else 0
def payD : DL → Nat
  | [] => 0
  | d :: D => pay1 d + payD D
theorem payD_app (A B : DL) : payD (A ++ B) = payD A + payD B := by
  induction A with
  | nil => show payD B = 0 + payD B; omega
  | cons a A ih => show pay1 a + payD (A ++ B) = pay1 a + payD A + payD B; omega
theorem entN_fr {π : Nat → Nat} {kd it am j : Nat} (h : BW3 π) (hj : j < 544) : entN π kd it am j = π j := by
  have h1 := entI_BW3 (kd := kd) (it := it) (am := am) h (i := 1) (by omega)
  have h2 := entI_BW3 (kd := kd) (it := it) (am := am) h (i := 2) (by omega)
  show bkN (entI π kd it am 2) 2 kd it am j = _
  rw [bkN_fr (h2 2 (by decide)) (by omega) (by omega)]
  show bkN (entI π kd it am 1) 1 kd it am j = _
  rw [bkN_fr (h1 1 (by decide)) (by omega) (by omega)]
  show bkN π 0 kd it am j = _
  rw [bkN_fr (h 0 (by decide)) (by omega) (by omega)]
theorem pst_4 {x : PQ} {d : Nat × Nat × Nat} (h : BW3 x.1) : (pst x d).1 4 = x.1 4 + pay1 d := by
  show entN (ctN x.1 d.1 d.2.2) d.1 d.2.1 d.2.2 4 = _
  rw [entN_fr (ctN_BW3 h) (by decide)]
  unfold ctN pay1
  by_cases q1 : d.1 = 1
  · rw [if_pos q1, if_pos (Or.inl q1), updN_eq]
  · rw [if_neg q1]
    by_cases q2 : d.1 = 2
    · rw [if_pos q2, if_neg (by omega), updN_ne (by decide)]
      rfl
    · rw [if_neg q2]
      by_cases q3 : d.1 = 3
      · rw [if_pos q3, if_pos (Or.inr q3), updN_eq]
      · rw [if_neg q3, if_neg (by omega)]
        rfl
theorem foldl_BW3 : ∀ {D : DL} {x : PQ}, BW3 x.1 → BW3 (D.foldl pst x).1
  | [], _, h => h
  | d :: D, x, h => foldl_BW3 (D := D) (x := pst x d) (pst_BW3 h)
theorem fold_4 : ∀ {D : DL} {x : PQ}, BW3 x.1 → (D.foldl pst x).1 4 = x.1 4 + payD D
  | [], _, _ => rfl
  | d :: D, x, h => by
    show (D.foldl pst (pst x d)).1 4 = _
    rw [fold_4 (pst_BW3 h), pst_4 h]
    show _ = _ + (pay1 d + payD D)
    omega
theorem MS_ent {M : Ob} {σ σ' : Nat → Nat} {x : PQ} {d : Nat × Nat × Nat} (h : MS M σ x) (hd : d.1 < 2) : MS (sa M 0 (rw (jn σ' (pst x d).1))) σ' (pst x d) := by
  refine ⟨sa_eq _ _ _, ?_, pst_BW3 h.2.2⟩
  have h1 : (pst x d).2.1 = x.2.1 := if_neg (by omega)
  have h2 : (pst x d).2.2 = x.2.2 := if_neg (by omega)
  rw [h1, h2]
  exact GM_fr h.2.1 (sa_ne (by decide)) (sa_ne (by decide)) (sa_ne (by decide))
def hotN (σ : Nat → Nat) (k : Nat) : Prop := ¬ Op.cmpValue (FP.fcmp (FP.fmul (nI (σ (48 + k))).toUInt32 (FP.i2f (nI (σ (24 + k))))) (FP.i2f (nI (σ (16 + k))))) .l < nI 0
def rpN (σ : Nat → Nat) (k : Nat) : Prop := σ 1 = 0 ∨ (σ 1 = 1 ∧ σ (16 + k) ≤ σ (40 + k)) ∨ (σ 1 = 2 ∧ hotN σ k)
theorem m_isUp {M : Ob} {σ π : Nat → Nat} {k : Nat} (hM : M 0 = rw (jn σ π)) (h1 : σ 1 ≤ 2) (hk : k < 8) (hh : σ (48 + k) < 2139095040) (hc : σ (40 + k) < 2147483648) (hp : σ (16 + k) ≤ 60) : (rpN σ k → f_X12_isUp M (nI k) = some (nI 1)) ∧ (¬ rpN σ k → f_X12_isUp M (nI k) = some (nI 0)) := by
  unfold f_X12_isUp
  by_cases q0 : σ 1 = 0
  · have hr : rpN σ k := Or.inl q0
    refine ⟨fun _ => ?_, fun h => absurd hr h⟩
    simp (disch := omega) only [↓nx_q, zb0_s, zb1_s, zb2_s, zb3_s, zb4_s, zb5_s, zb6_s, zb7_s, zb8_s, zb9_s, zb10_s, zb11_s, zb12_s, zb13_s, zb14_s, q_lit, nI_add, pk_mul, e_cl, gi_in, gz_n0, gz_n1, e_gz, si_eq, si_ne, sa_eq, sa_ne, if_true, if_false, ↓reduceIte, k_ltT, k_ltF, k_leT, k_leF, k_eqT, k_eqF, k_m1lt, k_nm1, not_true_eq_false, not_false_eq_true, hM, rw_ap, upd_rw, sa_sa, jn_l, jn_r, jn_4, jn_5, jn_6, jn_ul, jn_ur, jn_u4, jn_u5, jn_u6]
  · by_cases q1 : σ 1 = 1
    · have hr : rpN σ k ↔ σ (16 + k) ≤ σ (40 + k) := by
        unfold rpN
        constructor
        · rintro (h | h | h)
          · omega
          · exact h.2
          · omega
        · exact fun h => Or.inr (Or.inl ⟨q1, h⟩)
      refine ⟨fun h => ?_, fun h => ?_⟩
      · have := hr.mp h
        simp (disch := omega) only [↓nx_q, zb0_s, zb1_s, zb2_s, zb3_s, zb4_s, zb5_s, zb6_s, zb7_s, zb8_s, zb9_s, zb10_s, zb11_s, zb12_s, zb13_s, zb14_s, q_lit, nI_add, pk_mul, e_cl, gi_in, gz_n0, gz_n1, e_gz, si_eq, si_ne, sa_eq, sa_ne, if_true, if_false, ↓reduceIte, k_ltT, k_ltF, k_leT, k_leF, k_eqT, k_eqF, k_m1lt, k_nm1, not_true_eq_false, not_false_eq_true, hM, rw_ap, upd_rw, sa_sa, jn_l, jn_r, jn_4, jn_5, jn_6, jn_ul, jn_ur, jn_u4, jn_u5, jn_u6]
      · have : ¬ σ (16 + k) ≤ σ (40 + k) := fun q => h (hr.mpr q)
        simp (disch := omega) only [↓nx_q, zb0_s, zb1_s, zb2_s, zb3_s, zb4_s, zb5_s, zb6_s, zb7_s, zb8_s, zb9_s, zb10_s, zb11_s, zb12_s, zb13_s, zb14_s, q_lit, nI_add, pk_mul, e_cl, gi_in, gz_n0, gz_n1, e_gz, si_eq, si_ne, sa_eq, sa_ne, if_true, if_false, ↓reduceIte, k_ltT, k_ltF, k_leT, k_leF, k_eqT, k_eqF, k_m1lt, k_nm1, not_true_eq_false, not_false_eq_true, hM, rw_ap, upd_rw, sa_sa, jn_l, jn_r, jn_4, jn_5, jn_6, jn_ul, jn_ur, jn_u4, jn_u5, jn_u6]
    · have q2 : σ 1 = 2 := by omega
      have hr : rpN σ k ↔ hotN σ k := by
        unfold rpN
        constructor
        · rintro (h | h | h)
          · omega
          · omega
          · exact h.2
        · exact fun h => Or.inr (Or.inr ⟨q2, h⟩)
      refine ⟨fun h => ?_, fun h => ?_⟩
      · have := hr.mp h
        unfold hotN at this
        simp (disch := omega) only [↓nx_q, zb0_s, zb1_s, zb2_s, zb3_s, zb4_s, zb5_s, zb6_s, zb7_s, zb8_s, zb9_s, zb10_s, zb11_s, zb12_s, zb13_s, zb14_s, q_lit, nI_add, pk_mul, e_cl, gi_in, gz_n0, gz_n1, e_gz, si_eq, si_ne, sa_eq, sa_ne, if_true, if_false, ↓reduceIte, k_ltT, k_ltF, k_leT, k_leF, k_eqT, k_eqF, k_m1lt, k_nm1, not_true_eq_false, not_false_eq_true, hM, rw_ap, upd_rw, sa_sa, jn_l, jn_r, jn_4, jn_5, jn_6, jn_ul, jn_ur, jn_u4, jn_u5, jn_u6, gb_n, gq_r, if_neg this]
      · have : ¬ hotN σ k := fun q => h (hr.mpr q)
        unfold hotN at this
        have := Decidable.not_not.mp this
        simp (disch := omega) only [↓nx_q, zb0_s, zb1_s, zb2_s, zb3_s, zb4_s, zb5_s, zb6_s, zb7_s, zb8_s, zb9_s, zb10_s, zb11_s, zb12_s, zb13_s, zb14_s, q_lit, nI_add, pk_mul, e_cl, gi_in, gz_n0, gz_n1, e_gz, si_eq, si_ne, sa_eq, sa_ne, if_true, if_false, ↓reduceIte, k_ltT, k_ltF, k_leT, k_leF, k_eqT, k_eqF, k_m1lt, k_nm1, not_true_eq_false, not_false_eq_true, hM, rw_ap, upd_rw, sa_sa, jn_l, jn_r, jn_4, jn_5, jn_6, jn_ul, jn_ur, jn_u4, jn_u5, jn_u6, gb_n, gq_r, if_pos this]
theorem c_isRipe {o w : Ob} {σ : Nat → Nat} {k : Nat} (ho : RCh o σ) (hw : RCw w σ) (h1 : σ 1 ≤ 2) (h8 : σ 2 ≤ 8) (hk : k < σ 2) (hh : σ (48 + k) < 2139095040) (hc : σ (40 + k) < 100) (hi : WFi σ) : Ok (f_X8_isRipe o w (nI k)) (fun p => RCh p.1 (if σ 1 = 1 then updN σ (40 + k) (σ (40 + k) + σ (24 + k)) else σ) ∧ (rpN (if σ 1 = 1 then updN σ (40 + k) (σ (40 + k) + σ (24 + k)) else σ) k → p.2 = nI 1) ∧ (¬ rpN (if σ 1 = 1 then updN σ (40 + k) (σ (40 + k) + σ (24 + k)) else σ) k → p.2 = nI 0)) := by
  have hwk := hw.2 k hk
  have hik := hi k hk
  have ok := ho.2.2.2.2 k (by omega)
  have o1 := ho.2.1
  unfold f_X8_isRipe
  by_cases q0 : σ 1 = 0
  · rw [if_neg (show ¬ σ 1 = 1 by omega)]
    simp (disch := omega) only [↓nx_q, zb0_s, zb1_s, zb2_s, zb3_s, zb4_s, zb5_s, zb6_s, zb7_s, zb8_s, zb9_s, zb10_s, zb11_s, zb12_s, zb13_s, zb14_s, q_lit, nI_add, pk_mul, e_cl, gi_in, gz_n0, gz_n1, e_gz, si_eq, si_ne, sa_eq, sa_ne, if_true, if_false, ↓reduceIte, k_ltT, k_ltF, k_leT, k_leF, k_eqT, k_eqF, k_m1lt, k_nm1, not_true_eq_false, not_false_eq_true, o1]
    exact ⟨_, rfl, ho, fun _ => rfl, fun h => absurd (Or.inl q0) h⟩
  · by_cases q1 : σ 1 = 1
    · rw [if_pos q1]
      have o5 := ok.2.2 hk
      have hR : RCh (sa o 5 (upd (o 5) k (nI (σ (40 + k) + σ (24 + k))))) (updN σ (40 + k) (σ (40 + k) + σ (24 + k))) := by
        refine ⟨?_, ?_, ?_, ?_, fun j hj => ?_⟩
        · simp (disch := omega) only [si_eq, si_ne, sa_eq, sa_ne, upd_eq, upd_ne, updN_eq, updN_ne, ho.1]
        · simp (disch := omega) only [si_eq, si_ne, sa_eq, sa_ne, upd_eq, upd_ne, updN_eq, updN_ne, ho.2.1]
        · simp (disch := omega) only [si_eq, si_ne, sa_eq, sa_ne, upd_eq, upd_ne, updN_eq, updN_ne, ho.2.2.1]
        · simp (disch := omega) only [si_eq, si_ne, sa_eq, sa_ne, upd_eq, upd_ne, updN_eq, updN_ne, ho.2.2.2.1]
          exact congrArg nI (lies_congr h8 (fun j hj => updN_ne (by omega))).symm
        · have oj := ho.2.2.2.2 j hj
          by_cases e : j = k
          · subst e
            simp (disch := omega) only [si_eq, si_ne, sa_eq, sa_ne, upd_eq, upd_ne, updN_eq, updN_ne]
            exact ⟨oj.1, oj.2.1, fun _ => trivial⟩
          · simp (disch := omega) only [si_eq, si_ne, sa_eq, sa_ne, upd_eq, upd_ne, updN_eq, updN_ne]
            exact oj
      have hr : rpN (updN σ (40 + k) (σ (40 + k) + σ (24 + k))) k ↔ σ (16 + k) ≤ σ (40 + k) + σ (24 + k) := by
        unfold rpN
        simp (disch := omega) only [si_eq, si_ne, sa_eq, sa_ne, upd_eq, upd_ne, updN_eq, updN_ne]
        constructor
        · rintro (h | h | h)
          · omega
          · exact h.2
          · omega
        · exact fun h => Or.inr (Or.inl ⟨q1, h⟩)
      rw [hr]
      by_cases q : σ (16 + k) ≤ σ (40 + k) + σ (24 + k)
      · simp (disch := omega) only [↓nx_q, zb0_s, zb1_s, zb2_s, zb3_s, zb4_s, zb5_s, zb6_s, zb7_s, zb8_s, zb9_s, zb10_s, zb11_s, zb12_s, zb13_s, zb14_s, q_lit, nI_add, pk_mul, e_cl, gi_in, gz_n0, gz_n1, e_gz, si_eq, si_ne, sa_eq, sa_ne, if_true, if_false, ↓reduceIte, k_ltT, k_ltF, k_leT, k_leF, k_eqT, k_eqF, k_m1lt, k_nm1, not_true_eq_false, not_false_eq_true, o1, hwk.2.1, hwk.2.2.1, o5, upd_eq]
        exact ⟨_, rfl, hR, fun _ => rfl, fun h => absurd q h⟩
      · simp (disch := omega) only [↓nx_q, zb0_s, zb1_s, zb2_s, zb3_s, zb4_s, zb5_s, zb6_s, zb7_s, zb8_s, zb9_s, zb10_s, zb11_s, zb12_s, zb13_s, zb14_s, q_lit, nI_add, pk_mul, e_cl, gi_in, gz_n0, gz_n1, e_gz, si_eq, si_ne, sa_eq, sa_ne, if_true, if_false, ↓reduceIte, k_ltT, k_ltF, k_leT, k_leF, k_eqT, k_eqF, k_m1lt, k_nm1, not_true_eq_false, not_false_eq_true, o1, hwk.2.1, hwk.2.2.1, o5, upd_eq]
        exact ⟨_, rfl, hR, fun h => absurd h q, fun _ => rfl⟩
    · rw [if_neg q1]
      have q2 : σ 1 = 2 := by omega
      have hr : rpN σ k ↔ hotN σ k := by
        unfold rpN
        constructor
        · rintro (h | h | h)
          · omega
          · omega
          · exact h.2
        · exact fun h => Or.inr (Or.inr ⟨q2, h⟩)
      rw [hr]
      by_cases q : hotN σ k
      · have q' := q
        unfold hotN at q'
        simp (disch := omega) only [↓nx_q, zb0_s, zb1_s, zb2_s, zb3_s, zb4_s, zb5_s, zb6_s, zb7_s, zb8_s, zb9_s, zb10_s, zb11_s, zb12_s, zb13_s, zb14_s, q_lit, nI_add, pk_mul, e_cl, gi_in, gz_n0, gz_n1, e_gz, si_eq, si_ne, sa_eq, sa_ne, if_true, if_false, ↓reduceIte, k_ltT, k_ltF, k_leT, k_leF, k_eqT, k_eqF, k_m1lt, k_nm1, not_true_eq_false, not_false_eq_true, o1, hwk.2.1, hwk.2.2.1, ok.2.1, gq_r, if_neg q']
        exact ⟨_, rfl, ho, fun _ => rfl, fun h => absurd q h⟩
      · have q' := q
        unfold hotN at q'
        have q' := Decidable.not_not.mp q'
        simp (disch := omega) only [↓nx_q, zb0_s, zb1_s, zb2_s, zb3_s, zb4_s, zb5_s, zb6_s, zb7_s, zb8_s, zb9_s, zb10_s, zb11_s, zb12_s, zb13_s, zb14_s, q_lit, nI_add, pk_mul, e_cl, gi_in, gz_n0, gz_n1, e_gz, si_eq, si_ne, sa_eq, sa_ne, if_true, if_false, ↓reduceIte, k_ltT, k_ltF, k_leT, k_leF, k_eqT, k_eqF, k_m1lt, k_nm1, not_true_eq_false, not_false_eq_true, o1, hwk.2.1, hwk.2.2.1, ok.2.1, gq_r, if_pos q']
        exact ⟨_, rfl, ho, fun h => absurd h q, fun _ => rfl⟩
/-- what a REQUEST leaves as it is -/
def FrS (σ τ : Nat → Nat) : Prop := ∀ j, j ≠ 3 → (j < 32 ∨ 56 ≤ j) → τ j = σ j
theorem FrS_refl (σ : Nat → Nat) : FrS σ σ := fun _ _ _ => rfl
/-- COUNTERS stay below PRICES but for the moment -/
def WFk (σ : Nat → Nat) : Prop := ∀ k, k < σ 2 → σ (40 + k) < 60
theorem cnt_set {f k n : Nat} (hk : k < n) (h : f.testBit k = false) : cntB (f ||| 2 ^ k) n = cntB f n + 1 := sumB_set (w := fun _ => 1) hk h
theorem wy_pay {σ : Nat → Nat} (h : Wv σ) : ∀ i, payD (wy σ i).2 = 0
  | 0 => rfl
  | i + 1 => by
    have ih := wy_pay h i
    show payD (wst (wy σ i)).2 = 0
    unfold wst
    cases hq : poor (wy σ i).1 ((wy σ i).1 2) with
    | none => exact ih
    | some p =>
      dsimp only
      split
      · show payD ((wy σ i).2 ++ [(2, p, (wy σ i).1 (8 + p))]) = 0
        rw [payD_app, ih]
        rfl
      · exact ih
theorem wy_kind {σ : Nat → Nat} (h : Wv σ) : ∀ i d, d ∈ (wy σ i).2 → d.1 ≤ 3
  | 0, d, hd => by cases hd
  | i + 1, d, hd => by
    have ih := wy_kind h i
    revert hd
    show d ∈ (wst (wy σ i)).2 → _
    unfold wst
    cases hq : poor (wy σ i).1 ((wy σ i).1 2) with
    | none => exact ih d
    | some p =>
      dsimp only
      split
      · intro hd
        rcases List.mem_append.mp hd with h | h
        · exact ih d h
        · rw [List.mem_singleton.mp h]
          show 2 ≤ 3
          decide
      · exact ih d
/-- it goes UP: both sides -/
theorem up_both {σ : Nat → Nat} {k c : Nat} (hv : Wv σ) (hk : k < σ 2) (hb : (σ 3).testBit k = false) (hf : σ (8 + k) ≤ σ 0) (hh : WFhc c σ) (hq : ∀ j, j < σ 2 → j ≠ k → σ (40 + j) < 60) : ∃ (τ : Nat → Nat) (D : DL), Wv τ ∧ WFhc c τ ∧ WFk τ ∧ FrS σ τ ∧ D.length + 1 ≤ 9 ∧ payD D = σ (16 + k) ∧ (∀ d, d ∈ D → d.1 ≤ 3)
    ∧ (∀ (o w d : Ob) (D0 : DL), RCh o σ → RCw w σ → DD d D0 → D0.length ≤ 1 → Ok (zb2 (f_X8_makeWay o w d (nI (σ (8 + k)))) fun (o25 : Ob) (o26 : Ob) => f_X8_raise o25 w o26 (nI k)) (fun p => RCh p.1 τ ∧ DD p.2 (D0 ++ D)))
    ∧ (∀ (M : Ob) (x : PQ), MS M σ x → Ok (zb1 (f_X12_way M (nI (σ (8 + k)))) fun (o51 : Ob) => f_X12_up o51 (nI k)) (fun M' => MS M' τ (D.foldl pst x) ∧ FrM M M')) := by
  obtain ⟨m, hm, hs, hl⟩ := way_ends hv hf
  have hvm := Wv_wy hv m
  have h2 : (wy σ m).1 2 = σ 2 := wy_fr hv (by decide) (by omega) m
  have h0 : (wy σ m).1 0 = σ 0 := wy_fr hv (by decide) (by omega) m
  have h8 : (wy σ m).1 (8 + k) = σ (8 + k) := wy_fr hv (by omega) (by have := hv.1; omega) m
  have h16 : (wy σ m).1 (16 + k) = σ (16 + k) := wy_fr hv (by omega) (by have := hv.1; omega) m
  have hbm := wy_sub hv hb m
  have hlen := wy_len hv m
  have hcnt : cntB (σ 3) (σ 2) ≤ 7 := by
    have h3 := hv.1
    have := cnt_set (f := σ 3) hk hb
    have := cnt_le (σ 3 ||| 2 ^ k) (σ 2)
    omega
  have hst : liesN (wy σ m).1 + (wy σ m).1 (8 + k) ≤ (wy σ m).1 0 := by
    unfold stp at hs
    omega
  have hi8 := hv.1
  refine ⟨upS (wy σ m).1 k, (wy σ m).2 ++ [(3, k, σ (16 + k))], Wv_up hvm (by omega) hbm hst, ?_, ?_, ?_, ?_, ?_, ?_, ?_, ?_⟩
  · intro j hj
    rw [up_2, up_fr (by omega) (by omega) (by omega), wy_fr hv (by omega) (by omega) m, h2]
    exact hh j hj
  · intro j hj
    rw [up_2, h2] at hj
    by_cases e : j = k
    · subst e
      rw [up_c]
      decide
    · rw [up_fr (by omega) (by omega) (by omega), wy_fr hv (by omega) (by omega) m]
      exact hq j hj e
  · intro j h3 h
    rw [up_fr h3 (by omega) (by omega), wy_fr hv h3 (by omega) m]
  · rw [List.length_append]
    simp only [List.length_cons, List.length_nil]
    omega
  · rw [payD_app, wy_pay hv m]
    show 0 + (pay1 (3, k, σ (16 + k)) + 0) = _
    rw [show pay1 (3, k, σ (16 + k)) = σ (16 + k) from rfl]
    omega
  · intro d hd
    rcases List.mem_append.mp hd with h | h
    · exact wy_kind hv m d h
    · rw [List.mem_singleton.mp h]
      show 3 ≤ 3
      decide
  · intro o w d D0 ho hw hd hD
    rw [ok_zb2]
    refine ok_mono (c_makeWay ho hw hd hv hf hm hs hl (by omega)) (fun p hp => ?_)
    have hwm : RCw w (wy σ m).1 := RCw_congr hw hv.1 (fun j a b => wy_fr hv a (by omega) m)
    refine ok_mono (c_raise hp.1 hwm hp.2 hvm.2.2.2.2.1 hvm.1 (by omega) hbm (by rw [List.length_append]; omega)) (fun p2 h => ?_)
    rw [h16] at h
    rw [← List.append_assoc]
    exact h
  · intro M x hM
    rw [ok_zb1]
    refine ok_mono (m_way hM hv hf hm hs hl) (fun M1 h1 => ?_)
    have hi := hvm.2.2.2.2.1 k (by omega)
    refine ok_mono (m_up h1.1 (k := k) (by omega) hi.1 hi.2.1.2) (fun M2 h => ?_)
    rw [h16] at h
    rw [fold_app]
    exact ⟨h.1, FrM_trans h1.2 h.2⟩
theorem Wv_congr {σ τ : Nat → Nat} (h : Wv σ) (e : ∀ j, j < 40 → τ j = σ j) : Wv τ := by
  obtain ⟨a, b, c, d, f, g⟩ := h
  refine ⟨by rw [e 2 (by decide)]; exact a, by rw [e 2 (by decide), e 3 (by decide)]; exact b, by rw [e 0 (by decide)]; exact c, by rw [e 0 (by decide), lies_congr a (fun j hj => e j (by omega))]; exact d, WFi_congr f a (fun j hj _ => e j (by omega)), fun k hk => ?_⟩
  rw [e 3 (by decide), e (32 + k) (by omega)]
  exact g k hk
theorem wrm_fr {σ : Nat → Nat} {k j : Nat} (h2 : σ 2 ≤ 8) (h : j < 48 ∨ 56 ≤ j) : wrm σ k j = σ j := wrmI_fr (by omega)
theorem wrm_h {σ : Nat → Nat} {k c : Nat} (h2 : σ 2 ≤ 8) (hc : c ≤ 100) (hh : WFhc c σ) : WFhc (c + 1) (wrm σ k) := by
  intro j hj
  rw [wrm_fr (j := 2) h2 (by omega)]
  have hj1 := hh j hj
  by_cases q : j < σ 2
  · refine ⟨?_, fun q2 => by omega⟩
    show HT (c + 1) (wrmI σ k (σ 2) (48 + j))
    rw [wrmI_in q]
    split
    · exact HT_w hc hj1.1
    · exact (HT_fm hc hj1.1).1
  · rw [show wrm σ k (48 + j) = σ (48 + j) from wrmI_fr (by omega), hj1.2 (by omega)]
    exact ⟨Or.inl rfl, fun _ => rfl⟩
theorem RCw_fr {w : Ob} {σ τ : Nat → Nat} (h : RCw w σ) (hl : σ 2 ≤ 8) (hf : FrS σ τ) : RCw w τ := RCw_congr h hl (fun j a b => hf j a (by omega))
theorem ok_2 {α β γ : Type} {W : Option α} {U : α → Option β} {f : β → Option γ} {P : β → Prop} {Q : γ → Prop} (h : Ok (zb1 W fun a => U a) P) (g : ∀ y, P y → Ok (f y) Q) : Ok (zb1 W fun a => zb1 (U a) f) Q := by
  rw [ok_zb1] at h
  rw [ok_zb1]
  exact ok_mono h (fun a ha => ok_zb1.mpr (ok_mono ha (fun y hy => g y hy)))
theorem ok_22 {α α' β β' γ : Type} {W : Option (α × α')} {U : α → α' → Option (β × β')} {f : β → β' → Option γ} {P : β × β' → Prop} {Q : γ → Prop} (h : Ok (zb2 W fun a a' => U a a') P) (g : ∀ y, P y → Ok (f y.1 y.2) Q) : Ok (zb2 W fun a a' => zb2 (U a a') f) Q := by
  rw [ok_zb2] at h
  rw [ok_zb2]
  exact ok_mono h (fun a ha => ok_zb2.mpr (ok_mono ha (fun y hy => g y hy)))
theorem serve_both {σ : Nat → Nat} {k c : Nat} (hv : Wv σ) (hr1 : σ 1 ≤ 2) (hk : k < σ 2) (hc : c ≤ 99) (hh : WFhc c σ) (hq : WFk σ) : ∃ (τ : Nat → Nat) (D : DL), Wv τ ∧ WFhc (c + 1) τ ∧ WFk τ ∧ FrS σ τ ∧ payD D ≤ 80 ∧ (∀ d, d ∈ D → d.1 ≤ 3) ∧ D.length ≤ 9
    ∧ (∀ (o w d : Ob), RCh o σ → RCw w σ → DD d [] → Ok (f_X8_serve o w d (nI k)) (fun p => RCh p.1 τ ∧ DD p.2.1 D ∧ p.2.2 = nI (payD D)))
    ∧ (∀ (M : Ob) (x : PQ), MS M σ x → Ok (f_X12_asks M (nI k)) (fun p => MS p.1 τ (D.foldl pst x) ∧ FrM M p.1 ∧ p.2 = nI (payD D))) := by
  have h8 := hv.1
  have h3 := Wv_3 hv
  have hi := hv.2.2.2.2.1 k hk
  have hrm := hv.2.2.1
  generalize hρ : wrm σ k = ρ
  have e : ∀ j, j < 48 ∨ 56 ≤ j → ρ j = σ j := fun j hj => by rw [← hρ]; exact wrm_fr h8 hj
  have hvρ : Wv ρ := Wv_congr hv (fun j hj => e j (by omega))
  have hhρ : WFhc (c + 1) ρ := by rw [← hρ]; exact wrm_h h8 (by omega) hh
  have hqρ : WFk ρ := fun j hj => by
    rw [e 2 (by omega)] at hj
    rw [e (40 + j) (by omega)]
    exact hq j hj
  have hfρ : FrS σ ρ := fun j _ hj => e j (by omega)
  have e3 := e 3 (by omega)
  have e2 := e 2 (by omega)
  have e1 := e 1 (by omega)
  have e0 := e 0 (by omega)
  have e8 := e (8 + k) (by omega)
  have e16 := e (16 + k) (by omega)
  have e24 := e (24 + k) (by omega)
  have hk40 := hqρ k (by omega)
  have hmh : ∀ (M : Ob) (x : PQ), MS M σ x → f_X12_heats M (nI k) = some (sa M 0 (rw (jn ρ x.1))) := fun M x hM => by
    rw [← hρ]
    exact m_heats hM.1 h8 hk (by omega) hh
  have hcw : ∀ o, RCh o σ → Ok (f_X8_warm o (nI k)) (fun o' => RCh o' ρ) := fun o ho => by
    rw [← hρ]
    exact c_warm ho h8 hk (by omega) hh
  have hht := HT_lt (by omega) (hhρ k (by omega)).1
  by_cases q : (σ 3).testBit k = true
  · -- a HIT
    have hfu := ful_le hvρ.2.2.2.2.1 (k := k) (by omega)
    refine ⟨updN ρ (32 + k) (fulN ρ k), [(0, k, 0)], ?_, ?_, ?_, ?_, ?_, ?_, ?_, ?_, ?_⟩
    · obtain ⟨a, b, c, d, f, g⟩ := hvρ
      refine ⟨by rw [updN_ne (by omega)]; exact a, by rw [updN_ne (by omega), updN_ne (by omega)]; exact b, by rw [updN_ne (by omega)]; exact c, ?_, WFi_congr f a (fun j _ _ => updN_ne (by omega)), fun j hj => ?_⟩
      · rw [updN_ne (by omega), lies_congr a (fun j hj => updN_ne (by omega))]
        exact d
      · rw [show updN ρ (32 + k) (fulN ρ k) 3 = ρ 3 from updN_ne (by omega)]
        by_cases ej : j = k
        · subst ej
          rw [updN_eq, e3, q]
          exact ⟨hfu, fun h => by cases h⟩
        · rw [updN_ne (by omega)]
          exact g j hj
    · intro j hj
      rw [updN_ne (by omega), updN_ne (by omega)]
      exact hhρ j hj
    · intro j hj
      rw [updN_ne (by omega)] at hj
      rw [updN_ne (by omega)]
      exact hqρ j hj
    · intro j h3 h
      rw [updN_ne (by omega)]
      exact hfρ j h3 h
    · show 0 + 0 ≤ 80
      decide
    · intro d hd
      rw [List.mem_singleton.mp hd]
      exact Nat.zero_le _
    · show 1 ≤ 9
      decide
    · intro o w d ho hw hd
      unfold f_X8_serve
      rw [ok_zb1]
      refine ok_mono (hcw o ho) (fun o1 ho1 => ?_)
      have hw1 := RCw_fr hw h8 hfρ
      have o2 := ho1.2.2.1
      rw [e3] at o2
      simp (disch := omega) only [↓nx_q, zb0_s, zb1_s, zb2_s, zb3_s, zb4_s, zb5_s, zb6_s, zb7_s, zb8_s, zb9_s, zb10_s, zb11_s, zb12_s, zb13_s, zb14_s, q_lit, nI_add, pk_mul, e_cl, gi_in, gz_n0, gz_n1, e_gz, si_eq, si_ne, sa_eq, sa_ne, if_true, if_false, ↓reduceIte, k_ltT, k_ltF, k_leT, k_leF, k_eqT, k_eqF, k_m1lt, k_nm1, not_true_eq_false, not_false_eq_true, c_holds o2, if_pos q, c_full hw1 hvρ.2.2.2.2.1 (show ρ 2 ≤ 8 by omega) (show k < ρ 2 by omega)]
      rw [ok_zb1]
      refine ok_mono (c_add (a := 0) (b := k) (c := 0) hd (by decide)) (fun d1 hd1 => ok_some.mpr ⟨⟨?_, ?_, ?_, ?_, fun j hj => ?_⟩, hd1, rfl⟩)
      · simp (disch := omega) only [si_eq, si_ne, sa_eq, sa_ne, upd_eq, upd_ne, updN_eq, updN_ne, ho1.1]
      · simp (disch := omega) only [si_eq, si_ne, sa_eq, sa_ne, upd_eq, upd_ne, updN_eq, updN_ne, ho1.2.1]
      · simp (disch := omega) only [si_eq, si_ne, sa_eq, sa_ne, upd_eq, upd_ne, updN_eq, updN_ne, ho1.2.2.1]
      · simp (disch := omega) only [si_eq, si_ne, sa_eq, sa_ne, upd_eq, upd_ne, updN_eq, updN_ne, ho1.2.2.2.1]
        exact congrArg nI (lies_congr (by omega) (fun j hj => updN_ne (by omega))).symm
      · have oj := ho1.2.2.2.2 j hj
        by_cases ej : j = k
        · subst ej
          simp (disch := omega) only [si_eq, si_ne, sa_eq, sa_ne, upd_eq, upd_ne, updN_eq, updN_ne]
          exact ⟨trivial, oj.2⟩
        · simp (disch := omega) only [si_eq, si_ne, sa_eq, sa_ne, upd_eq, upd_ne, updN_eq, updN_ne]
          exact oj
    · intro M x hM
      unfold f_X12_asks
      have he := m_entry (M := sa M 0 (rw (jn (updN ρ (32 + k) (fulN ρ k)) x.1))) (kd := 0) (it := k) (am := 0) (sa_eq _ _ _) hM.2.2 (by decide)
      rw [hmh M x hM]
      simp (maxSteps := 3000000) (disch := omega) only [↓nx_q, zb0_s, zb1_s, zb2_s, zb3_s, zb4_s, zb5_s, zb6_s, zb7_s, zb8_s, zb9_s, zb10_s, zb11_s, zb12_s, zb13_s, zb14_s, q_lit, nI_add, pk_mul, e_cl, gi_in, gz_n0, gz_n1, e_gz, si_eq, si_ne, sa_eq, sa_ne, if_true, if_false, ↓reduceIte, k_ltT, k_ltF, k_leT, k_leF, k_eqT, k_eqF, k_m1lt, k_nm1, not_true_eq_false, not_false_eq_true, rw_ap, upd_rw, sa_sa, jn_l, jn_r, jn_4, jn_5, jn_6, jn_ul, jn_ur, jn_u4, jn_u5, jn_u6, m_bitOf, e3, if_pos q, gn_ok, e_div]
      rw [show 60 * ρ (16 + k) / ρ (8 + k) = fulN ρ k from rfl, he]
      simp (disch := omega) only [↓nx_q, zb0_s, zb1_s, zb2_s, zb3_s, zb4_s, zb5_s, zb6_s, zb7_s, zb8_s, zb9_s, zb10_s, zb11_s, zb12_s, zb13_s, zb14_s, q_lit, nI_add, pk_mul, e_cl, gi_in, gz_n0, gz_n1, e_gz, si_eq, si_ne, sa_eq, sa_ne, if_true, if_false, ↓reduceIte, k_ltT, k_ltF, k_leT, k_leF, k_eqT, k_eqF, k_m1lt, k_nm1, not_true_eq_false, not_false_eq_true, rw_ap, upd_rw, sa_sa, jn_l, jn_r, jn_4, jn_5, jn_6, jn_ul, jn_ur, jn_u4, jn_u5, jn_u6]
      refine ⟨_, rfl, MS_ent (d := (0, k, 0)) hM (show 0 < 2 by decide), Fr_set _ _, rfl⟩
  · have q' : (σ 3).testBit k = false := by simpa using q
    have hdl : ∀ d : Nat × Nat × Nat, d ∈ [(1, k, ρ (24 + k))] → d.1 ≤ 3 := by
      intro d hd
      rw [List.mem_singleton.mp hd]
      show 1 ≤ 3
      decide
    have hp1 : payD [(1, k, ρ (24 + k))] = ρ (24 + k) := rfl
    have he : ∀ (M : Ob) (x : PQ), MS M σ x → f_X12_entry (sa M 0 (rw (jn ρ (updN x.1 4 (x.1 4 + ρ (24 + k)))))) (nI 1) (nI k) (nI (ρ (24 + k))) = some (sa M 0 (rw (jn ρ (pst x (1, k, ρ (24 + k))).1))) := by
      intro M x hM
      have := m_entry (M := sa M 0 (rw (jn ρ (ctN x.1 1 (ρ (24 + k)))))) (kd := 1) (it := k) (am := ρ (24 + k)) (sa_eq _ _ _) (ctN_BW3 hM.2.2) (by decide)
      rw [sa_sa] at this
      exact this
    have h4 : ∀ (M : Ob) (x : PQ), MS M σ x → (pst x (1, k, ρ (24 + k))).1 4 = x.1 4 + ρ (24 + k) := fun M x hM => pst_4 hM.2.2
    by_cases qL : σ (8 + k) ≤ σ 0
    · -- it may go UP
      generalize hρ1 : (if ρ 1 = 1 then updN ρ (40 + k) (ρ (40 + k) + ρ (24 + k)) else ρ) = ρ1
      have f1 : ∀ j, j ≠ 40 + k → ρ1 j = ρ j := fun j hj => by
        rw [← hρ1]
        split
        · exact updN_ne hj
        · rfl
      have f40 : ρ1 (40 + k) ≤ ρ (40 + k) + ρ (24 + k) := by
        rw [← hρ1]
        split
        · rw [updN_eq]
          omega
        · omega
      have hv1 : Wv ρ1 := Wv_congr hvρ (fun j hj => f1 j (by omega))
      have hh1 : WFhc (c + 1) ρ1 := fun j hj => by
        rw [f1 2 (by omega), f1 (48 + j) (by omega)]
        exact hhρ j hj
      have hf1 : FrS σ ρ1 := fun j h3 hj => (f1 j (by omega)).trans (e j (by omega))
      have g3 : (ρ1 3).testBit k = false := by rw [f1 3 (by omega), e3]; exact q'
      have g8 : ρ1 (8 + k) = ρ (8 + k) := f1 _ (by omega)
      have g0 : ρ1 0 = ρ 0 := f1 _ (by omega)
      have g1 : ρ1 1 = ρ 1 := f1 _ (by omega)
      have g2 : ρ1 2 = ρ 2 := f1 _ (by omega)
      have g16 : ρ1 (16 + k) = ρ (16 + k) := f1 _ (by omega)
      have g48 : ρ1 (48 + k) = ρ (48 + k) := f1 _ (by omega)
      obtain ⟨D0, hD0, hD0l, hD0k⟩ : ∃ D0 : DL, ((ρ 1 = 0 → D0 = []) ∧ (ρ 1 ≠ 0 → D0 = [(1, k, ρ (24 + k))])) ∧ D0.length ≤ 1 ∧ (∀ d, d ∈ D0 → d.1 ≤ 3) := by
        by_cases z : ρ 1 = 0
        · exact ⟨[], ⟨fun _ => rfl, fun h => absurd z h⟩, Nat.zero_le _, fun d hd => by cases hd⟩
        · exact ⟨[(1, k, ρ (24 + k))], ⟨fun h => absurd h z, fun _ => rfl⟩, Nat.le_refl _, hdl⟩
      have hD0p : payD D0 ≤ 20 := by
        by_cases z : ρ 1 = 0
        · rw [hD0.1 z]; exact Nat.zero_le _
        · rw [hD0.2 z, hp1]; omega
      -- the class up to the question whether it is ripe
      have hC : ∀ (o w d : Ob), RCh o σ → RCw w σ → DD d [] → ∀ Q : Ob × Ob × Int32 → Prop, (∀ o2 d2, RCh o2 ρ1 → DD d2 D0 → (rpN ρ1 k → Ok (zb2 (f_X8_makeWay o2 w d2 (nI (ρ1 (8 + k)))) fun (o25 : Ob) (o26 : Ob) => zb2 (f_X8_raise o25 w o26 (nI k)) fun (o28 : Ob) (o29 : Ob) => some (o28, o29, nI (payD D0 + ρ (16 + k)))) Q) ∧ (¬ rpN ρ1 k → Q (o2, d2, nI (payD D0)))) → Ok (f_X8_serve o w d (nI k)) Q := by
        intro o w d ho hw hd Q hQ
        unfold f_X8_serve
        rw [ok_zb1]
        refine ok_mono (hcw o ho) (fun o1 ho1 => ?_)
        have hw1 := RCw_fr hw h8 hfρ
        have hwk := hw1.2 k (by omega)
        have o2 := ho1.2.2.1
        have o1' := ho1.2.1
        have o0' := ho1.1
        rw [e3] at o2
        have hrp := c_isRipe ho1 hw1 (by omega) (by omega) (show k < ρ 2 by omega) hht (by omega) hvρ.2.2.2.2.1
        rw [hρ1] at hrp
        by_cases z : ρ 1 = 0
        · simp (maxSteps := 3000000) (disch := omega) only [↓nx_q, zb0_s, zb1_s, zb2_s, zb3_s, zb4_s, zb5_s, zb6_s, zb7_s, zb8_s, zb9_s, zb10_s, zb11_s, zb12_s, zb13_s, zb14_s, q_lit, nI_add, pk_mul, e_cl, gi_in, gz_n0, gz_n1, e_gz, si_eq, si_ne, sa_eq, sa_ne, if_true, if_false, ↓reduceIte, k_ltT, k_ltF, k_leT, k_leF, k_eqT, k_eqF, k_m1lt, k_nm1, not_true_eq_false, not_false_eq_true, c_holds o2, if_neg q, o1', o0', hwk.1, hwk.2.1, hwk.2.2.1]
          rw [ok_zb2]
          refine ok_mono hrp (fun p hp => ?_)
          obtain ⟨hp1', hp2, hp3⟩ := hp
          have hQ' := hQ p.1 d hp1' (by rw [hD0.1 z]; exact hd)
          rw [hD0.1 z, g8] at hQ'
          by_cases r : rpN ρ1 k
          · rw [hp2 r, e_eqF (by decide) (by decide) (by decide)]
            exact hQ'.1 r
          · rw [hp3 r, e_eqT rfl]
            exact ok_some.mpr (hQ'.2 r)
        · simp (maxSteps := 3000000) (disch := omega) only [↓nx_q, zb0_s, zb1_s, zb2_s, zb3_s, zb4_s, zb5_s, zb6_s, zb7_s, zb8_s, zb9_s, zb10_s, zb11_s, zb12_s, zb13_s, zb14_s, q_lit, nI_add, pk_mul, e_cl, gi_in, gz_n0, gz_n1, e_gz, si_eq, si_ne, sa_eq, sa_ne, if_true, if_false, ↓reduceIte, k_ltT, k_ltF, k_leT, k_leF, k_eqT, k_eqF, k_m1lt, k_nm1, not_true_eq_false, not_false_eq_true, c_holds o2, if_neg q, o1', o0', hwk.1, hwk.2.1, hwk.2.2.1]
          rw [ok_zb1]
          refine ok_mono (c_add (a := 1) (b := k) (c := ρ (24 + k)) hd (by decide)) (fun d2 hd2 => ?_)
          rw [ok_zb2]
          refine ok_mono hrp (fun p hp => ?_)
          obtain ⟨hp1', hp2, hp3⟩ := hp
          have hQ' := hQ p.1 d2 hp1' (by rw [hD0.2 z]; exact hd2)
          rw [hD0.2 z, hp1, g8] at hQ'
          by_cases r : rpN ρ1 k
          · rw [hp2 r, e_eqF (by decide) (by decide) (by decide)]
            exact hQ'.1 r
          · rw [hp3 r, e_eqT rfl]
            exact ok_some.mpr (hQ'.2 r)
      -- the model up to there
      have hMd : ∀ (M : Ob) (x : PQ), MS M σ x → ∀ Q : Ob × Int32 → Prop, (∀ M2, MS M2 ρ1 (D0.foldl pst x) → FrM M M2 → (rpN ρ1 k → Ok (zb1 (f_X12_way M2 (nI (ρ1 (8 + k)))) fun (o51 : Ob) => zb1 (f_X12_up o51 (nI k)) fun (o53 : Ob) => some (o53, o53 0 4 - nI (x.1 4))) Q) ∧ (¬ rpN ρ1 k → Q (M2, nI (payD D0)))) → Ok (f_X12_asks M (nI k)) Q := by
        intro M x hM Q hQ
        unfold f_X12_asks
        rw [hmh M x hM]
        by_cases z : ρ 1 = 0
        · have hρρ : ρ1 = ρ := by rw [← hρ1, if_neg (by omega)]
          have hS : MS (sa M 0 (rw (jn ρ x.1))) ρ x := MS_set hM
          have hup := m_isUp (k := k) hS.1 (by omega) (by omega) hht (by omega) (by omega)
          have hQ' := hQ (sa M 0 (rw (jn ρ x.1))) (by rw [hρρ, hD0.1 z]; exact hS) (Fr_set _ _)
          rw [hρρ, hD0.1 z] at hQ'
          by_cases r : rpN ρ k
          · have hup1 := hup.1 r
            simp (maxSteps := 3000000) (disch := omega) only [↓nx_q, zb0_s, zb1_s, zb2_s, zb3_s, zb4_s, zb5_s, zb6_s, zb7_s, zb8_s, zb9_s, zb10_s, zb11_s, zb12_s, zb13_s, zb14_s, q_lit, nI_add, pk_mul, e_cl, gi_in, gz_n0, gz_n1, e_gz, si_eq, si_ne, sa_eq, sa_ne, if_true, if_false, ↓reduceIte, k_ltT, k_ltF, k_leT, k_leF, k_eqT, k_eqF, k_m1lt, k_nm1, not_true_eq_false, not_false_eq_true, rw_ap, upd_rw, sa_sa, jn_l, jn_r, jn_4, jn_5, jn_6, jn_ul, jn_ur, jn_u4, jn_u5, jn_u6, m_bitOf, e3, if_neg q, hup1]
            exact hQ'.1 r
          · exact absurd (Or.inl z) r
        · have hS : MS (sa M 0 (rw (jn ρ1 (pst x (1, k, ρ (24 + k))).1))) ρ1 (pst x (1, k, ρ (24 + k))) := MS_ent hM (show 1 < 2 by decide)
          have hup := m_isUp (k := k) hS.1 (by omega) (by omega) (by omega) (by omega) (by omega)
          have hQ' := hQ _ (by rw [hD0.2 z]; exact hS) (Fr_set _ _)
          rw [hD0.2 z, hp1] at hQ'
          have he' := he M x hM
          have h4' := h4 M x hM
          by_cases z1 : ρ 1 = 1
          · rw [if_pos z1] at hρ1
            subst hρ1
            by_cases r : rpN (updN ρ (40 + k) (ρ (40 + k) + ρ (24 + k))) k
            · have hup1 := hup.1 r
              have hQ1 := hQ'.1 r
              rw [g8] at hQ1
              simp (maxSteps := 3000000) (disch := omega) only [↓nx_q, zb0_s, zb1_s, zb2_s, zb3_s, zb4_s, zb5_s, zb6_s, zb7_s, zb8_s, zb9_s, zb10_s, zb11_s, zb12_s, zb13_s, zb14_s, q_lit, nI_add, pk_mul, e_cl, gi_in, gz_n0, gz_n1, e_gz, si_eq, si_ne, sa_eq, sa_ne, if_true, if_false, ↓reduceIte, k_ltT, k_ltF, k_leT, k_leF, k_eqT, k_eqF, k_m1lt, k_nm1, not_true_eq_false, not_false_eq_true, rw_ap, upd_rw, sa_sa, jn_l, jn_r, jn_4, jn_5, jn_6, jn_ul, jn_ur, jn_u4, jn_u5, jn_u6, m_bitOf, e3, if_neg q, he', hup1, updN_ne]
              exact hQ1
            · have hup1 := hup.2 r
              simp (maxSteps := 3000000) (disch := omega) only [↓nx_q, zb0_s, zb1_s, zb2_s, zb3_s, zb4_s, zb5_s, zb6_s, zb7_s, zb8_s, zb9_s, zb10_s, zb11_s, zb12_s, zb13_s, zb14_s, q_lit, nI_add, pk_mul, e_cl, gi_in, gz_n0, gz_n1, e_gz, si_eq, si_ne, sa_eq, sa_ne, if_true, if_false, ↓reduceIte, k_ltT, k_ltF, k_leT, k_leF, k_eqT, k_eqF, k_m1lt, k_nm1, not_true_eq_false, not_false_eq_true, rw_ap, upd_rw, sa_sa, jn_l, jn_r, jn_4, jn_5, jn_6, jn_ul, jn_ur, jn_u4, jn_u5, jn_u6, m_bitOf, e3, if_neg q, he', hup1, updN_ne, h4', q_addsub]
              exact ok_some.mpr (hQ'.2 r)
          · rw [if_neg z1] at hρ1
            subst hρ1
            by_cases r : rpN ρ k
            · have hup1 := hup.1 r
              simp (maxSteps := 3000000) (disch := omega) only [↓nx_q, zb0_s, zb1_s, zb2_s, zb3_s, zb4_s, zb5_s, zb6_s, zb7_s, zb8_s, zb9_s, zb10_s, zb11_s, zb12_s, zb13_s, zb14_s, q_lit, nI_add, pk_mul, e_cl, gi_in, gz_n0, gz_n1, e_gz, si_eq, si_ne, sa_eq, sa_ne, if_true, if_false, ↓reduceIte, k_ltT, k_ltF, k_leT, k_leF, k_eqT, k_eqF, k_m1lt, k_nm1, not_true_eq_false, not_false_eq_true, rw_ap, upd_rw, sa_sa, jn_l, jn_r, jn_4, jn_5, jn_6, jn_ul, jn_ur, jn_u4, jn_u5, jn_u6, m_bitOf, e3, if_neg q, he', hup1]
              exact hQ'.1 r
            · have hup1 := hup.2 r
              simp (maxSteps := 3000000) (disch := omega) only [↓nx_q, zb0_s, zb1_s, zb2_s, zb3_s, zb4_s, zb5_s, zb6_s, zb7_s, zb8_s, zb9_s, zb10_s, zb11_s, zb12_s, zb13_s, zb14_s, q_lit, nI_add, pk_mul, e_cl, gi_in, gz_n0, gz_n1, e_gz, si_eq, si_ne, sa_eq, sa_ne, if_true, if_false, ↓reduceIte, k_ltT, k_ltF, k_leT, k_leF, k_eqT, k_eqF, k_m1lt, k_nm1, not_true_eq_false, not_false_eq_true, rw_ap, upd_rw, sa_sa, jn_l, jn_r, jn_4, jn_5, jn_6, jn_ul, jn_ur, jn_u4, jn_u5, jn_u6, m_bitOf, e3, if_neg q, he', hup1, h4', q_addsub]
              exact ok_some.mpr (hQ'.2 r)
      by_cases r : rpN ρ1 k
      · obtain ⟨τ, D, hvτ, hhτ, hkτ, hfτ, hDl, hDp, hDk, hcu, hmu⟩ := up_both (c := c + 1) hv1 (k := k) (by omega) g3 (by omega) hh1 (fun j hj hjk => by
          rw [f1 (40 + j) (by omega)]
          exact hqρ j (by omega))
        have hpp : payD (D0 ++ D) = payD D0 + ρ (16 + k) := by rw [payD_app, hDp, g16]
        refine ⟨τ, D0 ++ D, hvτ, hhτ, hkτ, fun j h3 h => (hfτ j h3 h).trans (hf1 j h3 h), by omega, ?_, ?_, ?_, ?_⟩
        · intro d hd
          rcases List.mem_append.mp hd with h | h
          · exact hD0k d h
          · exact hDk d h
        · rw [List.length_append]
          omega
        · intro o w d ho hw hd
          refine hC o w d ho hw hd _ (fun o2 d2 h1 h2 => ⟨fun _ => ok_22 (hcu o2 w d2 D0 h1 (RCw_fr hw h8 hf1) h2 hD0l) (fun y hy => ok_some.mpr ⟨hy.1, hy.2, ?_⟩), fun h => absurd r h⟩)
          rw [hpp]
        · intro M x hM
          refine hMd M x hM _ (fun M2 h1 h2 => ⟨fun _ => ok_2 (hmu M2 _ h1) (fun y hy => ok_some.mpr ⟨?_, FrM_trans h2 hy.2, ?_⟩), fun h => absurd r h⟩)
          · rw [List.foldl_append]
            exact hy.1
          · show y 0 4 - nI (x.1 4) = _
            rw [hy.1.1, rw_ap, jn_4, fold_4 h1.2.2, fold_4 hM.2.2, Nat.add_assoc, q_addsub, payD_app]
      · refine ⟨ρ1, D0, hv1, hh1, fun j hj => ?_, hf1, by omega, hD0k, by omega, ?_, ?_⟩
        · by_cases ej : j = k
          · subst ej
            by_cases z1 : ρ 1 = 1
            · have : ¬ ρ1 (16 + j) ≤ ρ1 (40 + j) := fun h => r (Or.inr (Or.inl ⟨by omega, h⟩))
              omega
            · rw [if_neg z1] at hρ1
              subst hρ1
              exact hk40
          · rw [f1 (40 + j) (by omega)]
            exact hqρ j (by omega)
        · intro o w d ho hw hd
          exact hC o w d ho hw hd _ (fun o2 d2 h1 h2 => ⟨fun h => absurd h r, fun _ => ⟨h1, h2, rfl⟩⟩)
        · intro M x hM
          exact hMd M x hM _ (fun M2 h1 h2 => ⟨fun h => absurd h r, fun _ => ⟨h1, h2, rfl⟩⟩)
    · -- too large
      refine ⟨ρ, [(1, k, ρ (24 + k))], hvρ, hhρ, hqρ, hfρ, by rw [hp1]; omega, hdl, by show 1 ≤ 9; decide, ?_, ?_⟩
      · intro o w d ho hw hd
        unfold f_X8_serve
        rw [ok_zb1]
        refine ok_mono (hcw o ho) (fun o1 ho1 => ?_)
        have hw1 := RCw_fr hw h8 hfρ
        have hwk := hw1.2 k (by omega)
        have o2 := ho1.2.2.1
        have o0' := ho1.1
        rw [e3] at o2
        simp (maxSteps := 3000000) (disch := omega) only [↓nx_q, zb0_s, zb1_s, zb2_s, zb3_s, zb4_s, zb5_s, zb6_s, zb7_s, zb8_s, zb9_s, zb10_s, zb11_s, zb12_s, zb13_s, zb14_s, q_lit, nI_add, pk_mul, e_cl, gi_in, gz_n0, gz_n1, e_gz, si_eq, si_ne, sa_eq, sa_ne, if_true, if_false, ↓reduceIte, k_ltT, k_ltF, k_leT, k_leF, k_eqT, k_eqF, k_m1lt, k_nm1, not_true_eq_false, not_false_eq_true, c_holds o2, if_neg q, o0', hwk.1, hwk.2.1, hwk.2.2.1]
        rw [ok_zb1]
        refine ok_mono (c_add (a := 1) (b := k) (c := ρ (24 + k)) hd (by decide)) (fun d2 hd2 => ?_)
        exact ok_some.mpr ⟨ho1, hd2, rfl⟩
      · intro M x hM
        unfold f_X12_asks
        rw [hmh M x hM]
        have he' := he M x hM
        have h4' := h4 M x hM
        simp (maxSteps := 3000000) (disch := omega) only [↓nx_q, zb0_s, zb1_s, zb2_s, zb3_s, zb4_s, zb5_s, zb6_s, zb7_s, zb8_s, zb9_s, zb10_s, zb11_s, zb12_s, zb13_s, zb14_s, q_lit, nI_add, pk_mul, e_cl, gi_in, gz_n0, gz_n1, e_gz, si_eq, si_ne, sa_eq, sa_ne, if_true, if_false, ↓reduceIte, k_ltT, k_ltF, k_leT, k_leF, k_eqT, k_eqF, k_m1lt, k_nm1, not_true_eq_false, not_false_eq_true, rw_ap, upd_rw, sa_sa, jn_l, jn_r, jn_4, jn_5, jn_6, jn_ul, jn_ur, jn_u4, jn_u5, jn_u6, m_bitOf, e3, if_neg q, he', h4', q_addsub]
        exact ok_some.mpr ⟨MS_ent hM (show 1 < 2 by decide), Fr_set _ _, rfl⟩
