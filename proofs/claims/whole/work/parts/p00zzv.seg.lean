theorem d_m1 {d : Nat} (h : d ≤ 1) : nI (d + 1) + -nI 1 = nI d := by
  rcases (by omega : d = 0 ∨ d = 1) with rfl | rfl <;> decide
theorem FrM_R {M M' : Ob} (h : FrM M M') : FrR M M' := fun j a b c d _ _ => h j a b c d
theorem nm_item {M : Ob} {d j k : Nat} {s : SQ} (hM : MS M s.1 s.2.1) (hw : WF s.1) (h7 : s.1 7 < 40) (hE : EnP M d (j + 1)) (hp : M 22 j = nI k) (hk : k < s.1 2) : Rch 1 M d j s (ask1 s k) d (j + 1) := by
  have h8 := hw.1.1
  obtain ⟨-, -, -, -, -, hMa⟩ := ak_sp hw h7 hk
  obtain ⟨⟨M2, r⟩, e, m1, m2, m3⟩ := hMa M _ hM
  dsimp only at m1 m2 m3
  subst m3
  rw [ask1_y h7]
  refine Rch_one (M' := M2) ?_ m1 (FrM_R m2) (fun q hq => ⟨by rw [m2 24 (by decide) (by decide) (by decide) (by decide)], by rw [m2 25 (by decide) (by decide) (by decide) (by decide)]⟩)
  unfold nmB
  obtain ⟨⟨N, n1, n2, n3⟩, hd, hz⟩ := hE
  have hM0 := hM.1
  by_cases d0 : d = 0
  · have n3 := n3 d0
    simp (maxSteps := 3000000) (disch := omega) only [↓nx_q, zb0_s, zb1_s, zb2_s, zb3_s, zb4_s, zb5_s, zb6_s, zb7_s, zb8_s, zb9_s, zb10_s, zb11_s, zb12_s, zb13_s, zb14_s, q_lit, nI_add, pk_mul, e_cl, gi_in, gz_n0, gz_n1, e_gz, si_eq, si_ne, sa_eq, sa_ne, if_true, if_false, ↓reduceIte, k_ltT, k_ltF, k_leT, k_leF, k_eqT, k_eqF, k_m1lt, k_nm1, not_true_eq_false, not_false_eq_true, hM0, rw_ap, upd_rw, sa_sa, jn_l, jn_r, jn_4, jn_5, jn_6, jn_ul, jn_ur, jn_u4, jn_u5, jn_u6, n1, hp, e]
  · obtain ⟨w, z, w1, w2, w3, w4, w5⟩ := hz (by omega)
    by_cases jN : j < N
    · simp (maxSteps := 3000000) (disch := omega) only [↓nx_q, zb0_s, zb1_s, zb2_s, zb3_s, zb4_s, zb5_s, zb6_s, zb7_s, zb8_s, zb9_s, zb10_s, zb11_s, zb12_s, zb13_s, zb14_s, q_lit, nI_add, pk_mul, e_cl, gi_in, gz_n0, gz_n1, e_gz, si_eq, si_ne, sa_eq, sa_ne, if_true, if_false, ↓reduceIte, k_ltT, k_ltF, k_leT, k_leF, k_eqT, k_eqF, k_m1lt, k_nm1, not_true_eq_false, not_false_eq_true, hM0, rw_ap, upd_rw, sa_sa, jn_l, jn_r, jn_4, jn_5, jn_6, jn_ul, jn_ur, jn_u4, jn_u5, jn_u6, n1, hp, e, e_sub, w1, w3]
    · simp (maxSteps := 3000000) (disch := omega) only [↓nx_q, zb0_s, zb1_s, zb2_s, zb3_s, zb4_s, zb5_s, zb6_s, zb7_s, zb8_s, zb9_s, zb10_s, zb11_s, zb12_s, zb13_s, zb14_s, q_lit, nI_add, pk_mul, e_cl, gi_in, gz_n0, gz_n1, e_gz, si_eq, si_ne, sa_eq, sa_ne, if_true, if_false, ↓reduceIte, k_ltT, k_ltF, k_leT, k_leF, k_eqT, k_eqF, k_m1lt, k_nm1, not_true_eq_false, not_false_eq_true, hM0, rw_ap, upd_rw, sa_sa, jn_l, jn_r, jn_4, jn_5, jn_6, jn_ul, jn_ur, jn_u4, jn_u5, jn_u6, n1, hp, e, e_sub, w1, w3]
/-- again: the turns begin -/
def opM (M : Ob) (d j t : Nat) : Ob := sa (sa M 24 (upd (M 24) d (nI j))) 25 (upd ((sa M 24 (upd (M 24) d (nI j))) 25) d (nI t))
theorem nm_open {M : Ob} {d j u : Nat} {s : SQ} (hM : MS M s.1 s.2.1) (h7 : s.1 7 < 40) (hE : EnP M d (j + 1)) (hd1 : d ≤ 1) (hp : M 22 j = nI u) (hu : 101 ≤ u ∧ u ≤ 109) : nmB M (nI d) (nI s.2.2) (nI j) = some (.inl (opM M d j (u - 100), nI (d + 1), nI s.2.2, nI (j + 1))) := by
  unfold nmB opM
  obtain ⟨⟨N, n1, n2, n3⟩, hd, hz⟩ := hE
  have hM0 := hM.1
  by_cases d0 : d = 0
  · have n3 := n3 d0
    simp (maxSteps := 3000000) (disch := omega) only [↓nx_q, zb0_s, zb1_s, zb2_s, zb3_s, zb4_s, zb5_s, zb6_s, zb7_s, zb8_s, zb9_s, zb10_s, zb11_s, zb12_s, zb13_s, zb14_s, q_lit, nI_add, pk_mul, e_cl, gi_in, gz_n0, gz_n1, e_gz, si_eq, si_ne, sa_eq, sa_ne, if_true, if_false, ↓reduceIte, k_ltT, k_ltF, k_leT, k_leF, k_eqT, k_eqF, k_m1lt, k_nm1, not_true_eq_false, not_false_eq_true, hM0, rw_ap, upd_rw, sa_sa, jn_l, jn_r, jn_4, jn_5, jn_6, jn_ul, jn_ur, jn_u4, jn_u5, jn_u6, n1, hp, e_sub]
  · obtain ⟨w, z, w1, w2, w3, w4, w5⟩ := hz (by omega)
    by_cases jN : j < N
    · simp (maxSteps := 3000000) (disch := omega) only [↓nx_q, zb0_s, zb1_s, zb2_s, zb3_s, zb4_s, zb5_s, zb6_s, zb7_s, zb8_s, zb9_s, zb10_s, zb11_s, zb12_s, zb13_s, zb14_s, q_lit, nI_add, pk_mul, e_cl, gi_in, gz_n0, gz_n1, e_gz, si_eq, si_ne, sa_eq, sa_ne, if_true, if_false, ↓reduceIte, k_ltT, k_ltF, k_leT, k_leF, k_eqT, k_eqF, k_m1lt, k_nm1, not_true_eq_false, not_false_eq_true, hM0, rw_ap, upd_rw, sa_sa, jn_l, jn_r, jn_4, jn_5, jn_6, jn_ul, jn_ur, jn_u4, jn_u5, jn_u6, n1, hp, e_sub, w1, w3]
    · simp (maxSteps := 3000000) (disch := omega) only [↓nx_q, zb0_s, zb1_s, zb2_s, zb3_s, zb4_s, zb5_s, zb6_s, zb7_s, zb8_s, zb9_s, zb10_s, zb11_s, zb12_s, zb13_s, zb14_s, q_lit, nI_add, pk_mul, e_cl, gi_in, gz_n0, gz_n1, e_gz, si_eq, si_ne, sa_eq, sa_ne, if_true, if_false, ↓reduceIte, k_ltT, k_ltF, k_leT, k_leF, k_eqT, k_eqF, k_m1lt, k_nm1, not_true_eq_false, not_false_eq_true, hM0, rw_ap, upd_rw, sa_sa, jn_l, jn_r, jn_4, jn_5, jn_6, jn_ul, jn_ur, jn_u4, jn_u5, jn_u6, n1, hp, e_sub, w1, w3]
def tuM (M : Ob) (d r : Nat) : Ob := sa M 25 (upd (M 25) d (nI r))
theorem nm_turn {M : Ob} {d w m r : Nat} {s : SQ} (hM : MS M s.1 s.2.1) (h7 : s.1 7 < 40) (hN : ∃ N, M 26 0 = nI N ∧ N ≤ 401) (hd1 : d ≤ 1) (h24 : M 24 d = nI w) (hw : w < 402) (h23 : M 23 w = nI m) (hm : m ≤ 401) (h25 : M 25 d = nI r) (hr : 1 ≤ r ∧ r ≤ 9) : nmB M (nI (d + 1)) (nI s.2.2) (nI m) = some (.inl (tuM M d (r - 1), (if r = 1 then nI d else nI (d + 1)), nI s.2.2, if r = 1 then nI m else nI (w + 1))) := by
  unfold nmB tuM
  obtain ⟨N, n1, n2⟩ := hN
  have hM0 := hM.1
  have ed : d + 1 - 1 = d := by omega
  by_cases jN : m < N
  · by_cases q : r = 1
    · simp (maxSteps := 3000000) (disch := omega) only [↓nx_q, zb0_s, zb1_s, zb2_s, zb3_s, zb4_s, zb5_s, zb6_s, zb7_s, zb8_s, zb9_s, zb10_s, zb11_s, zb12_s, zb13_s, zb14_s, q_lit, nI_add, pk_mul, e_cl, gi_in, gz_n0, gz_n1, e_gz, si_eq, si_ne, sa_eq, sa_ne, if_true, if_false, ↓reduceIte, k_ltT, k_ltF, k_leT, k_leF, k_eqT, k_eqF, k_m1lt, k_nm1, not_true_eq_false, not_false_eq_true, hM0, rw_ap, upd_rw, sa_sa, jn_l, jn_r, jn_4, jn_5, jn_6, jn_ul, jn_ur, jn_u4, jn_u5, jn_u6, n1, h24, h23, h25, e_sub, ed, d_m1, upd_eq, q]
    · simp (maxSteps := 3000000) (disch := omega) only [↓nx_q, zb0_s, zb1_s, zb2_s, zb3_s, zb4_s, zb5_s, zb6_s, zb7_s, zb8_s, zb9_s, zb10_s, zb11_s, zb12_s, zb13_s, zb14_s, q_lit, nI_add, pk_mul, e_cl, gi_in, gz_n0, gz_n1, e_gz, si_eq, si_ne, sa_eq, sa_ne, if_true, if_false, ↓reduceIte, k_ltT, k_ltF, k_leT, k_leF, k_eqT, k_eqF, k_m1lt, k_nm1, not_true_eq_false, not_false_eq_true, hM0, rw_ap, upd_rw, sa_sa, jn_l, jn_r, jn_4, jn_5, jn_6, jn_ul, jn_ur, jn_u4, jn_u5, jn_u6, n1, h24, h23, h25, e_sub, ed, d_m1, upd_eq, q]
  · by_cases q : r = 1
    · simp (maxSteps := 3000000) (disch := omega) only [↓nx_q, zb0_s, zb1_s, zb2_s, zb3_s, zb4_s, zb5_s, zb6_s, zb7_s, zb8_s, zb9_s, zb10_s, zb11_s, zb12_s, zb13_s, zb14_s, q_lit, nI_add, pk_mul, e_cl, gi_in, gz_n0, gz_n1, e_gz, si_eq, si_ne, sa_eq, sa_ne, if_true, if_false, ↓reduceIte, k_ltT, k_ltF, k_leT, k_leF, k_eqT, k_eqF, k_m1lt, k_nm1, not_true_eq_false, not_false_eq_true, hM0, rw_ap, upd_rw, sa_sa, jn_l, jn_r, jn_4, jn_5, jn_6, jn_ul, jn_ur, jn_u4, jn_u5, jn_u6, n1, h24, h23, h25, e_sub, ed, d_m1, upd_eq, q]
    · simp (maxSteps := 3000000) (disch := omega) only [↓nx_q, zb0_s, zb1_s, zb2_s, zb3_s, zb4_s, zb5_s, zb6_s, zb7_s, zb8_s, zb9_s, zb10_s, zb11_s, zb12_s, zb13_s, zb14_s, q_lit, nI_add, pk_mul, e_cl, gi_in, gz_n0, gz_n1, e_gz, si_eq, si_ne, sa_eq, sa_ne, if_true, if_false, ↓reduceIte, k_ltT, k_ltF, k_leT, k_leF, k_eqT, k_eqF, k_m1lt, k_nm1, not_true_eq_false, not_false_eq_true, hM0, rw_ap, upd_rw, sa_sa, jn_l, jn_r, jn_4, jn_5, jn_6, jn_ul, jn_ur, jn_u4, jn_u5, jn_u6, n1, h24, h23, h25, e_sub, ed, d_m1, upd_eq, q]
theorem Rch_pre {C : Nat} {M M2 : Ob} {d i d2 i2 : Nat} {s s' : SQ} {d1 j : Nat} (h : nmB M (nI d) (nI s.2.2) (nI i) = some (.inl (M2, nI d2, nI s.2.2, nI i2))) (hf : FrR M M2) (hl : ∀ q, q < d1 → M2 24 q = M 24 q ∧ M2 25 q = M 25 q) (g : Rch C M2 d2 i2 s s' d1 j) : Rch (C + 1) M d i s s' d1 j := by
  obtain ⟨c, M', d', i', a, b, e, f, l⟩ := g
  refine ⟨c + 1, M', d', i', by omega, fun F => ?_, e, FrR_tr hf f, ?_⟩
  · rw [← Nat.add_assoc, zl4_i h, b]
  · rcases l with l | ⟨u, v, l⟩
    · exact Or.inl l
    · refine Or.inr ⟨u, v, fun q hq => ?_⟩
      rw [(l q hq).1, (l q hq).2]
      exact hl q hq
def repL (B : List Nat) : Nat → List Nat
  | 0 => []
  | t + 1 => repL B t ++ B
theorem repL_c (B : List Nat) : ∀ t, repL B (t + 1) = B ++ repL B t
  | 0 => by
    show [] ++ B = B ++ []
    rw [List.nil_append, List.append_nil]
  | t + 1 => by
    show repL B (t + 1) ++ B = B ++ (repL B t ++ B)
    rw [repL_c B t, List.append_assoc]
theorem repL_mem {B : List Nat} {k : Nat} : ∀ {t : Nat}, k ∈ repL B t → k ∈ B
  | 0, h => by cases h
  | t + 1, h => by
    rcases List.mem_append.mp h with h | h
    · exact repL_mem h
    · exact h
def WD (d : Nat) : Nat := if d = 0 then 90 else if d = 1 then 10 else 1
/-- the steps from i to j, at depth d, are L -/
def Seg (p e : Nat → Nat) (d i j : Nat) (L : List Nat) : Prop := i ≤ j ∧ ∀ (M : Ob) (s : SQ), MS M s.1 s.2.1 → WF s.1 → (∀ k, k ∈ L → k < s.1 2) → (∀ x, i ≤ x → x < j → M 22 x = nI (p x) ∧ M 23 x = nI (e x)) → EnP M d j → Rch (WD d * (j - i)) M d i s (L.foldl ask1 s) d j
theorem seg_nil (p e : Nat → Nat) (d i : Nat) : Seg p e d i i [] := ⟨Nat.le_refl _, fun M s hM _ _ _ _ => Rch_mono (Rch_nil hM) (Nat.zero_le _)⟩
theorem seg_cg {p e p' e' : Nat → Nat} {d i j : Nat} {L : List Nat} (h : Seg p e d i j L) (c : ∀ x, i ≤ x → x < j → p' x = p x ∧ e' x = e x) : Seg p' e' d i j L := ⟨h.1, fun M s a b k g E => h.2 M s a b k (fun x u v => by rw [← (c x u v).1, ← (c x u v).2]; exact g x u v) E⟩
theorem FrR_22 {M M' : Ob} (h : FrR M M') : M' 22 = M 22 ∧ M' 23 = M 23 ∧ M' 26 = M 26 := ⟨h 22 (by decide) (by decide) (by decide) (by decide) (by decide) (by decide), h 23 (by decide) (by decide) (by decide) (by decide) (by decide) (by decide), h 26 (by decide) (by decide) (by decide) (by decide) (by decide) (by decide)⟩
theorem WD_1 (d : Nat) : 1 ≤ WD d := by
  unfold WD
  split
  · omega
  · split <;> omega
theorem seg_item {p e : Nat → Nat} {d i j : Nat} {L : List Nat} (h : Seg p e d i j L) (hk : p j < 100) : Seg p e d i (j + 1) (L ++ [p j]) := by
  refine ⟨by have := h.1; omega, fun M s hM hw hL hp hE => ?_⟩
  have hij := h.1
  have r1 := h.2 M s hM hw (fun k hk => hL k (List.mem_append_left _ hk)) (fun x a b => hp x a (by omega)) (EnP_le hE (by omega))
  have hi := fold_inv L s hw (fun k hk => hL k (List.mem_append_left _ hk))
  rw [List.foldl_append]
  refine Rch_mono (Rch_tr (s2 := [p j].foldl ask1 (L.foldl ask1 s)) (d2 := d) (k := j + 1) (C' := 1) r1 (fun q => fold_full q _) (Nat.le_refl _) (fun q M1 hM1 hf hl => ?_)) ?_
  · have e2 : (L.foldl ask1 s).1 2 = s.1 2 := hi.2.2.1 2 (by omega)
    refine nm_item hM1 hi.1 q (EnP_fr hE hf (fun q hq => (hl q hq).1)) ?_ ?_
    · rw [(FrR_22 hf).1]
      exact (hp j (by omega) (by omega)).1
    · rw [e2]
      exact hL _ (List.mem_append_right _ (List.mem_singleton.mpr rfl))
  · have := WD_1 d
    rw [show j + 1 - i = (j - i) + 1 by omega, Nat.mul_succ]
    omega
theorem MS_25 {M : Ob} {σ : Nat → Nat} {x : PQ} {f : Fn} (h : MS M σ x) : MS (sa M 25 f) σ x := ⟨by rw [sa_ne (by decide)]; exact h.1, GM_fr h.2.1 (sa_ne (by decide)) (sa_ne (by decide)) (sa_ne (by decide)), h.2.2⟩
theorem MS_24 {M : Ob} {σ : Nat → Nat} {x : PQ} {f : Fn} (h : MS M σ x) : MS (sa M 24 f) σ x := ⟨by rw [sa_ne (by decide)]; exact h.1, GM_fr h.2.1 (sa_ne (by decide)) (sa_ne (by decide)) (sa_ne (by decide)), h.2.2⟩
/-- the turns that are left -/
theorem seg_turns {p e : Nat → Nat} {d w m : Nat} {B : List Nat} (hS : Seg p e (d + 1) (w + 1) m B) (hd : d ≤ 1) (hw402 : w < 402) (hm : m ≤ 401) : ∀ (r : Nat), 1 ≤ r → r ≤ 9 → ∀ (M : Ob) (s : SQ), MS M s.1 s.2.1 → WF s.1 → (∀ k, k ∈ B → k < s.1 2) → (∀ x, w + 1 ≤ x → x < m → M 22 x = nI (p x) ∧ M 23 x = nI (e x)) → EnP M (d + 1) m → M 24 d = nI w → M 23 w = nI m → M 25 d = nI r → Rch (r * (WD (d + 1) * (m - (w + 1)) + 1)) M (d + 1) (w + 1) s ((repL B r).foldl ask1 s) d m := by
  intro r
  induction r with
  | zero => intro h; omega
  | succ r ih =>
    intro _ hr9 M s hM hw hB hp hE h24 h23 h25
    have r1 := hS.2 M s hM hw hB hp hE
    have hi := fold_inv B s hw hB
    have e2 : (B.foldl ask1 s).1 2 = s.1 2 := hi.2.2.1 2 (by omega)
    rw [repL_c, List.foldl_append]
    refine Rch_mono (Rch_tr (s2 := (repL B r).foldl ask1 (B.foldl ask1 s)) (d2 := d) (k := m) (C' := r * (WD (d + 1) * (m - (w + 1)) + 1) + 1) r1 (fun q => fold_full q _) (Nat.le_succ _) (fun q M1 hM1 hf hl => ?_)) ?_
    · obtain ⟨g22, g23, g26⟩ := FrR_22 hf
      have hN : ∃ N, M1 26 0 = nI N ∧ N ≤ 401 := by
        obtain ⟨⟨N, a, b, -⟩, -⟩ := hE
        exact ⟨N, by rw [g26]; exact a, b⟩
      have k24 : M1 24 d = nI w := by rw [(hl d (by omega)).1]; exact h24
      have k25 : M1 25 d = nI (r + 1) := by rw [(hl d (by omega)).2]; exact h25
      have k23 : M1 23 w = nI m := by rw [g23]; exact h23
      have ht := nm_turn hM1 q hN hd k24 hw402 k23 hm k25 (by omega)
      have hfr : FrR M1 (tuM M1 d (r + 1 - 1)) := fun j _ _ _ _ _ a => sa_ne a
      have hlq : ∀ q, q < d → tuM M1 d (r + 1 - 1) 24 q = M1 24 q ∧ tuM M1 d (r + 1 - 1) 25 q = M1 25 q := fun q hq => by
        unfold tuM
        rw [sa_ne (by decide), sa_eq, upd_ne (by omega)]
        exact ⟨rfl, rfl⟩
      by_cases r0 : r = 0
      · subst r0
        rw [if_pos rfl, if_pos rfl] at ht
        exact Rch_mono (Rch_one (s' := B.foldl ask1 s) ht (MS_25 hM1) hfr hlq) (by omega)
      · rw [if_neg (by omega), if_neg (by omega)] at ht
        refine Rch_pre ht hfr hlq (ih (by omega) (by omega) _ _ (MS_25 hM1) hi.1 (fun k hk => by rw [e2]; exact hB k hk) (fun x a b => ?_) ?_ ?_ ?_ ?_)
        · unfold tuM
          rw [sa_ne (by decide), sa_ne (by decide), g22, g23]
          exact hp x a b
        · refine EnP_fr hE (FrR_tr hf hfr) (fun q hq => ?_)
          unfold tuM
          rw [sa_ne (by decide)]
          exact (hl q hq).1
        · unfold tuM
          rw [sa_ne (by decide)]
          exact k24
        · unfold tuM
          rw [sa_ne (by decide)]
          exact k23
        · unfold tuM
          rw [sa_eq, upd_eq]
          rfl
    · rw [Nat.succ_mul]
      omega
theorem seg_loop {p e : Nat → Nat} {d i j m : Nat} {L B : List Nat} (h : Seg p e d i j L) (hS : Seg p e (d + 1) (j + 1) m B) (hd : d ≤ 1) (hm : m ≤ 401) (hu : 101 ≤ p j ∧ p j ≤ 109) (he : e j = m) : Seg p e d i m (L ++ repL B (p j - 100)) := by
  have hij := h.1
  have hjm := hS.1
  refine ⟨by omega, fun M s hM hw hL hp hE => ?_⟩
  have r1 := h.2 M s hM hw (fun k hk => hL k (List.mem_append_left _ hk)) (fun x a b => hp x a (by omega)) (EnP_le hE (by omega))
  have hi := fold_inv L s hw (fun k hk => hL k (List.mem_append_left _ hk))
  have e2 : (L.foldl ask1 s).1 2 = s.1 2 := hi.2.2.1 2 (by omega)
  have hBm : ∀ k, k ∈ B → k ∈ repL B (p j - 100) := by
    intro k hk
    obtain ⟨t, ht⟩ : ∃ t, p j - 100 = t + 1 := ⟨p j - 101, by omega⟩
    rw [ht, repL_c]
    exact List.mem_append_left _ hk
  rw [List.foldl_append]
  refine Rch_mono (Rch_tr (s2 := (repL B (p j - 100)).foldl ask1 (L.foldl ask1 s)) (d2 := d) (k := m) (C' := (p j - 100) * (WD (d + 1) * (m - (j + 1)) + 1) + 1) r1 (fun q => fold_full q _) (Nat.le_refl _) (fun q M1 hM1 hf hl => ?_)) ?_
  · obtain ⟨g22, g23, g26⟩ := FrR_22 hf
    have hE1 := EnP_fr hE hf (fun q hq => (hl q hq).1)
    have hop := nm_open hM1 q (EnP_le hE1 (show j + 1 ≤ m by omega)) hd (by rw [g22]; exact (hp j (by omega) (by omega)).1) hu
    have f24 : opM M1 d j (p j - 100) 24 d = nI j := by
      unfold opM
      rw [sa_ne (by decide), sa_eq, upd_eq]
    have f22 : ∀ q, q ≠ 24 → q ≠ 25 → opM M1 d j (p j - 100) q = M1 q := fun q a b => by
      unfold opM
      rw [sa_ne b, sa_ne a]
    refine Rch_pre hop (fun q _ _ _ _ a b => f22 q a b) (fun q hq => ?_) (seg_turns hS hd (by omega) hm _ (by omega) (by omega) _ _ (MS_25 (MS_24 hM1)) hi.1 (fun k hk => by rw [e2]; exact hL k (List.mem_append_right _ (hBm k hk))) (fun x a b => ?_) ?_ f24 ?_ ?_)
    · unfold opM
      rw [sa_ne (by decide), sa_eq, sa_eq, upd_ne (by omega), upd_ne (by omega), sa_ne (by decide)]
      exact ⟨rfl, rfl⟩
    · rw [f22 22 (by decide) (by decide), f22 23 (by decide) (by decide), g22, g23]
      exact hp x (by omega) b
    · obtain ⟨⟨N, a, b, c⟩, -⟩ := hE1
      refine ⟨⟨N, by rw [f22 26 (by decide) (by decide)]; exact a, b, fun z => by omega⟩, by omega, fun _ => ⟨j, m, f24, by omega, ?_, Nat.le_refl _, hm⟩⟩
      rw [f22 23 (by decide) (by decide), g23, (hp j (by omega) (by omega)).2, he]
    · rw [f22 23 (by decide) (by decide), g23, (hp j (by omega) (by omega)).2, he]
    · unfold opM
      rw [sa_eq, upd_eq]
  · obtain ⟨x, hx⟩ : ∃ x, m = j + 1 + x := ⟨m - (j + 1), by omega⟩
    have t9 : p j - 100 ≤ 9 := by omega
    have := Nat.mul_le_mul_right (WD (d + 1) * (m - (j + 1)) + 1) t9
    rw [show m - i = (j - i) + (m - j) by omega, Nat.mul_add (WD d)]
    have hq : 9 * (WD (d + 1) * (m - (j + 1)) + 1) + 1 ≤ WD d * (m - j) := by
      rcases (by omega : d = 0 ∨ d = 1) with rfl | rfl
      · show 9 * (10 * _ + 1) + 1 ≤ 90 * _
        omega
      · show 9 * (1 * _ + 1) + 1 ≤ 10 * _
        omega
    have key : ∀ A Z Y X : Nat, Z ≤ Y → Y + 1 ≤ X → A + (Z + 1) ≤ A + X := fun A Z Y X a b => by omega
    exact key _ _ _ _ this hq
