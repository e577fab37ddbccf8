/-- what a move of rows leaves -/
def RwF (p p' : Ob) (b : Nat) : Prop := (∀ j, j < b ∨ b + 256 ≤ j → p' 1 j = p 1 j) ∧ ∀ j, j ≠ 1 → p' j = p j
theorem RwF_trans {p p1 p2 : Ob} {b : Nat} (h : RwF p p1 b) (g : RwF p1 p2 b) : RwF p p2 b := ⟨fun j hj => (g.1 j hj).trans (h.1 j hj), fun j hj => (g.2 j hj).trans (h.2 j hj)⟩
theorem RwF_PT {p p' : Ob} {b : Nat} {σ : Nat → Nat} {room : Nat} (h : RwF p p' b) (hT : PT p σ room) : PT p' σ room := PT_fr hT (fun j a _ _ _ => h.2 j a)
theorem dnI_le {σ : Nat → Nat} {room : Nat} {C : Nat → Nat} (h : ∀ s, C s ≤ 1000000) : ∀ k s, dnI σ room C k s ≤ 1000000
  | 0, s => h s
  | k + 1, s => dnC_le (dnI_le h k) k s
theorem upI_le {σ : Nat → Nat} {C : Nat → Nat} (h : ∀ s, C s ≤ 1000000) : ∀ k s, upI σ C k s ≤ 1000000
  | 0, s => h s
  | k + 1, s => upC_le (upI_le h k) k s
theorem c_moveAny {p : Ob} {σ : Nat → Nat} {room b b' nt : Nat} {C : Nat → Nat} (hT : PT p σ room) (h8 : σ 2 ≤ 8) (hwi : WFi σ) (hC : CR σ room (p 1) b C) (hle : ∀ s, C s ≤ 1000000) (hd : b + 256 ≤ b' ∨ b' + 256 ≤ b) (hb : b + 256 ≤ nt) (hb' : b' + 256 ≤ nt) (hn : nt < 1000000) : Ok (f_X5_moveAny nt p (nI b) (nI b')) (fun p' => CR σ room (p' 1) b' (upI σ (dnI σ room C (σ 2)) (σ 2)) ∧ RwF p p' b') := by
  have hN : 2 ^ σ 2 ≤ 256 := pw8 h8
  have hfl := ft_le σ room (2 ^ σ 2)
  unfold f_X5_moveAny
  rw [ok_zb1]
  refine ok_mono (ok_zl2 (Q := fun p' => CR σ room (p' 1) b' C ∧ RwF p p' b') (fun i o kk => kk = nI i ∧ RwF p o b' ∧ ∀ s, s < 2 ^ σ 2 → sumB (szN σ) s (σ 2) ≤ room → ftC σ room s < i → o 1 (b' + s) = nI (C s)) (ftC σ room (2 ^ σ 2)) (fun i o kk hi hI => ?_) (fu_lt (by omega)) ⟨rfl, ⟨fun _ _ => rfl, fun _ _ => rfl⟩, fun s _ _ h => absurd h (Nat.not_lt_zero _)⟩) (fun p1 hp1 => ?_)
  · obtain ⟨rfl, hfr, hin⟩ := hI
    obtain ⟨t1, t2, t3, t4⟩ := RwF_PT hfr hT
    by_cases q : i = ftC σ room (2 ^ σ 2)
    · subst q
      simp (maxSteps := 3000000) (disch := omega) only [↓nx_q, zb0_s, zb1_s, zb2_s, zb3_s, zb4_s, zb5_s, zb6_s, zb7_s, zb8_s, zb9_s, zb10_s, zb11_s, zb12_s, zb13_s, zb14_s, q_lit, nI_add, pk_mul, e_cl, gi_in, gz_n0, gz_n1, e_gz, si_eq, si_ne, sa_eq, sa_ne, if_true, if_false, ↓reduceIte, k_ltT, k_ltF, k_leT, k_leF, k_eqT, k_eqF, k_m1lt, k_nm1, not_true_eq_false, not_false_eq_true, t3]
      exact ⟨_, rfl, fun s hs hf => hin s hs hf (ft_lt hs hf), hfr⟩
    · obtain ⟨u, hu, huf, hui⟩ := ft_ex (σ := σ) (room := room) (n := 2 ^ σ 2) (i := i) (by omega)
      have o4 : o 4 i = nI u := by rw [← hui]; exact t4 u hu huf
      have cu : o 1 (b + u) = nI (C u) := by rw [hfr.1 (b + u) (by omega)]; exact hC u hu huf
      simp (maxSteps := 3000000) (disch := omega) only [↓nx_q, zb0_s, zb1_s, zb2_s, zb3_s, zb4_s, zb5_s, zb6_s, zb7_s, zb8_s, zb9_s, zb10_s, zb11_s, zb12_s, zb13_s, zb14_s, q_lit, nI_add, pk_mul, e_cl, gi_in, gz_n0, gz_n1, e_gz, si_eq, si_ne, sa_eq, sa_ne, if_true, if_false, ↓reduceIte, k_ltT, k_ltF, k_leT, k_leF, k_eqT, k_eqF, k_m1lt, k_nm1, not_true_eq_false, not_false_eq_true, t3, o4, cu]
      refine ⟨_, rfl, by omega, rfl, ⟨fun j hj => ?_, fun j hj => ?_⟩, fun s hs hf hl => ?_⟩
      · simp (disch := omega) only [si_eq, si_ne, sa_eq, sa_ne, upd_eq, upd_ne, updN_eq, updN_ne]
        exact hfr.1 j hj
      · simp (disch := omega) only [si_eq, si_ne, sa_eq, sa_ne, upd_eq, upd_ne, updN_eq, updN_ne]
        exact hfr.2 j hj
      · by_cases e : s = u
        · subst e
          simp (disch := omega) only [si_eq, si_ne, sa_eq, sa_ne, upd_eq, upd_ne, updN_eq, updN_ne]
        · simp (disch := omega) only [si_eq, si_ne, sa_eq, sa_ne, upd_eq, upd_ne, updN_eq, updN_ne]
          refine hin s hs hf ?_
          apply Nat.lt_of_le_of_ne (by omega)
          intro z
          exact e (ft_inj hf huf (by rw [z, hui]))
  · obtain ⟨hc1, hf1⟩ := hp1
    rw [ok_zb1]
    refine ok_mono (ok_zl2 (Q := fun p' => CR σ room (p' 1) b' (dnI σ room C (σ 2)) ∧ RwF p p' b') (fun i o kk => kk = nI i ∧ CR σ room (o 1) b' (dnI σ room C i) ∧ RwF p o b') (σ 2) (fun i o kk hi hI => ?_) (fu_lt (by omega)) ⟨rfl, hc1, hf1⟩) (fun p2 hp2 => ?_)
    · obtain ⟨rfl, hc, hf⟩ := hI
      have hTo := RwF_PT hf hT
      by_cases q : i = σ 2
      · subst q
        simp (maxSteps := 3000000) (disch := omega) only [↓nx_q, zb0_s, zb1_s, zb2_s, zb3_s, zb4_s, zb5_s, zb6_s, zb7_s, zb8_s, zb9_s, zb10_s, zb11_s, zb12_s, zb13_s, zb14_s, q_lit, nI_add, pk_mul, e_cl, gi_in, gz_n0, gz_n1, e_gz, si_eq, si_ne, sa_eq, sa_ne, if_true, if_false, ↓reduceIte, k_ltT, k_ltF, k_leT, k_leF, k_eqT, k_eqF, k_m1lt, k_nm1, not_true_eq_false, not_false_eq_true, hTo.1]
        exact ⟨_, rfl, hc, hf⟩
      · simp (maxSteps := 3000000) (disch := omega) only [↓nx_q, zb0_s, zb1_s, zb2_s, zb3_s, zb4_s, zb5_s, zb6_s, zb7_s, zb8_s, zb9_s, zb10_s, zb11_s, zb12_s, zb13_s, zb14_s, q_lit, nI_add, pk_mul, e_cl, gi_in, gz_n0, gz_n1, e_gz, si_eq, si_ne, sa_eq, sa_ne, if_true, if_false, ↓reduceIte, k_ltT, k_ltF, k_leT, k_leF, k_eqT, k_eqF, k_m1lt, k_nm1, not_true_eq_false, not_false_eq_true, hTo.1, e_shl1]
        rw [ok_zb1]
        refine ok_mono (c_letDown hTo h8 hc (dnI_le hle i) (show i < σ 2 by omega) hb' hn) (fun p3 h3 => ⟨_, rfl, by omega, rfl, h3.1, RwF_trans hf h3.2⟩)
    · obtain ⟨hc2, hf2⟩ := hp2
      rw [ok_zb1]
      refine ok_mono (ok_zl2 (Q := fun p' => CR σ room (p' 1) b' (upI σ (dnI σ room C (σ 2)) (σ 2)) ∧ RwF p p' b') (fun i o kk => kk = nI i ∧ CR σ room (o 1) b' (upI σ (dnI σ room C (σ 2)) i) ∧ RwF p o b') (σ 2) (fun i o kk hi hI => ?_) (fu_lt (by omega)) ⟨rfl, hc2, hf2⟩) (fun y hy => ok_some.mpr hy)
      obtain ⟨rfl, hc, hf⟩ := hI
      have hTo := RwF_PT hf hT
      by_cases q : i = σ 2
      · subst q
        simp (maxSteps := 3000000) (disch := omega) only [↓nx_q, zb0_s, zb1_s, zb2_s, zb3_s, zb4_s, zb5_s, zb6_s, zb7_s, zb8_s, zb9_s, zb10_s, zb11_s, zb12_s, zb13_s, zb14_s, q_lit, nI_add, pk_mul, e_cl, gi_in, gz_n0, gz_n1, e_gz, si_eq, si_ne, sa_eq, sa_ne, if_true, if_false, ↓reduceIte, k_ltT, k_ltF, k_leT, k_leF, k_eqT, k_eqF, k_m1lt, k_nm1, not_true_eq_false, not_false_eq_true, hTo.1]
        exact ⟨_, rfl, hc, hf⟩
      · simp (maxSteps := 3000000) (disch := omega) only [↓nx_q, zb0_s, zb1_s, zb2_s, zb3_s, zb4_s, zb5_s, zb6_s, zb7_s, zb8_s, zb9_s, zb10_s, zb11_s, zb12_s, zb13_s, zb14_s, q_lit, nI_add, pk_mul, e_cl, gi_in, gz_n0, gz_n1, e_gz, si_eq, si_ne, sa_eq, sa_ne, if_true, if_false, ↓reduceIte, k_ltT, k_ltF, k_leT, k_leF, k_eqT, k_eqF, k_m1lt, k_nm1, not_true_eq_false, not_false_eq_true, hTo.1, e_shl1]
        rw [ok_zb1]
        refine ok_mono (c_letUp hTo h8 hwi hc (upI_le (dnI_le hle (σ 2)) i) (show i < σ 2 by omega) hb' hn) (fun p3 h3 => ⟨_, rfl, by omega, rfl, h3.1, RwF_trans hf h3.2⟩)
/-- what is paid on top -/
def pyN (C : Nat → Nat) (k rent al s : Nat) : Nat := if s &&& al = al then (if C s + (if s.testBit k = true then 0 else rent) ≤ 1000000 then C s + (if s.testBit k = true then 0 else rent) else 1000000) else 1000000
theorem k_al {s al : Nat} (hs : s < 256) (ha : al < 256) : (nI s &&& nI al = nI al) = (s &&& al = al) := by
  rw [q_and, eq_iff_iff]
  exact nI_eq (by have := Nat.and_le_left (n := s) (m := al); omega) (by omega)
theorem c_pay {p : Ob} {σ : Nat → Nat} {room b nt k rent al : Nat} {C : Nat → Nat} (hT : PT p σ room) (h8 : σ 2 ≤ 8) (hC : CR σ room (p 1) b C) (hle : ∀ s, C s ≤ 1000000) (hk : k < 8) (hr : rent ≤ 1000000) (ha : al < 256) (hb : b + 256 ≤ nt) (hn : nt < 1000000) : Ok (f_X5_pay nt p (nI b) (nI (2 ^ k)) (nI rent) (nI al)) (fun p' => CR σ room (p' 1) b (pyN C k rent al) ∧ RwF p p' b) := by
  have hN : 2 ^ σ 2 ≤ 256 := pw8 h8
  have hfl := ft_le σ room (2 ^ σ 2)
  unfold f_X5_pay
  rw [ok_zb1]
  refine ok_mono (ok_zl2 (Q := fun p' => CR σ room (p' 1) b (pyN C k rent al) ∧ RwF p p' b) (fun i o kk => kk = nI i ∧ RwF p o b ∧ ∀ s, s < 2 ^ σ 2 → sumB (szN σ) s (σ 2) ≤ room → o 1 (b + s) = nI (if ftC σ room s < i then pyN C k rent al s else C s)) (ftC σ room (2 ^ σ 2)) (fun i o kk hi hI => ?_) (fu_lt (by omega)) ⟨rfl, ⟨fun _ _ => rfl, fun _ _ => rfl⟩, fun s hs hf => by rw [if_neg (Nat.not_lt_zero _)]; exact hC s hs hf⟩) (fun y hy => ok_some.mpr hy)
  obtain ⟨rfl, hfr, hin⟩ := hI
  obtain ⟨t1, t2, t3, t4⟩ := RwF_PT hfr hT
  by_cases q : i = ftC σ room (2 ^ σ 2)
  · subst q
    simp (maxSteps := 3000000) (disch := omega) only [↓nx_q, zb0_s, zb1_s, zb2_s, zb3_s, zb4_s, zb5_s, zb6_s, zb7_s, zb8_s, zb9_s, zb10_s, zb11_s, zb12_s, zb13_s, zb14_s, q_lit, nI_add, pk_mul, e_cl, gi_in, gz_n0, gz_n1, e_gz, si_eq, si_ne, sa_eq, sa_ne, if_true, if_false, ↓reduceIte, k_ltT, k_ltF, k_leT, k_leF, k_eqT, k_eqF, k_m1lt, k_nm1, not_true_eq_false, not_false_eq_true, t3]
    exact ⟨_, rfl, fun s hs hf => by rw [hin s hs hf, if_pos (ft_lt hs hf)], hfr⟩
  · obtain ⟨u, hu, huf, hui⟩ := ft_ex (σ := σ) (room := room) (n := 2 ^ σ 2) (i := i) (by omega)
    have o4 : o 4 i = nI u := by rw [← hui]; exact t4 u hu huf
    have cu : o 1 (b + u) = nI (C u) := by rw [hin u hu huf, if_neg (by omega)]
    have hcu := hle u
    have fin : ∀ v, v = pyN C k rent al u → Lp (fun (y : Ob × Int32) => i < ftC σ room (2 ^ σ 2) ∧ y.2 = nI (i + 1) ∧ RwF p y.1 b ∧ ∀ s, s < 2 ^ σ 2 → sumB (szN σ) s (σ 2) ≤ room → y.1 1 (b + s) = nI (if ftC σ room s < i + 1 then pyN C k rent al s else C s)) (fun (p' : Ob) => CR σ room (p' 1) b (pyN C k rent al) ∧ RwF p p' b) (Sum.inl (sa o 1 (upd (o 1) (b + u) (nI v)), nI (i + 1))) := by
      intro v hv
      refine ⟨by omega, rfl, ⟨fun j hj => ?_, fun j hj => ?_⟩, fun s hs hf => ?_⟩
      · simp (disch := omega) only [si_eq, si_ne, sa_eq, sa_ne, upd_eq, upd_ne, updN_eq, updN_ne]
        exact hfr.1 j hj
      · simp (disch := omega) only [si_eq, si_ne, sa_eq, sa_ne, upd_eq, upd_ne, updN_eq, updN_ne]
        exact hfr.2 j hj
      · by_cases e : s = u
        · subst e
          simp (disch := omega) only [si_eq, si_ne, sa_eq, sa_ne, upd_eq, upd_ne, updN_eq, updN_ne]
          rw [if_pos (by omega), hv]
        · simp (disch := omega) only [si_eq, si_ne, sa_eq, sa_ne, upd_eq, upd_ne, updN_eq, updN_ne]
          rw [hin s hs hf]
          refine congrArg nI (ic ⟨fun z => by omega, fun z => ?_⟩)
          apply Nat.lt_of_le_of_ne (by omega)
          intro y
          exact e (ft_inj hf huf (by rw [y, hui]))
    by_cases bt : u.testBit k = true
    · by_cases la : u &&& al = al
      · have hv : C u = pyN C k rent al u := by
          unfold pyN
          rw [if_pos la, if_pos bt, Nat.add_zero, if_pos hcu]
        simp (maxSteps := 3000000) (disch := omega) only [↓nx_q, zb0_s, zb1_s, zb2_s, zb3_s, zb4_s, zb5_s, zb6_s, zb7_s, zb8_s, zb9_s, zb10_s, zb11_s, zb12_s, zb13_s, zb14_s, q_lit, nI_add, pk_mul, e_cl, gi_in, gz_n0, gz_n1, e_gz, si_eq, si_ne, sa_eq, sa_ne, if_true, if_false, ↓reduceIte, k_ltT, k_ltF, k_leT, k_leF, k_eqT, k_eqF, k_m1lt, k_nm1, not_true_eq_false, not_false_eq_true, t3, o4, k_ab, bt, cu, k_al, la, Nat.add_zero]
        exact ⟨_, rfl, fin _ hv⟩
      · have hv : 1000000 = pyN C k rent al u := by
          unfold pyN
          rw [if_neg la]
        simp (maxSteps := 3000000) (disch := omega) only [↓nx_q, zb0_s, zb1_s, zb2_s, zb3_s, zb4_s, zb5_s, zb6_s, zb7_s, zb8_s, zb9_s, zb10_s, zb11_s, zb12_s, zb13_s, zb14_s, q_lit, nI_add, pk_mul, e_cl, gi_in, gz_n0, gz_n1, e_gz, si_eq, si_ne, sa_eq, sa_ne, if_true, if_false, ↓reduceIte, k_ltT, k_ltF, k_leT, k_leF, k_eqT, k_eqF, k_m1lt, k_nm1, not_true_eq_false, not_false_eq_true, t3, o4, k_ab, bt, cu, k_al, la]
        exact ⟨_, rfl, fin _ hv⟩
    · by_cases la : u &&& al = al
      · by_cases qs : C u + rent ≤ 1000000
        · have hv : C u + rent = pyN C k rent al u := by
            unfold pyN
            rw [if_pos la, if_neg bt, if_pos qs]
          simp (maxSteps := 3000000) (disch := omega) only [↓nx_q, zb0_s, zb1_s, zb2_s, zb3_s, zb4_s, zb5_s, zb6_s, zb7_s, zb8_s, zb9_s, zb10_s, zb11_s, zb12_s, zb13_s, zb14_s, q_lit, nI_add, pk_mul, e_cl, gi_in, gz_n0, gz_n1, e_gz, si_eq, si_ne, sa_eq, sa_ne, if_true, if_false, ↓reduceIte, k_ltT, k_ltF, k_leT, k_leF, k_eqT, k_eqF, k_m1lt, k_nm1, not_true_eq_false, not_false_eq_true, t3, o4, k_ab, bt, cu, k_al, la]
          exact ⟨_, rfl, fin _ hv⟩
        · have hv : 1000000 = pyN C k rent al u := by
            unfold pyN
            rw [if_pos la, if_neg bt, if_neg qs]
          simp (maxSteps := 3000000) (disch := omega) only [↓nx_q, zb0_s, zb1_s, zb2_s, zb3_s, zb4_s, zb5_s, zb6_s, zb7_s, zb8_s, zb9_s, zb10_s, zb11_s, zb12_s, zb13_s, zb14_s, q_lit, nI_add, pk_mul, e_cl, gi_in, gz_n0, gz_n1, e_gz, si_eq, si_ne, sa_eq, sa_ne, if_true, if_false, ↓reduceIte, k_ltT, k_ltF, k_leT, k_leF, k_eqT, k_eqF, k_m1lt, k_nm1, not_true_eq_false, not_false_eq_true, t3, o4, k_ab, bt, cu, k_al, la]
          exact ⟨_, rfl, fin _ hv⟩
      · have hv : 1000000 = pyN C k rent al u := by
          unfold pyN
          rw [if_neg la]
        simp (maxSteps := 3000000) (disch := omega) only [↓nx_q, zb0_s, zb1_s, zb2_s, zb3_s, zb4_s, zb5_s, zb6_s, zb7_s, zb8_s, zb9_s, zb10_s, zb11_s, zb12_s, zb13_s, zb14_s, q_lit, nI_add, pk_mul, e_cl, gi_in, gz_n0, gz_n1, e_gz, si_eq, si_ne, sa_eq, sa_ne, if_true, if_false, ↓reduceIte, k_ltT, k_ltF, k_leT, k_leF, k_eqT, k_eqF, k_m1lt, k_nm1, not_true_eq_false, not_false_eq_true, t3, o4, k_ab, bt, cu, k_al, la]
        exact ⟨_, rfl, fin _ hv⟩
/-- the next row, as it should be -/
theorem row_eq {σ : Nat → Nat} {room al n : Nat} (h8 : σ 2 ≤ 8) (hwi : WFi σ) (hl : ∀ i, i < n + 1 → σ (104 + i) < σ 2) (hn : n ≤ 40) {s : Nat} (hs : s < 2 ^ σ 2) (hf : sumB (szN σ) s (σ 2) ≤ room) : pyN (upI σ (dnI σ room (rowN σ room al n) (σ 2)) (σ 2)) (σ (104 + n)) (if σ 1 = 0 ∧ σ (8 + σ (104 + n)) ≤ room then 1000000 else σ (24 + σ (104 + n))) al s = rowN σ room al (n + 1) s := by
  have hb := row_bd h8 hwi room al n (fun i h => hl i (by omega))
  have hle : ∀ s, rowN σ room al n s ≤ 1000000 := fun s => by
    rcases hb s with h | h <;> omega
  have hm := mv_eq (room := room) h8 hle hs hf
  have hsv := srv_le h8 hwi (hl n (by omega)) s
  unfold pyN
  rw [hm]
  have hU := mnU_le σ room (rowN σ room al n) s (2 ^ σ 2)
  have hU2 : mnU σ room (rowN σ room al n) s (2 ^ σ 2) = 1000000 ∨ mnU σ room (rowN σ room al n) s (2 ^ σ 2) ≤ 500 * n + 480 := by
    rcases mnU_at (σ := σ) (room := room) (C := rowN σ room al n) (s := s) (2 ^ σ 2) with h | ⟨u, a, b, c, d⟩
    · exact Or.inl h
    · have := prS_le h8 hwi (andn s u)
      rcases hb u with h | h
      · omega
      · exact Or.inr (by omega)
  show _ = if sumB (szN σ) s (σ 2) ≤ room ∧ s &&& al = al ∧ mnU σ room (rowN σ room al n) s (2 ^ σ 2) < 1000000 ∧ ((σ 1 = 0 ∧ σ (8 + σ (104 + n)) ≤ room) → s.testBit (σ (104 + n)) = true) then mnU σ room (rowN σ room al n) s (2 ^ σ 2) + srvN σ n s else 1000000
  unfold srvN at hsv ⊢
  generalize mnU σ room (rowN σ room al n) s (2 ^ σ 2) = U at *
  by_cases la : s &&& al = al
  · rw [if_pos la]
    by_cases bt : s.testBit (σ (104 + n)) = true
    · rw [if_pos bt, if_pos bt, Nat.add_zero, if_pos hU]
      by_cases q : U < 1000000
      · rw [if_pos ⟨hf, la, q, fun _ => bt⟩]
      · rw [if_neg (fun z => q z.2.2.1)]
        omega
    · rw [if_neg bt, if_neg bt]
      rw [if_neg bt] at hsv
      by_cases m : σ 1 = 0 ∧ σ (8 + σ (104 + n)) ≤ room
      · have hR : ¬ (sumB (szN σ) s (σ 2) ≤ room ∧ s &&& al = al ∧ U < 1000000 ∧ ((σ 1 = 0 ∧ σ (8 + σ (104 + n)) ≤ room) → s.testBit (σ (104 + n)) = true)) := fun z => bt (z.2.2.2 m)
        rw [if_pos m, if_neg hR]
        split <;> omega
      · rw [if_neg m]
        by_cases q : U < 1000000
        · have hR : sumB (szN σ) s (σ 2) ≤ room ∧ s &&& al = al ∧ U < 1000000 ∧ ((σ 1 = 0 ∧ σ (8 + σ (104 + n)) ≤ room) → s.testBit (σ (104 + n)) = true) := ⟨hf, la, q, fun z => absurd z m⟩
          rw [if_pos hR, if_pos (show U + σ (24 + σ (104 + n)) ≤ 1000000 by omega)]
        · have hR : ¬ (sumB (szN σ) s (σ 2) ≤ room ∧ s &&& al = al ∧ U < 1000000 ∧ ((σ 1 = 0 ∧ σ (8 + σ (104 + n)) ≤ room) → s.testBit (σ (104 + n)) = true)) := fun z => q z.2.2.1
          rw [if_neg hR]
          split <;> omega
  · rw [if_neg la, if_neg (fun z => la z.2.1)]
