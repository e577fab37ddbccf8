/-! ===== the planner: the class ===== -/
theorem ft_mono {σ : Nat → Nat} {room s : Nat} : ∀ {t : Nat}, s ≤ t → ftC σ room s ≤ ftC σ room t
  | 0, h => by
    have : s = 0 := by omega
    subst this
    exact Nat.le_refl _
  | t + 1, h => by
    by_cases e : s = t + 1
    · subst e; exact Nat.le_refl _
    · have := ft_mono (σ := σ) (room := room) (s := s) (t := t) (by omega)
      show _ ≤ ftC σ room t + _
      omega
theorem ft_lt {σ : Nat → Nat} {room s t : Nat} (h : s < t) (hf : sumB (szN σ) s (σ 2) ≤ room) : ftC σ room s < ftC σ room t := by
  have h1 : ftC σ room (s + 1) = ftC σ room s + 1 := by
    show _ + (if _ then 1 else 0) = _
    rw [if_pos hf]
  have := ft_mono (σ := σ) (room := room) (s := s + 1) (t := t) (by omega)
  omega
theorem ft_inj {σ : Nat → Nat} {room s t : Nat} (hs : sumB (szN σ) s (σ 2) ≤ room) (ht : sumB (szN σ) t (σ 2) ≤ room) (h : ftC σ room s = ftC σ room t) : s = t := by
  rcases Nat.lt_trichotomy s t with q | q | q
  · have := ft_lt q hs
    omega
  · exact q
  · have := ft_lt q ht
    omega
theorem ft_le (σ : Nat → Nat) (room : Nat) : ∀ n, ftC σ room n ≤ n
  | 0 => Nat.le_refl _
  | n + 1 => by
    have := ft_le σ room n
    show ftC σ room n + (if _ then 1 else 0) ≤ _
    split <;> omega
theorem ft_ex {σ : Nat → Nat} {room i : Nat} : ∀ {n : Nat}, i < ftC σ room n → ∃ s, s < n ∧ sumB (szN σ) s (σ 2) ≤ room ∧ ftC σ room s = i
  | 0, h => absurd h (Nat.not_lt_zero i)
  | n + 1, h => by
    by_cases q : i < ftC σ room n
    · obtain ⟨s, a, b⟩ := ft_ex q
      exact ⟨s, by omega, b⟩
    · have h' : i < ftC σ room n + (if sumB (szN σ) n (σ 2) ≤ room then 1 else 0) := h
      by_cases z : sumB (szN σ) n (σ 2) ≤ room
      · rw [if_pos z] at h'
        exact ⟨n, by omega, z, by omega⟩
      · rw [if_neg z] at h'
        omega
theorem an_all : ∀ u : Fin 256, ∀ k : Fin 8, u.val.testBit k.val = true → andn u.val (2 ^ k.val) + 2 ^ k.val = u.val := by decide +kernel
theorem an_add {u k : Nat} (hu : u < 256) (hk : k < 8) (hb : u.testBit k = true) : andn u (2 ^ k) + 2 ^ k = u := an_all ⟨u, hu⟩ ⟨k, hk⟩ hb
theorem an_or {u k : Nat} (hu : u < 4294967296) (hb : u.testBit k = true) : andn u (2 ^ k) ||| 2 ^ k = u := tb_ext (fun j => by
  rw [Nat.testBit_or, tb_andn hu, tb_pow]
  by_cases e : k = j
  · subst e; simp [hb]
  · simp [e])
theorem or_an {u k : Nat} (hu : u < 4294967296) (hk : k < 32) (hb : ¬ u.testBit k = true) : andn (u ||| 2 ^ k) (2 ^ k) = u := tb_ext (fun j => by
  rw [tb_andn (or_lt (n := 32) hu (pw_lt hk)), Nat.testBit_or, tb_pow]
  by_cases e : k = j
  · subst e; simp at hb; simp [hb]
  · simp [e])
theorem k_ab {u k : Nat} (hu : u < 256) (hk : k < 8) : (nI u &&& nI (2 ^ k) = nI 0) = ¬ (u.testBit k = true) := by
  rw [q_and]
  have h1 : u &&& 2 ^ k < 256 := Nat.lt_of_le_of_lt Nat.and_le_left hu
  have hz : (u &&& 2 ^ k = 0) ↔ ¬ u.testBit k = true := by
    constructor
    · intro h hb
      have : (u &&& 2 ^ k).testBit k = true := by rw [Nat.testBit_and, hb, tb_pow]; simp
      rw [h] at this
      simp at this
    · intro hb
      apply tb_ext
      intro j
      rw [Nat.testBit_and, tb_pow]
      by_cases e : k = j
      · subst e; simp at hb; simp [hb]
      · simp [e]
  rw [eq_iff_iff]
  exact (nI_eq (by omega) (by decide)).trans hz
theorem ic {c d : Prop} {_ : Decidable c} {_ : Decidable d} {α : Type} {x y : α} (h : c ↔ d) : (if c then x else y) = if d then x else y := by
  by_cases q : c
  · rw [if_pos q, if_pos (h.mp q)]
  · rw [if_neg q, if_neg (fun z => q (h.mpr z))]
/-- a row of costs -/
def CR (σ : Nat → Nat) (room : Nat) (f : Fn) (b : Nat) (C : Nat → Nat) : Prop := ∀ s, s < 2 ^ σ 2 → sumB (szN σ) s (σ 2) ≤ room → f (b + s) = nI (C s)
theorem PT_fr {p p' : Ob} {σ : Nat → Nat} {room : Nat} (h : PT p σ room) (hf : ∀ j, j ≠ 1 → j ≠ 7 → j ≠ 8 → j ≠ 9 → p' j = p j) : PT p' σ room := by
  unfold PT
  rw [hf 6 (by decide) (by decide) (by decide) (by decide), hf 2 (by decide) (by decide) (by decide) (by decide), hf 3 (by decide) (by decide) (by decide) (by decide), hf 5 (by decide) (by decide) (by decide) (by decide), hf 4 (by decide) (by decide) (by decide) (by decide)]
  exact h
theorem dnC_le {σ : Nat → Nat} {room : Nat} {C : Nat → Nat} (h : ∀ s, C s ≤ 1000000) (k s : Nat) : dnC σ room C k s ≤ 1000000 := by
  unfold dnC
  split
  · exact h s
  · split
    · exact h _
    · exact h s
theorem upC_le {σ : Nat → Nat} {C : Nat → Nat} (h : ∀ s, C s ≤ 1000000) (k s : Nat) : upC σ C k s ≤ 1000000 := by
  unfold upC
  split
  · rename_i q
    have := h s
    omega
  · exact h s
theorem c_letDown {p : Ob} {σ : Nat → Nat} {room b nt k : Nat} {C : Nat → Nat} (hT : PT p σ room) (h8 : σ 2 ≤ 8) (hC : CR σ room (p 1) b C) (hle : ∀ s, C s ≤ 1000000) (hk : k < σ 2) (hb : b + 256 ≤ nt) (hn : nt < 1000000) : Ok (f_X5_letDown nt p (nI b) (nI (2 ^ k))) (fun p' => CR σ room (p' 1) b (dnC σ room C k) ∧ (∀ j, j < b ∨ b + 256 ≤ j → p' 1 j = p 1 j) ∧ ∀ j, j ≠ 1 → p' j = p j) := by
  obtain ⟨t1, t2, t3, t4⟩ := hT
  have hN : 2 ^ σ 2 ≤ 256 := pw8 h8
  have h2k : 2 ^ k < 256 := Nat.lt_of_lt_of_le (pw_lt hk) hN
  have hfl := ft_le σ room (2 ^ σ 2)
  unfold f_X5_letDown
  rw [ok_zb1]
  refine ok_mono (ok_zl2 (Q := fun p' => CR σ room (p' 1) b (dnC σ room C k) ∧ (∀ j, j < b ∨ b + 256 ≤ j → p' 1 j = p 1 j) ∧ ∀ j, j ≠ 1 → p' j = p j) (fun i o kk => kk = nI i ∧ (∀ j, j ≠ 1 → o j = p j) ∧ (∀ j, j < b ∨ b + 256 ≤ j → o 1 j = p 1 j) ∧ ∀ s, s < 2 ^ σ 2 → sumB (szN σ) s (σ 2) ≤ room → o 1 (b + s) = nI (if (¬ s.testBit k = true) ∧ sumB (szN σ) (s ||| 2 ^ k) (σ 2) ≤ room ∧ ftC σ room (s ||| 2 ^ k) < i ∧ C (s ||| 2 ^ k) < C s then C (s ||| 2 ^ k) else C s)) (ftC σ room (2 ^ σ 2)) (fun i o kk hi hI => ?_) (fu_lt (by omega)) ⟨rfl, fun _ _ => rfl, fun _ _ => rfl, fun s hs hf => by rw [if_neg (fun q => Nat.not_lt_zero _ q.2.2.1)]; exact hC s hs hf⟩) (fun y hy => ok_some.mpr hy)
  obtain ⟨rfl, hfr, hout, hin⟩ := hI
  have o5 : o 5 0 = nI (ftC σ room (2 ^ σ 2)) := by rw [hfr 5 (by decide)]; exact t3
  by_cases q : i = ftC σ room (2 ^ σ 2)
  · subst q
    simp (maxSteps := 3000000) (disch := omega) only [↓nx_q, zb0_s, zb1_s, zb2_s, zb3_s, zb4_s, zb5_s, zb6_s, zb7_s, zb8_s, zb9_s, zb10_s, zb11_s, zb12_s, zb13_s, zb14_s, q_lit, nI_add, pk_mul, e_cl, gi_in, gz_n0, gz_n1, e_gz, si_eq, si_ne, sa_eq, sa_ne, if_true, if_false, ↓reduceIte, k_ltT, k_ltF, k_leT, k_leF, k_eqT, k_eqF, k_m1lt, k_nm1, not_true_eq_false, not_false_eq_true, o5]
    refine ⟨_, rfl, fun s hs hf => ?_, hout, hfr⟩
    rw [hin s hs hf]
    refine congrArg nI ?_
    unfold dnC
    by_cases bt : s.testBit k = true
    · rw [if_pos bt, if_neg (fun z => z.1 bt)]
    · rw [if_neg bt]
      have hs' : s ||| 2 ^ k < 2 ^ σ 2 := or_lt hs (pw_lt hk)
      by_cases z : sumB (szN σ) (s ||| 2 ^ k) (σ 2) ≤ room ∧ C (s ||| 2 ^ k) < C s
      · rw [if_pos z, if_pos ⟨bt, z.1, ft_lt hs' z.1, z.2⟩]
      · rw [if_neg z, if_neg (fun y => z ⟨y.2.1, y.2.2.2⟩)]
  · obtain ⟨u, hu, huf, hui⟩ := ft_ex (σ := σ) (room := room) (n := 2 ^ σ 2) (i := i) (by omega)
    have o4 : o 4 i = nI u := by rw [hfr 4 (by decide), ← hui]; exact t4 u hu huf
    by_cases bt : u.testBit k = true
    · have hv := an_add (show u < 256 by omega) (show k < 8 by omega) bt
      have hvf : sumB (szN σ) (andn u (2 ^ k)) (σ 2) ≤ room := fit_sub huf (fun j _ hj => ((an_tb (by omega) k j).mp hj).1)
      have hvN : andn u (2 ^ k) < 2 ^ σ 2 := andn_lt hu
      have hvo := an_or (show u < 4294967296 by omega) bt
      have hvb : ¬ (andn u (2 ^ k)).testBit k = true := fun z => ((an_tb (by omega) k k).mp z).2 rfl
      have cu : o 1 (b + u) = nI (C u) := by rw [hin u hu huf, if_neg (fun z => z.1 bt)]
      have cv : o 1 (b + andn u (2 ^ k)) = nI (C (andn u (2 ^ k))) := by
        rw [hin _ hvN hvf, if_neg (fun z => by rw [hvo, hui] at z; omega)]
      have hcu := hle u
      have hcv := hle (andn u (2 ^ k))
      have ex : b + u - 2 ^ k = b + andn u (2 ^ k) := by omega
      have key : ∀ s, s < 2 ^ σ 2 → sumB (szN σ) s (σ 2) ≤ room → s ≠ andn u (2 ^ k) → ((¬ s.testBit k = true) ∧ sumB (szN σ) (s ||| 2 ^ k) (σ 2) ≤ room ∧ ftC σ room (s ||| 2 ^ k) < i + 1 ∧ C (s ||| 2 ^ k) < C s ↔ (¬ s.testBit k = true) ∧ sumB (szN σ) (s ||| 2 ^ k) (σ 2) ≤ room ∧ ftC σ room (s ||| 2 ^ k) < i ∧ C (s ||| 2 ^ k) < C s) := by
        intro s hs hf hne
        constructor
        · rintro ⟨a, b', c, d⟩
          refine ⟨a, b', ?_, d⟩
          apply Nat.lt_of_le_of_ne (by omega)
          intro z
          have := ft_inj b' huf (by rw [z, hui])
          apply hne
          rw [← this, or_an (by omega) (by omega) a]
        · rintro ⟨a, b', c, d⟩
          exact ⟨a, b', by omega, d⟩
      by_cases z : C (andn u (2 ^ k)) ≤ C u
      · simp (maxSteps := 3000000) (disch := omega) only [↓nx_q, zb0_s, zb1_s, zb2_s, zb3_s, zb4_s, zb5_s, zb6_s, zb7_s, zb8_s, zb9_s, zb10_s, zb11_s, zb12_s, zb13_s, zb14_s, q_lit, nI_add, pk_mul, e_cl, gi_in, gz_n0, gz_n1, e_gz, si_eq, si_ne, sa_eq, sa_ne, if_true, if_false, ↓reduceIte, k_ltT, k_ltF, k_leT, k_leF, k_eqT, k_eqF, k_m1lt, k_nm1, not_true_eq_false, not_false_eq_true, o5, o4, k_ab, bt, e_sub, ex, cu, cv]
        refine ⟨_, rfl, by omega, rfl, hfr, hout, fun s hs hf => ?_⟩
        dsimp only
        rw [hin s hs hf]
        by_cases e : s = andn u (2 ^ k)
        · subst e
          rw [hvo, if_neg (by omega), if_neg (by omega)]
        · rw [ic (key s hs hf e)]
      · simp (maxSteps := 3000000) (disch := omega) only [↓nx_q, zb0_s, zb1_s, zb2_s, zb3_s, zb4_s, zb5_s, zb6_s, zb7_s, zb8_s, zb9_s, zb10_s, zb11_s, zb12_s, zb13_s, zb14_s, q_lit, nI_add, pk_mul, e_cl, gi_in, gz_n0, gz_n1, e_gz, si_eq, si_ne, sa_eq, sa_ne, if_true, if_false, ↓reduceIte, k_ltT, k_ltF, k_leT, k_leF, k_eqT, k_eqF, k_m1lt, k_nm1, not_true_eq_false, not_false_eq_true, o5, o4, k_ab, bt, e_sub, ex, cu, cv]
        refine ⟨_, rfl, by omega, rfl, fun j hj => ?_, fun j hj => ?_, fun s hs hf => ?_⟩
        · simp (disch := omega) only [si_eq, si_ne, sa_eq, sa_ne, upd_eq, upd_ne, updN_eq, updN_ne]
          exact hfr j hj
        · simp (disch := omega) only [si_eq, si_ne, sa_eq, sa_ne, upd_eq, upd_ne, updN_eq, updN_ne]
          exact hout j hj
        · by_cases e : s = andn u (2 ^ k)
          · subst e
            simp (disch := omega) only [si_eq, si_ne, sa_eq, sa_ne, upd_eq, upd_ne, updN_eq, updN_ne]
            rw [hvo, if_pos ⟨hvb, huf, by omega, by omega⟩]
          · simp (disch := omega) only [si_eq, si_ne, sa_eq, sa_ne, upd_eq, upd_ne, updN_eq, updN_ne]
            rw [hin s hs hf, ic (key s hs hf e)]
    · simp (maxSteps := 3000000) (disch := omega) only [↓nx_q, zb0_s, zb1_s, zb2_s, zb3_s, zb4_s, zb5_s, zb6_s, zb7_s, zb8_s, zb9_s, zb10_s, zb11_s, zb12_s, zb13_s, zb14_s, q_lit, nI_add, pk_mul, e_cl, gi_in, gz_n0, gz_n1, e_gz, si_eq, si_ne, sa_eq, sa_ne, if_true, if_false, ↓reduceIte, k_ltT, k_ltF, k_leT, k_leF, k_eqT, k_eqF, k_m1lt, k_nm1, not_true_eq_false, not_false_eq_true, o5, o4, k_ab, bt]
      refine ⟨_, rfl, by omega, rfl, hfr, hout, fun s hs hf => ?_⟩
      dsimp only
      rw [hin s hs hf]
      refine congrArg nI ?_
      have : ((¬ s.testBit k = true) ∧ sumB (szN σ) (s ||| 2 ^ k) (σ 2) ≤ room ∧ ftC σ room (s ||| 2 ^ k) < i ∧ C (s ||| 2 ^ k) < C s) ↔ ((¬ s.testBit k = true) ∧ sumB (szN σ) (s ||| 2 ^ k) (σ 2) ≤ room ∧ ftC σ room (s ||| 2 ^ k) < i + 1 ∧ C (s ||| 2 ^ k) < C s) := by
        constructor
        · rintro ⟨a, b', c, d⟩
          exact ⟨a, b', by omega, d⟩
        · rintro ⟨a, b', c, d⟩
          refine ⟨a, b', ?_, d⟩
          apply Nat.lt_of_le_of_ne (by omega)
          intro z
          have h := ft_inj b' huf (by rw [z, hui])
          apply bt
          rw [← h]
          exact (or_tb s k k).mpr (Or.inr rfl)
      rw [ic this]
theorem c_letUp {p : Ob} {σ : Nat → Nat} {room b nt k : Nat} {C : Nat → Nat} (hT : PT p σ room) (h8 : σ 2 ≤ 8) (hwi : WFi σ) (hC : CR σ room (p 1) b C) (hle : ∀ s, C s ≤ 1000000) (hk : k < σ 2) (hb : b + 256 ≤ nt) (hn : nt < 1000000) : Ok (f_X5_letUp nt p (nI b) (nI (2 ^ k))) (fun p' => CR σ room (p' 1) b (upC σ C k) ∧ (∀ j, j < b ∨ b + 256 ≤ j → p' 1 j = p 1 j) ∧ ∀ j, j ≠ 1 → p' j = p j) := by
  obtain ⟨t1, t2, t3, t4⟩ := hT
  have hN : 2 ^ σ 2 ≤ 256 := pw8 h8
  have h2k : 2 ^ k < 256 := Nat.lt_of_lt_of_le (pw_lt hk) hN
  have hfl := ft_le σ room (2 ^ σ 2)
  have hpk : prS σ (2 ^ k) = σ (16 + k) := sumB_single hk
  have hpb := (hwi k hk).2.1
  unfold f_X5_letUp
  rw [ok_zb1]
  refine ok_mono (ok_zl2 (Q := fun p' => CR σ room (p' 1) b (upC σ C k) ∧ (∀ j, j < b ∨ b + 256 ≤ j → p' 1 j = p 1 j) ∧ ∀ j, j ≠ 1 → p' j = p j) (fun i o kk => kk = nI i ∧ (∀ j, j ≠ 1 → o j = p j) ∧ (∀ j, j < b ∨ b + 256 ≤ j → o 1 j = p 1 j) ∧ ∀ s, s < 2 ^ σ 2 → sumB (szN σ) s (σ 2) ≤ room → o 1 (b + s) = nI (if s.testBit k = true ∧ ftC σ room s < i ∧ C (andn s (2 ^ k)) + σ (16 + k) < C s then C (andn s (2 ^ k)) + σ (16 + k) else C s)) (ftC σ room (2 ^ σ 2)) (fun i o kk hi hI => ?_) (fu_lt (by omega)) ⟨rfl, fun _ _ => rfl, fun _ _ => rfl, fun s hs hf => by rw [if_neg (fun q => Nat.not_lt_zero _ q.2.1)]; exact hC s hs hf⟩) (fun y hy => ok_some.mpr hy)
  obtain ⟨rfl, hfr, hout, hin⟩ := hI
  have o5 : o 5 0 = nI (ftC σ room (2 ^ σ 2)) := by rw [hfr 5 (by decide)]; exact t3
  have o3 : o 3 (2 ^ k) = nI (σ (16 + k)) := by rw [hfr 3 (by decide), (t2 (2 ^ k) (pw_lt hk)).2, hpk]
  by_cases q : i = ftC σ room (2 ^ σ 2)
  · subst q
    simp (maxSteps := 3000000) (disch := omega) only [↓nx_q, zb0_s, zb1_s, zb2_s, zb3_s, zb4_s, zb5_s, zb6_s, zb7_s, zb8_s, zb9_s, zb10_s, zb11_s, zb12_s, zb13_s, zb14_s, q_lit, nI_add, pk_mul, e_cl, gi_in, gz_n0, gz_n1, e_gz, si_eq, si_ne, sa_eq, sa_ne, if_true, if_false, ↓reduceIte, k_ltT, k_ltF, k_leT, k_leF, k_eqT, k_eqF, k_m1lt, k_nm1, not_true_eq_false, not_false_eq_true, o5]
    refine ⟨_, rfl, fun s hs hf => ?_, hout, hfr⟩
    rw [hin s hs hf]
    refine congrArg nI ?_
    unfold upC
    refine ic ⟨fun z => ⟨z.1, z.2.2⟩, fun z => ⟨z.1, ft_lt hs hf, z.2⟩⟩
  · obtain ⟨u, hu, huf, hui⟩ := ft_ex (σ := σ) (room := room) (n := 2 ^ σ 2) (i := i) (by omega)
    have o4 : o 4 i = nI u := by rw [hfr 4 (by decide), ← hui]; exact t4 u hu huf
    have key : ∀ s, s < 2 ^ σ 2 → sumB (szN σ) s (σ 2) ≤ room → (s ≠ u ∨ ¬ u.testBit k = true) → ((s.testBit k = true ∧ ftC σ room s < i ∧ C (andn s (2 ^ k)) + σ (16 + k) < C s) ↔ (s.testBit k = true ∧ ftC σ room s < i + 1 ∧ C (andn s (2 ^ k)) + σ (16 + k) < C s)) := by
      intro s hs hf hne
      constructor
      · rintro ⟨a, c, d⟩
        exact ⟨a, by omega, d⟩
      · rintro ⟨a, c, d⟩
        refine ⟨a, ?_, d⟩
        apply Nat.lt_of_le_of_ne (by omega)
        intro z
        have h := ft_inj hf huf (by rw [z, hui])
        rcases hne with h2 | h2
        · exact h2 h
        · rw [h] at a
          exact h2 a
    by_cases bt : u.testBit k = true
    · have hv := an_add (show u < 256 by omega) (show k < 8 by omega) bt
      have hvf : sumB (szN σ) (andn u (2 ^ k)) (σ 2) ≤ room := fit_sub huf (fun j _ hj => ((an_tb (by omega) k j).mp hj).1)
      have hvN : andn u (2 ^ k) < 2 ^ σ 2 := andn_lt hu
      have hvb : ¬ (andn u (2 ^ k)).testBit k = true := fun z => ((an_tb (by omega) k k).mp z).2 rfl
      have cu : o 1 (b + u) = nI (C u) := by rw [hin u hu huf, if_neg (fun z => by rw [hui] at z; omega)]
      have cv : o 1 (b + andn u (2 ^ k)) = nI (C (andn u (2 ^ k))) := by
        rw [hin _ hvN hvf, if_neg (fun z => hvb z.1)]
      have hcu := hle u
      have hcv := hle (andn u (2 ^ k))
      have ex : b + u - 2 ^ k = b + andn u (2 ^ k) := by omega
      by_cases z : C u ≤ C (andn u (2 ^ k)) + σ (16 + k)
      · simp (maxSteps := 3000000) (disch := omega) only [↓nx_q, zb0_s, zb1_s, zb2_s, zb3_s, zb4_s, zb5_s, zb6_s, zb7_s, zb8_s, zb9_s, zb10_s, zb11_s, zb12_s, zb13_s, zb14_s, q_lit, nI_add, pk_mul, e_cl, gi_in, gz_n0, gz_n1, e_gz, si_eq, si_ne, sa_eq, sa_ne, if_true, if_false, ↓reduceIte, k_ltT, k_ltF, k_leT, k_leF, k_eqT, k_eqF, k_m1lt, k_nm1, not_true_eq_false, not_false_eq_true, o5, o4, k_ab, bt, e_sub, ex, cu, cv, o3]
        refine ⟨_, rfl, by omega, rfl, hfr, hout, fun s hs hf => ?_⟩
        dsimp only
        rw [hin s hs hf]
        by_cases e : s = u
        · subst e
          rw [if_neg (by omega), if_neg (by omega)]
        · rw [ic (key s hs hf (Or.inl e))]
      · simp (maxSteps := 3000000) (disch := omega) only [↓nx_q, zb0_s, zb1_s, zb2_s, zb3_s, zb4_s, zb5_s, zb6_s, zb7_s, zb8_s, zb9_s, zb10_s, zb11_s, zb12_s, zb13_s, zb14_s, q_lit, nI_add, pk_mul, e_cl, gi_in, gz_n0, gz_n1, e_gz, si_eq, si_ne, sa_eq, sa_ne, if_true, if_false, ↓reduceIte, k_ltT, k_ltF, k_leT, k_leF, k_eqT, k_eqF, k_m1lt, k_nm1, not_true_eq_false, not_false_eq_true, o5, o4, k_ab, bt, e_sub, ex, cu, cv, o3]
        refine ⟨_, rfl, by omega, rfl, fun j hj => ?_, fun j hj => ?_, fun s hs hf => ?_⟩
        · simp (disch := omega) only [si_eq, si_ne, sa_eq, sa_ne, upd_eq, upd_ne, updN_eq, updN_ne]
          exact hfr j hj
        · simp (disch := omega) only [si_eq, si_ne, sa_eq, sa_ne, upd_eq, upd_ne, updN_eq, updN_ne]
          exact hout j hj
        · by_cases e : s = u
          · subst e
            simp (disch := omega) only [si_eq, si_ne, sa_eq, sa_ne, upd_eq, upd_ne, updN_eq, updN_ne]
            rw [if_pos ⟨bt, by omega, by omega⟩]
          · simp (disch := omega) only [si_eq, si_ne, sa_eq, sa_ne, upd_eq, upd_ne, updN_eq, updN_ne]
            rw [hin s hs hf, ic (key s hs hf (Or.inl e))]
    · simp (maxSteps := 3000000) (disch := omega) only [↓nx_q, zb0_s, zb1_s, zb2_s, zb3_s, zb4_s, zb5_s, zb6_s, zb7_s, zb8_s, zb9_s, zb10_s, zb11_s, zb12_s, zb13_s, zb14_s, q_lit, nI_add, pk_mul, e_cl, gi_in, gz_n0, gz_n1, e_gz, si_eq, si_ne, sa_eq, sa_ne, if_true, if_false, ↓reduceIte, k_ltT, k_ltF, k_leT, k_leF, k_eqT, k_eqF, k_m1lt, k_nm1, not_true_eq_false, not_false_eq_true, o5, o4, k_ab, bt]
      refine ⟨_, rfl, by omega, rfl, hfr, hout, fun s hs hf => ?_⟩
      dsimp only
      rw [hin s hs hf, ic (key s hs hf (Or.inr bt))]
