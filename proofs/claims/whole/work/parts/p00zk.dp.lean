/-! ===== the BEST PLAN: what its rows are ===== -/
theorem prS_le {σ : Nat → Nat} (h8 : σ 2 ≤ 8) (hi : WFi σ) (s : Nat) : prS σ s ≤ 480 := by
  have := sumB_le (w := prN σ) (f := s) (m := 60) (n := σ 2) (fun k hk => (hi k hk).2.1.2)
  unfold prS
  omega
theorem mnU_le (σ : Nat → Nat) (room : Nat) (C : Nat → Nat) (s : Nat) : ∀ t, mnU σ room C s t ≤ 1000000
  | 0 => Nat.le_refl _
  | t + 1 => by
    have ih := mnU_le σ room C s t
    unfold mnU
    split
    · omega
    · exact ih
theorem mnU_low {σ : Nat → Nat} {room : Nat} {C : Nat → Nat} {s : Nat} : ∀ {t u : Nat}, u < t → sumB (szN σ) u (σ 2) ≤ room → C u < 1000000 → mnU σ room C s t ≤ C u + prS σ (andn s u)
  | 0, u, h, _, _ => by omega
  | t + 1, u, h, hf, hc => by
    unfold mnU
    by_cases e : u = t
    · subst e
      split
      · exact Nat.le_refl _
      · rename_i q
        exact Nat.le_of_not_lt (fun z => q ⟨hf, hc, z⟩)
    · have ih := mnU_low (s := s) (t := t) (u := u) (by omega) hf hc
      split
      · omega
      · exact ih
theorem mnU_at {σ : Nat → Nat} {room : Nat} {C : Nat → Nat} {s : Nat} : ∀ t, mnU σ room C s t = 1000000 ∨ ∃ u, u < t ∧ sumB (szN σ) u (σ 2) ≤ room ∧ C u < 1000000 ∧ mnU σ room C s t = C u + prS σ (andn s u)
  | 0 => Or.inl rfl
  | t + 1 => by
    have ih := mnU_at (σ := σ) (room := room) (C := C) (s := s) t
    unfold mnU
    split
    · rename_i q
      exact Or.inr ⟨t, by omega, q.1, q.2.1, rfl⟩
    · rcases ih with ih | ⟨u, a, b, c, d⟩
      · exact Or.inl ih
      · exact Or.inr ⟨u, by omega, b, c, d⟩
theorem srv_le {σ : Nat → Nat} (h8 : σ 2 ≤ 8) (hi : WFi σ) {i : Nat} (hl : σ (104 + i) < σ 2) (s : Nat) : srvN σ i s ≤ 20 := by
  unfold srvN
  split
  · omega
  · exact (hi _ hl).2.2.2
theorem row_bd {σ : Nat → Nat} (h8 : σ 2 ≤ 8) (hi : WFi σ) (room al : Nat) : ∀ n, (∀ i, i < n → σ (104 + i) < σ 2) → ∀ s, rowN σ room al n s = 1000000 ∨ rowN σ room al n s ≤ 500 * n
  | 0, _, s => by
    unfold rowN
    split
    · exact Or.inr (by omega)
    · exact Or.inl rfl
  | n + 1, hl, s => by
    have ih := row_bd h8 hi room al n (fun i h => hl i (by omega))
    unfold rowN
    split
    · rename_i q
      refine Or.inr ?_
      have hs := srv_le h8 hi (hl n (by omega)) s
      rcases mnU_at (σ := σ) (room := room) (C := rowN σ room al n) (s := s) (2 ^ σ 2) with h | ⟨u, a, b, c, d⟩
      · omega
      · have := prS_le h8 hi (andn s u)
        rcases ih u with h | h
        · omega
        · omega
    · exact Or.inl rfl
theorem row_fit {σ : Nat → Nat} {room al n s : Nat} (h : rowN σ room al n s < 1000000) : sumB (szN σ) s (σ 2) ≤ room := by
  cases n with
  | zero =>
    unfold rowN at h
    split at h
    · rename_i q
      subst q
      rw [sumB_0]
      exact Nat.zero_le _
    · omega
  | succ n =>
    unfold rowN at h
    split at h
    · rename_i q
      exact q.1
    · omega
/-- the first of the least -/
theorem ls_spec {σ : Nat → Nat} {room : Nat} {C : Nat → Nat} : ∀ n, sumB (szN σ) (lsN σ room C n) (σ 2) ≤ room ∧ (∀ s, s < n → sumB (szN σ) s (σ 2) ≤ room → C (lsN σ room C n) ≤ C s) ∧ (∀ s, s < lsN σ room C n → sumB (szN σ) s (σ 2) ≤ room → C (lsN σ room C n) < C s) ∧ (lsN σ room C n = 0 ∨ lsN σ room C n < n)
  | 0 => ⟨by show sumB _ 0 _ ≤ _; rw [sumB_0]; exact Nat.zero_le _, fun s h => by omega, fun s h => by exact absurd h (Nat.not_lt_zero s), Or.inl rfl⟩
  | n + 1 => by
    obtain ⟨a, b, c, d⟩ := ls_spec (σ := σ) (room := room) (C := C) n
    unfold lsN
    split
    · rename_i q
      refine ⟨q.1, fun s hs hf => ?_, fun s hs hf => ?_, Or.inr (by omega)⟩
      · by_cases e : s = n
        · subst e; exact Nat.le_refl _
        · exact Nat.le_trans (Nat.le_of_lt q.2) (b s (by omega) hf)
      · exact Nat.lt_of_lt_of_le q.2 (b s hs hf)
    · rename_i q
      refine ⟨a, fun s hs hf => ?_, c, ?_⟩
      · by_cases e : s = n
        · subst e
          exact Nat.le_of_not_lt (fun z => q ⟨hf, z⟩)
        · exact b s (by omega) hf
      · rcases d with d | d
        · exact Or.inl d
        · exact Or.inr (by omega)
theorem fa_none {σ : Nat → Nat} {room b m : Nat} {C : Nat → Nat} : ∀ {n : Nat}, faN σ room C b m n = none → ∀ s, s < n → sumB (szN σ) s (σ 2) ≤ room → C s + prS σ (andn b s) ≠ m
  | 0, _, s, hs, _ => by omega
  | n + 1, h, s, hs, hf => by
    unfold faN at h
    cases q : faN σ room C b m n with
    | some u =>
      rw [q] at h
      cases h
    | none =>
      rw [q] at h
      dsimp only at h
      split at h
      · cases h
      · rename_i z
        by_cases e : s = n
        · subst e
          exact fun y => z ⟨hf, y⟩
        · exact fa_none q s (by omega) hf
theorem fa_some {σ : Nat → Nat} {room b m : Nat} {C : Nat → Nat} : ∀ {n t : Nat}, faN σ room C b m n = some t → t < n ∧ sumB (szN σ) t (σ 2) ≤ room ∧ C t + prS σ (andn b t) = m ∧ ∀ s, s < t → sumB (szN σ) s (σ 2) ≤ room → C s + prS σ (andn b s) ≠ m
  | 0, t, h => by cases h
  | n + 1, t, h => by
    unfold faN at h
    cases q : faN σ room C b m n with
    | some u =>
      rw [q] at h
      cases h
      obtain ⟨x, y⟩ := fa_some q
      exact ⟨by omega, y⟩
    | none =>
      rw [q] at h
      dsimp only at h
      split at h
      · rename_i z
        cases h
        exact ⟨by omega, z.1, z.2, fun s hs hf => fa_none q s hs hf⟩
      · cases h
/-! moving ITEM by ITEM comes to the same -/
def fitB (σ : Nat → Nat) (room s : Nat) : Prop := sumB (szN σ) s (σ 2) ≤ room
def dnC (σ : Nat → Nat) (room : Nat) (C : Nat → Nat) (k s : Nat) : Nat := if s.testBit k = true then C s else if sumB (szN σ) (s ||| 2 ^ k) (σ 2) ≤ room ∧ C (s ||| 2 ^ k) < C s then C (s ||| 2 ^ k) else C s
def dnI (σ : Nat → Nat) (room : Nat) (C : Nat → Nat) : Nat → Nat → Nat
  | 0 => C
  | k + 1 => dnC σ room (dnI σ room C k) k
def upC (σ : Nat → Nat) (C : Nat → Nat) (k s : Nat) : Nat := if s.testBit k = true ∧ C (andn s (2 ^ k)) + σ (16 + k) < C s then C (andn s (2 ^ k)) + σ (16 + k) else C s
def upI (σ : Nat → Nat) (C : Nat → Nat) : Nat → Nat → Nat
  | 0 => C
  | k + 1 => upC σ (upI σ C k) k
theorem fit_sub {σ : Nat → Nat} {room s t : Nat} (h : sumB (szN σ) t (σ 2) ≤ room) (hs : ∀ j, j < σ 2 → s.testBit j = true → t.testBit j = true) : sumB (szN σ) s (σ 2) ≤ room := Nat.le_trans (sumB_mono hs) h
theorem or_tb (s k j : Nat) : (s ||| 2 ^ k).testBit j = true ↔ s.testBit j = true ∨ j = k := by
  rw [Nat.testBit_or, tb_pow, Bool.or_eq_true, decide_eq_true_eq]
  constructor
  · rintro (h | h)
    · exact Or.inl h
    · exact Or.inr h.symm
  · rintro (h | h)
    · exact Or.inl h
    · exact Or.inr h.symm
theorem an_tb {s : Nat} (hs : s < 4294967296) (k j : Nat) : (andn s (2 ^ k)).testBit j = true ↔ s.testBit j = true ∧ j ≠ k := by
  rw [tb_andn hs, tb_pow]
  by_cases e : k = j
  · subst e; simp
  · simp [e]
    intro _
    exact fun z => e z.symm
theorem dnI_low {σ : Nat → Nat} {room : Nat} {C : Nat → Nat} : ∀ {k s t : Nat}, sumB (szN σ) t (σ 2) ≤ room → (∀ j, s.testBit j = true → t.testBit j = true) → (∀ j, t.testBit j = true → s.testBit j = true ∨ j < k) → dnI σ room C k s ≤ C t
  | 0, s, t, hf, h1, h2 => by
    have : s = t := tb_ext (fun j => by
      cases q : s.testBit j
      · cases q2 : t.testBit j
        · rfl
        · rcases h2 j q2 with h | h
          · rw [q] at h; cases h
          · omega
      · rw [h1 j q])
    subst this
    exact Nat.le_refl _
  | k + 1, s, t, hf, h1, h2 => by
    show dnC σ room (dnI σ room C k) k s ≤ C t
    unfold dnC
    by_cases b : s.testBit k = true
    · rw [if_pos b]
      refine dnI_low hf h1 (fun j hj => ?_)
      rcases h2 j hj with h | h
      · exact Or.inl h
      · by_cases e : j = k
        · subst e; exact Or.inl b
        · exact Or.inr (by omega)
    · rw [if_neg b]
      by_cases bt : t.testBit k = true
      · have hsub : ∀ j, (s ||| 2 ^ k).testBit j = true → t.testBit j = true := fun j hj => by
          rcases (or_tb s k j).mp hj with h | h
          · exact h1 j h
          · subst h; exact bt
        have hfit := fit_sub hf (fun j _ hj => hsub j hj)
        have ih := dnI_low (C := C) (k := k) (s := s ||| 2 ^ k) (t := t) hf hsub (fun j hj => by
          rcases h2 j hj with h | h
          · exact Or.inl ((or_tb s k j).mpr (Or.inl h))
          · by_cases e : j = k
            · exact Or.inl ((or_tb s k j).mpr (Or.inr e))
            · exact Or.inr (by omega))
        split
        · exact ih
        · rename_i q
          exact Nat.le_trans (Nat.le_of_not_lt (fun z => q ⟨hfit, z⟩)) ih
      · have ih := dnI_low (C := C) (k := k) (s := s) (t := t) hf h1 (fun j hj => by
          rcases h2 j hj with h | h
          · exact Or.inl h
          · by_cases e : j = k
            · subst e; exact absurd hj bt
            · exact Or.inr (by omega))
        split
        · rename_i q
          exact Nat.le_trans (Nat.le_of_lt q.2) ih
        · exact ih
theorem dnI_at {σ : Nat → Nat} {room : Nat} {C : Nat → Nat} : ∀ {k s : Nat}, k ≤ σ 2 → s < 2 ^ σ 2 → sumB (szN σ) s (σ 2) ≤ room → ∃ t, t < 2 ^ σ 2 ∧ sumB (szN σ) t (σ 2) ≤ room ∧ (∀ j, s.testBit j = true → t.testBit j = true) ∧ dnI σ room C k s = C t
  | 0, s, _, hs, hf => ⟨s, hs, hf, fun _ h => h, rfl⟩
  | k + 1, s, hk, hs, hf => by
    show ∃ t, t < 2 ^ σ 2 ∧ sumB (szN σ) t (σ 2) ≤ room ∧ (∀ j, s.testBit j = true → t.testBit j = true) ∧ dnC σ room (dnI σ room C k) k s = C t
    unfold dnC
    by_cases b : s.testBit k = true
    · rw [if_pos b]
      exact dnI_at (by omega) hs hf
    · rw [if_neg b]
      split
      · rename_i q
        obtain ⟨t, a, b', c, d⟩ := dnI_at (C := C) (k := k) (s := s ||| 2 ^ k) (by omega) (or_lt hs (pw_lt (by omega))) q.1
        exact ⟨t, a, b', fun j hj => c j ((or_tb s k j).mpr (Or.inl hj)), d⟩
      · exact dnI_at (by omega) hs hf
theorem prS_step {σ : Nat → Nat} {s r k : Nat} (hk : k < σ 2) (hs : s < 4294967296) (hb : s.testBit k = true) (hr : r.testBit k = false) : prS σ (andn s r) = prS σ (andn (andn s (2 ^ k)) r) + σ (16 + k) := by
  have ha : andn s r < 4294967296 := andn_lt hs
  have hbit : (andn s r).testBit k = true := by
    rw [tb_andn hs, hb, hr]
    rfl
  have h1 := sumB_clr (w := prN σ) ha hk hbit
  unfold prS
  rw [← h1]
  show _ = _ + prN σ k
  congr 1
  refine sumB_congr (fun j _ => ?_) (fun _ _ _ => rfl)
  rw [tb_andn ha, tb_andn hs, tb_andn (andn_lt hs), tb_andn hs]
  cases s.testBit j <;> cases r.testBit j <;> cases (2 ^ k).testBit j <;> rfl
theorem upI_low {σ : Nat → Nat} {D : Nat → Nat} : ∀ {k s r : Nat}, k ≤ σ 2 → s < 4294967296 → (∀ j, r.testBit j = true → s.testBit j = true) → (∀ j, s.testBit j = true → r.testBit j = true ∨ j < k) → upI σ D k s ≤ D r + prS σ (andn s r)
  | 0, s, r, hk, hs, h1, h2 => by
    have : s = r := tb_ext (fun j => by
      cases q : r.testBit j
      · cases q2 : s.testBit j
        · rfl
        · rcases h2 j q2 with h | h
          · rw [q] at h; cases h
          · omega
      · rw [h1 j q])
    subst this
    exact Nat.le_add_right _ _
  | k + 1, s, r, hk, hs, h1, h2 => by
    show upC σ (upI σ D k) k s ≤ _
    unfold upC
    by_cases br : r.testBit k = true
    · have ih := upI_low (σ := σ) (D := D) (k := k) (s := s) (r := r) (by omega) hs h1 (fun j hj => by
        rcases h2 j hj with h | h
        · exact Or.inl h
        · by_cases e : j = k
          · subst e; exact Or.inl br
          · exact Or.inr (by omega))
      split
      · rename_i q
        exact Nat.le_trans (Nat.le_of_lt q.2) ih
      · exact ih
    · by_cases bs : s.testBit k = true
      · have ih := upI_low (σ := σ) (D := D) (k := k) (s := andn s (2 ^ k)) (r := r) (by omega) (andn_lt hs) (fun j hj => (an_tb hs k j).mpr ⟨h1 j hj, fun e => by subst e; exact br hj⟩) (fun j hj => by
          obtain ⟨a, b⟩ := (an_tb hs k j).mp hj
          rcases h2 j a with h | h
          · exact Or.inl h
          · exact Or.inr (by omega))
        have hp := prS_step (σ := σ) (r := r) (show k < σ 2 by omega) hs bs (by simpa using br)
        split
        · omega
        · rename_i q
          have : ¬ upI σ D k (andn s (2 ^ k)) + σ (16 + k) < upI σ D k s := fun z => q ⟨bs, z⟩
          omega
      · have ih := upI_low (σ := σ) (D := D) (k := k) (s := s) (r := r) (by omega) hs h1 (fun j hj => by
          rcases h2 j hj with h | h
          · exact Or.inl h
          · by_cases e : j = k
            · subst e; exact absurd hj bs
            · exact Or.inr (by omega))
        rw [if_neg (fun q => bs q.1)]
        exact ih
theorem upI_at {σ : Nat → Nat} {D : Nat → Nat} : ∀ {k s : Nat}, k ≤ σ 2 → s < 4294967296 → ∃ r, (∀ j, r.testBit j = true → s.testBit j = true) ∧ upI σ D k s = D r + prS σ (andn s r)
  | 0, s, _, hs => ⟨s, fun _ h => h, by
    show D s = _
    have : andn s s = 0 := tb_ext (fun j => by
      rw [tb_andn hs]
      cases s.testBit j <;> simp)
    rw [this]
    unfold prS
    rw [sumB_0]
    rfl⟩
  | k + 1, s, hk, hs => by
    show ∃ r, (∀ j, r.testBit j = true → s.testBit j = true) ∧ upC σ (upI σ D k) k s = D r + prS σ (andn s r)
    unfold upC
    split
    · rename_i q
      obtain ⟨r, a, b⟩ := upI_at (σ := σ) (D := D) (k := k) (s := andn s (2 ^ k)) (by omega) (andn_lt hs)
      have hr : r.testBit k = false := by
        cases z : r.testBit k
        · rfl
        · exact absurd rfl ((an_tb hs k k).mp (a k z)).2
      refine ⟨r, fun j hj => ((an_tb hs k j).mp (a j hj)).1, ?_⟩
      rw [b, prS_step (σ := σ) (r := r) (show k < σ 2 by omega) hs q.1 hr]
      omega
    · exact upI_at (by omega) hs
/-- one ITEM after the other comes to the same -/
theorem mv_eq {σ : Nat → Nat} {room : Nat} {C : Nat → Nat} (h8 : σ 2 ≤ 8) (hC : ∀ s, C s ≤ 1000000) {s : Nat} (hs : s < 2 ^ σ 2) (hf : sumB (szN σ) s (σ 2) ≤ room) : upI σ (dnI σ room C (σ 2)) (σ 2) s = mnU σ room C s (2 ^ σ 2) := by
  have hN : 2 ^ σ 2 ≤ 256 := pw8 h8
  have hs32 : s < 4294967296 := by omega
  have hlow : ∀ t, t < 2 ^ σ 2 → sumB (szN σ) t (σ 2) ≤ room → upI σ (dnI σ room C (σ 2)) (σ 2) s ≤ C t + prS σ (andn s t) := by
    intro t ht hft
    have hr : ∀ j, (s &&& t).testBit j = true ↔ s.testBit j = true ∧ t.testBit j = true := fun j => by
      rw [Nat.testBit_and, Bool.and_eq_true]
    have h1 := upI_low (σ := σ) (D := dnI σ room C (σ 2)) (k := σ 2) (s := s) (r := s &&& t) (Nat.le_refl _) hs32 (fun j hj => ((hr j).mp hj).1) (fun j hj => Or.inr (by
      apply Nat.lt_of_not_le
      intro z
      rw [tb_big hs z] at hj
      cases hj))
    have h2 := dnI_low (C := C) (k := σ 2) (s := s &&& t) hft (fun j hj => ((hr j).mp hj).2) (fun j hj => Or.inr (by
      apply Nat.lt_of_not_le
      intro z
      rw [tb_big ht z] at hj
      cases hj))
    have h3 : andn s (s &&& t) = andn s t := tb_ext (fun j => by
      rw [tb_andn hs32, tb_andn hs32, Nat.testBit_and]
      cases s.testBit j <;> cases t.testBit j <;> rfl)
    rw [h3] at h1
    omega
  have hat : ∃ t, t < 2 ^ σ 2 ∧ sumB (szN σ) t (σ 2) ≤ room ∧ C t + prS σ (andn s t) ≤ upI σ (dnI σ room C (σ 2)) (σ 2) s := by
    obtain ⟨r, a, b⟩ := upI_at (σ := σ) (D := dnI σ room C (σ 2)) (k := σ 2) (s := s) (Nat.le_refl _) hs32
    have hrs : r < 2 ^ σ 2 := lt_of_tb (fun j hj => by
      cases z : r.testBit j
      · rfl
      · have := a j z
        rw [tb_big hs hj] at this
        cases this)
    have hfr : sumB (szN σ) r (σ 2) ≤ room := fit_sub hf (fun j _ hj => a j hj)
    obtain ⟨t, t1, t2, t3, t4⟩ := dnI_at (C := C) (k := σ 2) (s := r) (Nat.le_refl _) hrs hfr
    refine ⟨t, t1, t2, ?_⟩
    rw [b, t4]
    have : prS σ (andn s t) ≤ prS σ (andn s r) := by
      unfold prS
      refine sumB_mono (fun j _ hj => ?_)
      rw [tb_andn hs32] at hj ⊢
      cases q : r.testBit j
      · revert hj
        cases s.testBit j <;> cases t.testBit j <;> simp
      · have := t3 j q
        rw [this] at hj
        revert hj
        cases s.testBit j <;> simp
    omega
  apply Nat.le_antisymm
  · rcases mnU_at (σ := σ) (room := room) (C := C) (s := s) (2 ^ σ 2) with h | ⟨u, a, b, c, d⟩
    · rw [h]
      have h1 := hlow s hs hf
      have h2 : andn s s = 0 := tb_ext (fun j => by
        rw [tb_andn hs32]
        cases s.testBit j <;> simp)
      rw [h2] at h1
      have h3 : prS σ 0 = 0 := by unfold prS; rw [sumB_0]
      have := hC s
      omega
    · rw [d]
      exact hlow u a b
  · obtain ⟨t, a, b, c⟩ := hat
    by_cases q : C t < 1000000
    · exact Nat.le_trans (mnU_low a b q) c
    · have := mnU_le σ room C s (2 ^ σ 2)
      omega
