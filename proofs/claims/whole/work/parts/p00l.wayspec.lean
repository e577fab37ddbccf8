/-! ===== to make way: how it goes ===== -/
abbrev DL : Type := List (Nat × Nat × Nat)
abbrev WS : Type := (Nat → Nat) × DL
def wst (s : WS) : WS := match poor s.1 (s.1 2) with
  | none => s
  | some p => if s.1 (32 + p) = 0 then (dnS s.1 p, s.2 ++ [(2, p, s.1 (8 + p))]) else (snkI s.1 (s.1 (32 + p)) (s.1 2), s.2)
def wy (σ : Nat → Nat) : Nat → WS
  | 0 => (σ, [])
  | i + 1 => wst (wy σ i)
def Wv (σ : Nat → Nat) : Prop := σ 2 ≤ 8 ∧ σ 3 < 2 ^ σ 2 ∧ (1 ≤ σ 0 ∧ σ 0 ≤ 20) ∧ liesN σ ≤ σ 0 ∧ WFi σ ∧ WFd σ
theorem Wv_3 {σ : Nat → Nat} (h : Wv σ) : σ 3 < 256 := Nat.lt_of_lt_of_le h.2.1 (pw8 h.1)
theorem dn_2 (σ : Nat → Nat) (k : Nat) : dnS σ k 2 = σ 2 := by
  unfold dnS
  rw [updN_ne (by omega), updN_ne (by omega)]
theorem dn_3 (σ : Nat → Nat) (k : Nat) : dnS σ k 3 = andn (σ 3) (2 ^ k) := by
  unfold dnS
  rw [updN_ne (by omega), updN_eq]
theorem dn_fr {σ : Nat → Nat} {k j : Nat} (h3 : j ≠ 3) (h : j ≠ 32 + k) : dnS σ k j = σ j := by
  unfold dnS
  rw [updN_ne h, updN_ne h3]
theorem dn_d (σ : Nat → Nat) (k : Nat) : dnS σ k (32 + k) = 0 := updN_eq _ _ _
theorem up_2 (σ : Nat → Nat) (k : Nat) : upS σ k 2 = σ 2 := by
  unfold upS
  rw [updN_ne (by omega), updN_ne (by omega), updN_ne (by omega)]
theorem up_3 (σ : Nat → Nat) (k : Nat) : upS σ k 3 = σ 3 ||| 2 ^ k := by
  unfold upS
  rw [updN_ne (by omega), updN_ne (by omega), updN_eq]
theorem up_fr {σ : Nat → Nat} {k j : Nat} (h3 : j ≠ 3) (h : j ≠ 32 + k) (h2 : j ≠ 40 + k) : upS σ k j = σ j := by
  unfold upS
  rw [updN_ne h2, updN_ne h, updN_ne h3]
theorem up_d (σ : Nat → Nat) (k : Nat) : upS σ k (32 + k) = fulN σ k := by
  unfold upS
  rw [updN_ne (by omega), updN_eq]
theorem up_c (σ : Nat → Nat) (k : Nat) : upS σ k (40 + k) = 0 := updN_eq _ _ _
theorem lies_congr {σ σ' : Nat → Nat} (h2 : σ 2 ≤ 8) (h : ∀ j, j < 32 → σ' j = σ j) : liesN σ' = liesN σ := by
  unfold liesN
  rw [h 2 (by decide), h 3 (by decide)]
  exact sumB_congr (fun _ _ => rfl) (fun k hk _ => h (8 + k) (by omega))
theorem lies_dn {σ : Nat → Nat} {k : Nat} (h2 : σ 2 ≤ 8) (h3 : σ 3 < 4294967296) (hk : k < σ 2) (h : (σ 3).testBit k = true) : liesN (dnS σ k) + σ (8 + k) = liesN σ := by
  unfold liesN
  rw [dn_2, dn_3, ← sumB_clr (w := szN σ) h3 hk h, sumB_congr (f' := andn (σ 3) (2 ^ k)) (fun _ _ => rfl) (fun j hj _ => dn_fr (σ := σ) (k := k) (j := 8 + j) (by omega) (by omega))]
theorem lies_up {σ : Nat → Nat} {k : Nat} (h2 : σ 2 ≤ 8) (hk : k < σ 2) (h : (σ 3).testBit k = false) : liesN (upS σ k) = liesN σ + σ (8 + k) := by
  unfold liesN
  rw [up_2, up_3, ← sumB_set (w := szN σ) hk h, sumB_congr (f' := σ 3 ||| 2 ^ k) (fun _ _ => rfl) (fun j hj _ => up_fr (σ := σ) (k := k) (j := 8 + j) (by omega) (by omega) (by omega))]
theorem WFi_congr {σ σ' : Nat → Nat} (h : WFi σ) (hl : σ 2 ≤ 8) (e : ∀ j, j < 32 → j ≠ 3 → σ' j = σ j) : WFi σ' := by
  intro k hk
  rw [e 2 (by decide) (by decide)] at hk
  rw [e (8 + k) (by omega) (by omega), e (16 + k) (by omega) (by omega), e (24 + k) (by omega) (by omega)]
  exact h k hk
theorem andn_lt {a b n : Nat} (h : a < n) : andn a b < n := Nat.lt_of_le_of_lt (andn_le a b) h
theorem Wv_dn {σ : Nat → Nat} {k : Nat} (h : Wv σ) (hk : k < σ 2) (hb : (σ 3).testBit k = true) : Wv (dnS σ k) := by
  have h3 := Wv_3 h
  obtain ⟨a, b, c, d, e, f⟩ := h
  have hl := lies_dn a (by omega) hk hb
  refine ⟨by rw [dn_2]; exact a, by rw [dn_2, dn_3]; exact andn_lt b, by rw [dn_fr (by decide) (by omega)]; exact c, ?_, WFi_congr e a (fun j h1 h2 => dn_fr h2 (by omega)), ?_⟩
  · rw [dn_fr (j := 0) (by decide) (by omega)]
    omega
  · intro j hj
    rw [dn_3, tb_andn (by omega), tb_pow]
    by_cases q : j = k
    · subst q
      rw [dn_d]
      exact ⟨by omega, fun _ => rfl⟩
    · rw [dn_fr (by omega) (by omega)]
      have hf := f j hj
      refine ⟨hf.1, fun q2 => hf.2 ?_⟩
      simp [show ¬ k = j by omega] at q2
      exact q2
theorem ful_le {σ : Nat → Nat} {k : Nat} (h : WFi σ) (hk : k < σ 2) : fulN σ k ≤ 3600 := by
  have := h k hk
  unfold fulN
  exact Nat.le_trans (Nat.div_le_self _ _) (by omega)
theorem Wv_up {σ : Nat → Nat} {k : Nat} (h : Wv σ) (hk : k < σ 2) (hb : (σ 3).testBit k = false) (hr : liesN σ + σ (8 + k) ≤ σ 0) : Wv (upS σ k) := by
  obtain ⟨a, b, c, d, e, f⟩ := h
  have hl := lies_up a hk hb
  have hfu := ful_le e hk
  refine ⟨by rw [up_2]; exact a, by rw [up_2, up_3]; exact or_lt b (pw_lt hk), by rw [up_fr (by decide) (by omega) (by omega)]; exact c, ?_, WFi_congr e a (fun j h1 h2 => up_fr h2 (by omega) (by omega)), ?_⟩
  · rw [up_fr (j := 0) (by decide) (by omega) (by omega)]
    omega
  · intro j hj
    rw [up_3, Nat.testBit_or, tb_pow]
    by_cases q : j = k
    · subst q
      rw [up_d]
      exact ⟨hfu, fun q => by simp at q⟩
    · rw [up_fr (by omega) (by omega) (by omega)]
      have hf := f j hj
      refine ⟨hf.1, fun q2 => hf.2 ?_⟩
      simp [show ¬ k = j by omega] at q2
      exact q2
theorem Wv_snk {σ : Nat → Nat} {b : Nat} (h : Wv σ) : Wv (snkI σ b (σ 2)) := by
  obtain ⟨a, hb, c, d, e, f⟩ := h
  have fr : ∀ j, j < 32 → snkI σ b (σ 2) j = σ j := fun j hj => snkI_fr (by omega)
  refine ⟨by rw [fr 2 (by decide)]; exact a, by rw [fr 2 (by decide), fr 3 (by decide)]; exact hb, by rw [fr 0 (by decide)]; exact c, ?_, WFi_congr e a (fun j h1 _ => fr j h1), ?_⟩
  · rw [lies_congr a fr, fr 0 (by decide)]
    exact d
  · intro j hj
    rw [fr 3 (by decide)]
    have hf := f j hj
    by_cases q : j < σ 2
    · rw [snkI_in q]
      refine ⟨?_, fun q2 => ?_⟩
      · split <;> omega
      · rw [if_neg (by simp [q2])]
        exact hf.2 q2
    · rw [snkI_fr (by omega)]
      exact hf
theorem Wv_wst {s : WS} (h : Wv s.1) : Wv (wst s).1 := by
  unfold wst
  cases hp : poor s.1 (s.1 2) with
  | none => exact h
  | some p =>
    obtain ⟨h1, h2, h3⟩ := poor_some hp
    dsimp only
    split
    · exact Wv_dn h h1 h2
    · exact Wv_snk h
theorem Wv_wy {σ : Nat → Nat} (h : Wv σ) : ∀ i, Wv (wy σ i).1
  | 0 => h
  | i + 1 => Wv_wst (Wv_wy h i)
/-- what a turn leaves as it is -/
theorem wst_fr {s : WS} (h : Wv s.1) {j : Nat} (h3 : j ≠ 3) (h32 : j < 32 ∨ 40 ≤ j) : (wst s).1 j = s.1 j := by
  unfold wst
  cases hp : poor s.1 (s.1 2) with
  | none => rfl
  | some p =>
    obtain ⟨h1, h2, _⟩ := poor_some hp
    have := h.1
    dsimp only
    split
    · exact dn_fr h3 (by omega)
    · exact snkI_fr (by omega)
theorem wy_fr {σ : Nat → Nat} (h : Wv σ) {j : Nat} (h3 : j ≠ 3) (h32 : j < 32 ∨ 40 ≤ j) : ∀ i, (wy σ i).1 j = σ j
  | 0 => rfl
  | i + 1 => (wst_fr (Wv_wy h i) h3 h32).trans (wy_fr h h3 h32 i)
theorem wst_sub {s : WS} (h : Wv s.1) {k : Nat} (hb : (s.1 3).testBit k = false) : ((wst s).1 3).testBit k = false := by
  have h3 := Wv_3 h
  unfold wst
  cases hp : poor s.1 (s.1 2) with
  | none => exact hb
  | some p =>
    dsimp only
    split
    · rw [show (dnS s.1 p, s.2 ++ [(2, p, s.1 (8 + p))]).1 3 = andn (s.1 3) (2 ^ p) from dn_3 _ _, tb_andn (by omega), hb]
      rfl
    · rw [show (snkI s.1 (s.1 (32 + p)) (s.1 2), s.2).1 3 = s.1 3 from snkI_fr (by omega)]
      exact hb
theorem wy_sub {σ : Nat → Nat} (h : Wv σ) {k : Nat} (hb : (σ 3).testBit k = false) : ∀ i, ((wy σ i).1 3).testBit k = false
  | 0 => hb
  | i + 1 => wst_sub (Wv_wy h i) (wy_sub h hb i)
/-- how many turns -/
def psN (σ : Nat → Nat) : Nat := sumB (fun k => if σ (32 + k) = 0 then 0 else 1) (σ 3) (σ 2)
def muN (σ : Nat → Nat) : Nat := cntB (σ 3) (σ 2) + psN σ
theorem sumB_mono2 {w w' : Nat → Nat} {f : Nat} : ∀ {n : Nat}, (∀ k, k < n → f.testBit k = true → w' k ≤ w k) → sumB w' f n ≤ sumB w f n
  | 0, _ => Nat.le_refl _
  | n + 1, h => by
    rw [sumB_s, sumB_s]
    have h1 := sumB_mono2 (n := n) (fun k hk q => h k (by omega) q)
    by_cases q : f.testBit n = true
    · rw [if_pos q, if_pos q]
      have := h n (by omega) q
      omega
    · rw [if_neg q, if_neg q]
      omega
theorem sumB_lt {w w' : Nat → Nat} {f p : Nat} : ∀ {n : Nat}, p < n → f.testBit p = true → (∀ k, k < n → f.testBit k = true → w' k ≤ w k) → w' p < w p → sumB w' f n < sumB w f n
  | 0, h, _, _, _ => by omega
  | n + 1, h, hb, h1, h2 => by
    rw [sumB_s, sumB_s]
    by_cases e : p = n
    · subst e
      rw [if_pos hb, if_pos hb]
      have : sumB w' f p ≤ sumB w f p := sumB_mono2 (fun k hk q => h1 k (by omega) q)
      omega
    · have := sumB_lt (n := n) (by omega) hb (fun k hk q => h1 k (by omega) q) h2
      by_cases q : f.testBit n = true
      · rw [if_pos q, if_pos q]
        have := h1 n (by omega) q
        omega
      · rw [if_neg q, if_neg q]
        omega
theorem psN_le (σ : Nat → Nat) : psN σ ≤ σ 2 := by
  have := sumB_le (w := fun k => if σ (32 + k) = 0 then 0 else 1) (f := σ 3) (m := 1) (n := σ 2) (fun k _ => by split <;> omega)
  unfold psN
  omega
theorem muN_le {σ : Nat → Nat} (h : Wv σ) : muN σ ≤ 16 := by
  have h1 := cnt_le (σ 3) (σ 2)
  have h2 := psN_le σ
  have := h.1
  unfold muN
  omega
theorem cnt_pos {f k n : Nat} (hk : k < n) (h : f.testBit k = true) : 0 < cntB f n := sumB_ge (w := fun _ => 1) hk h
theorem lies_0 {σ : Nat → Nat} (h : poor σ (σ 2) = none) : liesN σ = 0 := by
  have h0 := poor_none h
  unfold liesN
  rw [sumB_congr (f' := 0) (w' := szN σ) (fun k hk => by rw [h0 k hk]; simp) (fun _ _ _ => rfl), sumB_0]
theorem mu_wst {s : WS} (h : Wv s.1) (hp : poor s.1 (s.1 2) ≠ none) : muN (wst s).1 < muN s.1 := by
  have h3 := Wv_3 h
  unfold wst
  cases hq : poor s.1 (s.1 2) with
  | none => exact absurd hq hp
  | some p =>
    obtain ⟨h1, h2, hm⟩ := poor_some hq
    have hl := h.1
    dsimp only
    split
    · rename_i z
      show cntB (dnS s.1 p 3) (dnS s.1 p 2) + psN (dnS s.1 p) < _
      have hc := cnt_clr (f := s.1 3) (by omega) h1 h2
      have hs : psN (dnS s.1 p) = psN s.1 := by
        have := sumB_clr (w := fun k => if s.1 (32 + k) = 0 then 0 else 1) (f := s.1 3) (by omega) h1 h2
        unfold psN
        rw [dn_2, dn_3, ← this]
        rw [if_pos z, Nat.add_zero]
        refine sumB_congr (fun _ _ => rfl) (fun k hk hb => ?_)
        rw [tb_andn (by omega), tb_pow] at hb
        have : p ≠ k := by
          intro e
          subst e
          simp at hb
        rw [dn_fr (by omega) (by omega)]
      rw [dn_2, dn_3, hs]
      unfold muN
      omega
    · rename_i z
      have fr : ∀ j, j < 32 → snkI s.1 (s.1 (32 + p)) (s.1 2) j = s.1 j := fun j hj => snkI_fr (by omega)
      show cntB (snkI s.1 (s.1 (32 + p)) (s.1 2) 3) (snkI s.1 (s.1 (32 + p)) (s.1 2) 2) + psN (snkI s.1 (s.1 (32 + p)) (s.1 2)) < _
      have hs : psN (snkI s.1 (s.1 (32 + p)) (s.1 2)) < psN s.1 := by
        unfold psN
        rw [fr 2 (by decide), fr 3 (by decide)]
        refine sumB_lt h1 h2 (fun k hk hb => ?_) ?_
        · rw [snkI_in hk, if_pos hb]
          by_cases q : s.1 (32 + k) = 0
          · rw [if_pos q, if_pos (by omega)]
            exact Nat.le_refl _
          · rw [if_neg q]
            split <;> omega
        · rw [snkI_in h1, if_pos h2, Nat.sub_self, if_pos rfl, if_neg z]
          decide
      rw [fr 2 (by decide), fr 3 (by decide)]
      unfold muN
      omega
/-- the turn at which there is room -/
def stp (σ : Nat → Nat) (need m : Nat) : Prop := need + liesN (wy σ m).1 ≤ σ 0
theorem way_ends {σ : Nat → Nat} {need : Nat} (h : Wv σ) (hn : need ≤ σ 0) : ∃ m, m ≤ 16 ∧ stp σ need m ∧ ∀ i, i < m → ¬ stp σ need i := by
  have key : ∀ i, (∃ m, m ≤ i ∧ stp σ need m) ∨ muN (wy σ i).1 + i ≤ 16 := by
    intro i
    induction i with
    | zero => exact Or.inr (muN_le h)
    | succ i ih =>
      rcases ih with ⟨m, h1, h2⟩ | ih
      · exact Or.inl ⟨m, by omega, h2⟩
      · by_cases q : poor (wy σ i).1 ((wy σ i).1 2) = none
        · refine Or.inl ⟨i, by omega, ?_⟩
          unfold stp
          rw [lies_0 q]
          omega
        · have := mu_wst (s := wy σ i) (Wv_wy h i) q
          exact Or.inr (by show muN (wst (wy σ i)).1 + (i + 1) ≤ 16; omega)
  have hex : ∃ m, stp σ need m := by
    rcases key 17 with ⟨m, _, h2⟩ | h2
    · exact ⟨m, h2⟩
    · omega
  obtain ⟨m, hm, hl⟩ := pk_least _ hex
  refine ⟨m, ?_, hm, hl⟩
  rcases key 16 with ⟨m', h1, h2⟩ | h2
  · have : ¬ m' < m := fun q => hl m' q h2
    omega
  · -- sixteen turns: the measure is 0, nothing lies there
    have h0 : muN (wy σ 16).1 = 0 := by omega
    have : stp σ need 16 := by
      unfold stp
      have hc : cntB ((wy σ 16).1 3) ((wy σ 16).1 2) = 0 := by
        unfold muN at h0
        omega
      have h00 := cnt_0 hc
      have : liesN (wy σ 16).1 = 0 := by
        unfold liesN
        rw [sumB_congr (f' := 0) (w' := szN (wy σ 16).1) (fun k hk => by rw [h00 k hk]; simp) (fun _ _ _ => rfl), sumB_0]
      rw [this]
      omega
    have : ¬ 16 < m := fun q => hl 16 q this
    omega
/-- below it some lies there -/
theorem way_some {σ : Nat → Nat} {need i : Nat} (h : Wv σ) (hn : need ≤ σ 0) (hs : ¬ stp σ need i) : ∃ p, poor (wy σ i).1 ((wy σ i).1 2) = some p := by
  cases q : poor (wy σ i).1 ((wy σ i).1 2) with
  | none =>
    exfalso
    apply hs
    unfold stp
    rw [lies_0 q]
    omega
  | some p => exact ⟨p, rfl⟩
theorem wy_len {σ : Nat → Nat} (h : Wv σ) : ∀ i, (wy σ i).2.length + cntB ((wy σ i).1 3) ((wy σ i).1 2) = cntB (σ 3) (σ 2)
  | 0 => by show 0 + _ = _; rw [Nat.zero_add]; rfl
  | i + 1 => by
    have ih := wy_len h i
    have hv := Wv_wy h i
    have h3 := Wv_3 hv
    show (wst (wy σ i)).2.length + cntB ((wst (wy σ i)).1 3) ((wst (wy σ i)).1 2) = _
    unfold wst
    cases hq : poor (wy σ i).1 ((wy σ i).1 2) with
    | none => exact ih
    | some p =>
      obtain ⟨h1, h2, hm⟩ := poor_some hq
      dsimp only
      split
      · have hc := cnt_clr (f := (wy σ i).1 3) (by omega) h1 h2
        show ((wy σ i).2 ++ [(2, p, (wy σ i).1 (8 + p))]).length + cntB (dnS (wy σ i).1 p 3) (dnS (wy σ i).1 p 2) = _
        rw [dn_2, dn_3, List.length_append]
        simp only [List.length_cons, List.length_nil]
        omega
      · show (wy σ i).2.length + cntB (snkI (wy σ i).1 _ ((wy σ i).1 2) 3) (snkI (wy σ i).1 _ ((wy σ i).1 2) 2) = _
        have := hv.1
        rw [snkI_fr (j := 2) (by omega), snkI_fr (j := 3) (by omega)]
        exact ih
