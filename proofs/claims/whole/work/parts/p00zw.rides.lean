/-! ===== rides: what is asked ===== -/
def Sb (s l : Nat) : Prop := ∀ j, s.testBit j = true → l.testBit j = true
theorem sb_and {s l : Nat} (h : Sb s l) : s &&& l = s := by
  refine tb_ext fun j => ?_
  rw [Nat.testBit_and]
  cases q : s.testBit j
  · rfl
  · rw [h j q]; rfl
theorem sb_half {s l : Nat} (h : Sb s l) : Sb (s / 2) (l / 2) := fun j q => by
  have := h (j + 1)
  rw [Nat.testBit_succ, Nat.testBit_succ] at this
  exact this q
theorem sb_low {s l : Nat} (h : Sb s l) (q : s % 2 = 1) : l % 2 = 1 := by
  have := h 0
  rw [Nat.testBit_zero, Nat.testBit_zero] at this
  exact of_decide_eq_true (this (decide_eq_true q))
theorem sub_pred : ∀ (n s l t : Nat), s ≤ n → Sb s l → Sb t l → t < s → t ≤ (s - 1) &&& l := by
  intro n
  induction n with
  | zero => intro s l t h _ _ q; omega
  | succ n ih =>
    intro s l t h hs ht q
    have h2 : ((s - 1) &&& l) / 2 = (s - 1) / 2 &&& l / 2 := Nat.and_div_two
    by_cases o : s % 2 = 1
    · rw [show (s - 1) / 2 = s / 2 by omega, sb_and (sb_half hs)] at h2
      omega
    · rw [show (s - 1) / 2 = s / 2 - 1 by omega] at h2
      have h3 := ih (s / 2) (l / 2) (t / 2) (by omega) (sb_half hs) (sb_half ht) (by omega)
      by_cases o2 : t % 2 = 1
      · have h4 : ((s - 1) &&& l) % 2 = 1 := Nat.and_mod_two_eq_one.mpr ⟨by omega, sb_low ht o2⟩
        omega
      · omega
theorem sb_andn {s l : Nat} (hs : s < 4294967296) : andn s l = 0 ↔ Sb s l := by
  refine ⟨fun h j q => ?_, fun h => tb_ext fun j => ?_⟩
  · have := tb_andn (b := l) hs j
    rw [h, q, Nat.zero_testBit] at this
    cases z : l.testBit j
    · rw [z] at this; exact absurd this (by decide)
    · rfl
  · rw [tb_andn hs, Nat.zero_testBit]
    cases q : s.testBit j
    · rfl
    · rw [h j q]; rfl
theorem sb_xor {s l : Nat} (hl : l < 4294967296) (h : Sb s l) : l ^^^ s = andn l s := by
  refine tb_ext fun j => ?_
  rw [tb_andn hl, Nat.testBit_xor]
  cases q : s.testBit j
  · simp
  · rw [h j q]; rfl
theorem tb_ne0 {s : Nat} (h : s ≠ 0) : ∃ j, s.testBit j = true := by
  refine Classical.byContradiction fun q => h (tb_ext fun j => ?_)
  rw [Nat.zero_testBit]
  cases z : s.testBit j
  · rfl
  · exact absurd ⟨j, z⟩ q
theorem sb_lt {s l : Nat} (hl : l < 4294967296) (h : Sb s l) (h0 : s ≠ 0) : l ^^^ s < l := by
  have h1 : l ^^^ s ≤ l := by rw [sb_xor hl h]; exact andn_le _ _
  obtain ⟨j, hj⟩ := tb_ne0 h0
  have h2 : l ^^^ s ≠ l := fun e => by
    have := congrArg (fun x => x.testBit j) e
    simp only [Nat.testBit_xor, hj, h j hj] at this
    exact absurd this (by decide)
  omega
def szS (σ : Nat → Nat) (s : Nat) : Nat := sumB (szN σ) s (σ 2)
def goP (σ : Nat → Nat) (T L l s : Nat) : Prop := s ≠ 0 ∧ Sb s l ∧ szS σ s ≤ L ∧ szS σ (T ^^^ l ^^^ s) ≤ σ 0
def Lg (σ : Nat → Nat) (T A l : Nat) : Prop := Sb l A ∧ szS σ (T ^^^ l) ≤ σ 0
def Rd (σ : Nat → Nat) (T A L : Nat) : Prop := σ 2 ≤ 8 ∧ T < 2 ^ σ 2 ∧ A < 2 ^ σ 2 ∧ szS σ T ≤ σ 0 ∧ ∀ k, k < σ 2 → A.testBit k = true → szN σ k ≤ L
theorem sb_le {s l : Nat} (h : Sb s l) : s ≤ l := by
  rw [← sb_and h]
  exact Nat.and_le_right
theorem sb_tr {a b c : Nat} (h : Sb a b) (g : Sb b c) : Sb a c := fun j q => g j (h j q)
theorem sb_x {s l : Nat} (hl : l < 4294967296) (h : Sb s l) : Sb (l ^^^ s) l := fun j q => by
  rw [sb_xor hl h, tb_andn hl] at q
  cases z : l.testBit j
  · rw [z] at q; exact q
  · rfl
theorem Rd_A {σ : Nat → Nat} {T A L : Nat} (h : Rd σ T A L) : A < 256 := Nat.lt_of_lt_of_le h.2.2.1 (pw8 h.1)
theorem Rd_T {σ : Nat → Nat} {T A L : Nat} (h : Rd σ T A L) : T < 256 := Nat.lt_of_lt_of_le h.2.1 (pw8 h.1)
theorem go_lg {σ : Nat → Nat} {T A L l s : Nat} (hR : Rd σ T A L) (hl : Lg σ T A l) (hg : goP σ T L l s) : Lg σ T A (l ^^^ s) ∧ l ^^^ s < l := by
  have hA := Rd_A hR
  have := sb_le hl.1
  refine ⟨⟨sb_tr (sb_x (by omega) hg.2.1) hl.1, ?_⟩, sb_lt (by omega) hg.2.1 hg.1⟩
  rw [← Nat.xor_assoc]
  exact hg.2.2.2
theorem go_one {σ : Nat → Nat} {T A L l : Nat} (hR : Rd σ T A L) (hl : Lg σ T A l) (h0 : l ≠ 0) : ∃ k, k < σ 2 ∧ l.testBit k = true ∧ goP σ T L l (2 ^ k) := by
  have hA := Rd_A hR
  have hT := Rd_T hR
  have hle := sb_le hl.1
  have hb : ∀ k, l.testBit k = true → k < σ 2 := fun k q => by
    have z := hl.1 k q
    refine Classical.byContradiction fun y => ?_
    rw [tb_big hR.2.2.1 (by omega)] at z
    exact absurd z (by decide)
  have hp : ∀ k, l.testBit k = true → Sb (2 ^ k) l ∧ (2 : Nat) ^ k ≠ 0 ∧ szS σ (2 ^ k) ≤ L := fun k q => by
    refine ⟨fun j y => ?_, Nat.pos_iff_ne_zero.mp (Nat.two_pow_pos k), ?_⟩
    · rw [tb_pow] at y
      have := of_decide_eq_true y
      subst this
      exact q
    · unfold szS
      rw [sumB_single (hb k q)]
      exact hR.2.2.2.2 k (hb k q) (hl.1 k q)
  by_cases q : ∃ k, l.testBit k = true ∧ (T ^^^ l).testBit k = true
  · obtain ⟨k, q1, q2⟩ := q
    obtain ⟨a, b, c⟩ := hp k q1
    refine ⟨k, hb k q1, q1, b, a, c, ?_⟩
    refine Nat.le_trans (sumB_mono fun j _ y => ?_) hl.2
    rw [Nat.testBit_xor, tb_pow] at y
    by_cases e : k = j
    · subst e; exact q2
    · simpa [e] using y
  · obtain ⟨k, q1⟩ := tb_ne0 h0
    obtain ⟨a, b, c⟩ := hp k q1
    refine ⟨k, hb k q1, q1, b, a, c, ?_⟩
    refine Nat.le_trans (sumB_mono fun j _ y => ?_) hR.2.2.2.1
    have hn : ∀ j, l.testBit j = true → T.testBit j = true := fun j y => by
      refine Classical.byContradiction fun z => q ⟨j, y, ?_⟩
      rw [Nat.testBit_xor, y]
      simpa using z
    rw [Nat.testBit_xor, Nat.testBit_xor, tb_pow] at y
    by_cases e : k = j
    · subst e; exact hn _ q1
    · cases z : l.testBit j
      · simpa [e, z] using y
      · exact hn j z
/-- how few are needed -/
def NdAt (σ : Nat → Nat) (T A L : Nat) (D : Nat → Nat) (l : Nat) : Prop := Lg σ T A l → (l = 0 → D l = 0) ∧ (l ≠ 0 → (∃ s, goP σ T L l s ∧ D l = D (l ^^^ s) + 1) ∧ ∀ s, goP σ T L l s → D l ≤ D (l ^^^ s) + 1)
theorem nd_cg {σ : Nat → Nat} {T A L l : Nat} {D E : Nat → Nat} (hR : Rd σ T A L) (h : NdAt σ T A L D l) (e : ∀ x, x ≤ l → Sb x A → D x = E x) : NdAt σ T A L E l := by
  intro hl
  obtain ⟨a, b⟩ := h hl
  have el := e l (Nat.le_refl _) hl.1
  refine ⟨fun q => by rw [← el]; exact a q, fun q => ?_⟩
  obtain ⟨⟨s, c, d⟩, f⟩ := b q
  refine ⟨⟨s, c, ?_⟩, fun t ht => ?_⟩
  · have := go_lg hR hl c
    rw [← el, ← e _ (by omega) this.1.1, d]
  · have := go_lg hR hl ht
    rw [← el, ← e _ (by omega) this.1.1]
    exact f t ht
theorem nd_uni {σ : Nat → Nat} {T A L : Nat} {D E : Nat → Nat} (hR : Rd σ T A L) (hD : ∀ l, l ≤ A → NdAt σ T A L D l) (hE : ∀ l, l ≤ A → NdAt σ T A L E l) : ∀ n l, l ≤ n → Lg σ T A l → D l = E l := by
  intro n
  induction n with
  | zero =>
    intro l h hl
    have h0 : l = 0 := by omega
    rw [(hD l (by omega) hl).1 h0, (hE l (by omega) hl).1 h0]
  | succ n ih =>
    intro l h hl
    have hA := sb_le hl.1
    by_cases h0 : l = 0
    · rw [(hD l hA hl).1 h0, (hE l hA hl).1 h0]
    · obtain ⟨⟨s, a, b⟩, c⟩ := (hD l hA hl).2 h0
      obtain ⟨⟨t, a', b'⟩, c'⟩ := (hE l hA hl).2 h0
      have g1 := go_lg hR hl a
      have g2 := go_lg hR hl a'
      have x1 := ih _ (by omega) g1.1
      have x2 := ih _ (by omega) g2.1
      have y1 := c' s a
      have y2 := c t a'
      omega
theorem nd_le {σ : Nat → Nat} {T A L : Nat} {D : Nat → Nat} (hR : Rd σ T A L) (hD : ∀ l, l ≤ A → NdAt σ T A L D l) : ∀ n l, l ≤ n → Lg σ T A l → D l ≤ cntB l (σ 2) := by
  intro n
  induction n with
  | zero =>
    intro l h hl
    have h0 : l = 0 := by omega
    rw [(hD l (by omega) hl).1 h0]
    exact Nat.zero_le _
  | succ n ih =>
    intro l h hl
    have hA := sb_le hl.1
    have h256 := Rd_A hR
    by_cases h0 : l = 0
    · rw [(hD l hA hl).1 h0]
      exact Nat.zero_le _
    · obtain ⟨k, k1, k2, k3⟩ := go_one hR hl h0
      have g1 := go_lg hR hl k3
      have x1 := ih _ (by omega) g1.1
      have y1 := ((hD l hA hl).2 h0).2 _ k3
      have z := cnt_clr (f := l) (by omega) k1 k2
      rw [← sb_xor (by omega) k3.2.1] at z
      omega
/-- the first that goes -/
def FG (σ : Nat → Nat) (T L : Nat) (D : Nat → Nat) (l s : Nat) : Prop := (goP σ T L l s ∧ D (l ^^^ s) + 1 = D l) ∧ ∀ t, t < s → ¬ (goP σ T L l t ∧ D (l ^^^ t) + 1 = D l)
theorem fg_uni {σ : Nat → Nat} {T A L l s t : Nat} {D E : Nat → Nat} (hR : Rd σ T A L) (hl : Lg σ T A l) (e : ∀ l, Lg σ T A l → D l = E l) (h : FG σ T L D l s) (g : FG σ T L E l t) : s = t := by
  have el := e l hl
  have c1 : goP σ T L l s ∧ E (l ^^^ s) + 1 = E l := ⟨h.1.1, by rw [← e _ (go_lg hR hl h.1.1).1, ← el]; exact h.1.2⟩
  have c2 : goP σ T L l t ∧ D (l ^^^ t) + 1 = D l := ⟨g.1.1, by rw [e _ (go_lg hR hl g.1.1).1, el]; exact g.1.2⟩
  have x : ¬ t < s := fun q => h.2 t q c2
  have y : ¬ s < t := fun q => g.2 s q c1
  omega
def lfN (A : Nat) (g : Nat → Nat) : Nat → Nat
  | 0 => A
  | i + 1 => lfN A g i ^^^ g i
theorem lfN_cg {A : Nat} {g h : Nat → Nat} : ∀ {i : Nat}, (∀ j, j < i → g j = h j) → lfN A g i = lfN A h i
  | 0, _ => rfl
  | i + 1, e => by
    show lfN A g i ^^^ g i = lfN A h i ^^^ h i
    rw [lfN_cg (i := i) (fun j hj => e j (by omega)), e i (by omega)]
/-- the rides of a way -/
def ChR (σ : Nat → Nat) (T A L : Nat) (D g : Nat → Nat) (i : Nat) : Prop := D (lfN A g i) + i = D A ∧ Lg σ T A (lfN A g i) ∧ ∀ j, j < i → Lg σ T A (lfN A g j) ∧ FG σ T L D (lfN A g j) (g j)
theorem ch_uni {σ : Nat → Nat} {T A L : Nat} {D E g h : Nat → Nat} (hR : Rd σ T A L) (e : ∀ l, Lg σ T A l → D l = E l) : ∀ {i : Nat}, ChR σ T A L D g i → ChR σ T A L E h i → ∀ j, j < i → g j = h j := by
  intro i hg hh j
  induction j using Nat.strongRecOn with
  | _ j ih =>
    intro hj
    have el : lfN A g j = lfN A h j := lfN_cg fun x hx => ih x hx (by omega)
    obtain ⟨a, b⟩ := hg.2.2 j hj
    obtain ⟨a', b'⟩ := hh.2.2 j hj
    rw [← el] at b'
    exact fg_uni hR a e b b'
