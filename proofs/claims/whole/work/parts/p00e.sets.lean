/-! ===== sets as bits, sums over sets ===== -/
def andn (a b : Nat) : Nat := a &&& (b ^^^ 4294967295)
theorem q_andn (a b : Nat) : nI a &&& (nI b ^^^ (-1 : Int32)) = nI (andn a b) := by
  rw [q_m1, q_xor, q_and]
  rfl
theorem q_andn' (a b : Nat) : nI a &&& (nI b ^^^ (-nI 1)) = nI (andn a b) := q_andn a b
theorem tb_big {a n j : Nat} (h : a < 2 ^ n) (hj : n ≤ j) : a.testBit j = false := Nat.testBit_lt_two_pow (Nat.lt_of_lt_of_le h (Nat.pow_le_pow_right (by decide) hj))
theorem tb_andn {a b : Nat} (ha : a < 4294967296) (j : Nat) : (andn a b).testBit j = (a.testBit j && !b.testBit j) := by
  unfold andn
  rw [Nat.testBit_and, Nat.testBit_xor]
  by_cases hj : j < 32
  · rw [show (4294967295 : Nat) = 2 ^ 32 - 1 from rfl, Nat.testBit_two_pow_sub_one]
    simp [hj]
  · rw [tb_big (n := 32) (by omega) (by omega)]
    simp
theorem andn_le (a b : Nat) : andn a b ≤ a := Nat.and_le_left
theorem lt_of_tb {a n : Nat} (h : ∀ j, n ≤ j → a.testBit j = false) : a < 2 ^ n := by
  refine Nat.lt_pow_two_of_testBit a (fun i hi => h i hi)
theorem tb_ext {a b : Nat} (h : ∀ j, a.testBit j = b.testBit j) : a = b := Nat.eq_of_testBit_eq h
theorem tb_pow (k j : Nat) : (2 ^ k).testBit j = decide (k = j) := Nat.testBit_two_pow
theorem or_lt {a b n : Nat} (ha : a < 2 ^ n) (hb : b < 2 ^ n) : a ||| b < 2 ^ n := Nat.or_lt_two_pow ha hb
theorem xor_lt {a b n : Nat} (ha : a < 2 ^ n) (hb : b < 2 ^ n) : a ^^^ b < 2 ^ n := Nat.xor_lt_two_pow ha hb
theorem pw_le {a b : Nat} (h : a ≤ b) : 2 ^ a ≤ 2 ^ b := Nat.pow_le_pow_right (by decide) h
theorem pw_lt {a b : Nat} (h : a < b) : 2 ^ a < 2 ^ b := Nat.pow_lt_pow_right (by decide) h
theorem pw8 {n : Nat} (h : n ≤ 8) : 2 ^ n ≤ 256 := pw_le (b := 8) h
theorem ne0_of_tb {a j : Nat} (h : a.testBit j = true) : a ≠ 0 := by
  intro e
  subst e
  simp at h
theorem tb_le {a j : Nat} (h : a.testBit j = true) : 2 ^ j ≤ a := Nat.ge_two_pow_of_testBit h
/-- the sum of w over the set f, ITEMS below n -/
def sumB (w : Nat → Nat) (f : Nat) : Nat → Nat
  | 0 => 0
  | n + 1 => sumB w f n + (if f.testBit n then w n else 0)
theorem sumB_congr {w w' : Nat → Nat} {f f' : Nat} : ∀ {n : Nat}, (∀ k, k < n → f.testBit k = f'.testBit k) → (∀ k, k < n → f.testBit k = true → w k = w' k) → sumB w f n = sumB w' f' n
  | 0, _, _ => rfl
  | n + 1, h, h2 => by
    show sumB w f n + _ = sumB w' f' n + _
    rw [sumB_congr (n := n) (fun k hk => h k (by omega)) (fun k hk => h2 k (by omega)), ← h n (by omega)]
    by_cases q : f.testBit n = true
    · rw [if_pos q, if_pos q, h2 n (by omega) q]
    · rw [if_neg q, if_neg q]
theorem sumB_mono {w : Nat → Nat} {f f' : Nat} : ∀ {n : Nat}, (∀ k, k < n → f.testBit k = true → f'.testBit k = true) → sumB w f n ≤ sumB w f' n
  | 0, _ => Nat.le_refl _
  | n + 1, h => by
    show sumB w f n + _ ≤ sumB w f' n + _
    have h1 := sumB_mono (w := w) (n := n) (fun k hk => h k (by omega))
    by_cases q : f.testBit n = true
    · rw [if_pos q, if_pos (h n (by omega) q)]; omega
    · rw [if_neg q]; omega
theorem sumB_le {w : Nat → Nat} {f m : Nat} : ∀ {n : Nat}, (∀ k, k < n → w k ≤ m) → sumB w f n ≤ m * n
  | 0, _ => Nat.zero_le _
  | n + 1, h => by
    show sumB w f n + _ ≤ m * (n + 1)
    have h1 := sumB_le (w := w) (f := f) (m := m) (n := n) (fun k hk => h k (by omega))
    have h2 := h n (by omega)
    rw [Nat.mul_add, Nat.mul_one]
    by_cases q : f.testBit n = true
    · rw [if_pos q]; omega
    · rw [if_neg q]; omega
/-- two sets that have nothing in common -/
theorem sumB_add {w : Nat → Nat} {f g h : Nat} : ∀ {n : Nat}, (∀ k, k < n → h.testBit k = (f.testBit k || g.testBit k)) → (∀ k, k < n → (f.testBit k && g.testBit k) = false) → sumB w h n = sumB w f n + sumB w g n
  | 0, _, _ => rfl
  | n + 1, h1, h2 => by
    show sumB w h n + _ = (sumB w f n + _) + (sumB w g n + _)
    rw [sumB_add (w := w) (n := n) (fun k hk => h1 k (by omega)) (fun k hk => h2 k (by omega))]
    have a := h1 n (by omega)
    have b := h2 n (by omega)
    cases hf : f.testBit n <;> cases hg : g.testBit n <;> simp_all <;> omega
theorem sumB_single {w : Nat → Nat} {k : Nat} : ∀ {n : Nat}, k < n → sumB w (2 ^ k) n = w k := by
  have z : ∀ n, n ≤ k → sumB w (2 ^ k) n = 0 := by
    intro n
    induction n with
    | zero => intro _; rfl
    | succ n ih =>
      intro h
      show sumB w (2 ^ k) n + _ = 0
      rw [ih (by omega), tb_pow]
      simp
      omega
  intro n
  induction n with
  | zero => intro h; omega
  | succ n ih =>
    intro h
    show sumB w (2 ^ k) n + _ = w k
    rw [tb_pow]
    by_cases e : k = n
    · subst e
      rw [z k (Nat.le_refl _)]
      simp
    · rw [ih (by omega)]
      simp [e]
theorem sumB_0 {w : Nat → Nat} : ∀ {n : Nat}, sumB w 0 n = 0
  | 0 => rfl
  | n + 1 => by
    show sumB w 0 n + _ = 0
    rw [sumB_0 (n := n)]
    simp
/-- an ITEM goes, an ITEM comes -/
theorem sumB_clr {w : Nat → Nat} {f k n : Nat} (hf : f < 4294967296) (hk : k < n) (h : f.testBit k = true) : sumB w (andn f (2 ^ k)) n + w k = sumB w f n := by
  rw [← sumB_single (w := w) hk]
  refine (sumB_add (fun j _ => ?_) (fun j _ => ?_)).symm
  · rw [tb_andn hf, tb_pow]
    by_cases e : k = j
    · subst e; simp [h]
    · simp [e]
  · rw [tb_andn hf, tb_pow]
    by_cases e : k = j
    · subst e; simp
    · simp [e]
theorem sumB_set {w : Nat → Nat} {f k n : Nat} (hk : k < n) (h : f.testBit k = false) : sumB w (f ||| 2 ^ k) n = sumB w f n + w k := by
  rw [← sumB_single (w := w) hk]
  refine sumB_add (fun j _ => ?_) (fun j _ => ?_)
  · rw [Nat.testBit_or]
  · rw [tb_pow]
    by_cases e : k = j
    · subst e; simp [h]
    · simp [e]
theorem sumB_ge {w : Nat → Nat} {f k : Nat} : ∀ {n : Nat}, k < n → f.testBit k = true → w k ≤ sumB w f n
  | 0, h, _ => by omega
  | n + 1, h, q => by
    show w k ≤ sumB w f n + _
    by_cases e : k = n
    · subst e; rw [if_pos q]; omega
    · have := sumB_ge (w := w) (n := n) (by omega) q
      omega
/-- how many -/
def cntB (f n : Nat) : Nat := sumB (fun _ => 1) f n
theorem cnt_clr {f k n : Nat} (hf : f < 4294967296) (hk : k < n) (h : f.testBit k = true) : cntB (andn f (2 ^ k)) n + 1 = cntB f n := sumB_clr (w := fun _ => 1) hf hk h
theorem cnt_le (f n : Nat) : cntB f n ≤ n := by
  have := sumB_le (w := fun _ => 1) (f := f) (m := 1) (n := n) (fun _ _ => Nat.le_refl _)
  unfold cntB
  omega
theorem cnt_0 {f : Nat} : ∀ {n : Nat}, cntB f n = 0 → ∀ k, k < n → f.testBit k = false
  | 0, _, k, hk => by omega
  | n + 1, h, k, hk => by
    have e : cntB f (n + 1) = cntB f n + (if f.testBit n then 1 else 0) := rfl
    rw [e] at h
    by_cases q : f.testBit n = true
    · rw [if_pos q] at h; omega
    · by_cases e2 : k = n
      · subst e2; simpa using q
      · exact cnt_0 (n := n) (by omega) k (by omega)
