/-! ===== what class and model have in common ===== -/
/-- a row of the model, by numbers -/
def MR (f : Fn) (σ : Nat → Nat) : Prop := ∀ j, j < 835 → f j = nI (σ j)
theorem MR_upd {f : Fn} {σ : Nat → Nat} {k v : Nat} (h : MR f σ) : MR (upd f k (nI v)) (updN σ k v) := by
  intro j hj
  by_cases e : j = k
  · subst e
    rw [upd_eq, updN_eq]
  · rw [upd_ne e, updN_ne e, h j hj]
theorem MR_any (f : Fn) : ∃ σ, MR f σ := by
  refine ⟨fun j => (f j).toBitVec.toNat, fun j _ => ?_⟩
  apply Int32.toBitVec_inj.mp
  show (f j).toBitVec = BitVec.ofNat 32 (f j).toBitVec.toNat
  simp
abbrev szN (σ : Nat → Nat) : Nat → Nat := fun k => σ (8 + k)
abbrev prN (σ : Nat → Nat) : Nat → Nat := fun k => σ (16 + k)
abbrev liesN (σ : Nat → Nat) : Nat := sumB (szN σ) (σ 3) (σ 2)
def WFa (σ : Nat → Nat) : Prop := (1 ≤ σ 0 ∧ σ 0 ≤ 20) ∧ σ 1 ≤ 2 ∧ σ 2 ≤ 8 ∧ σ 3 < 2 ^ σ 2 ∧ σ 7 ≤ 40 ∧ liesN σ ≤ σ 0
def WFi (σ : Nat → Nat) : Prop := ∀ k, k < σ 2 → (1 ≤ σ (8 + k) ∧ σ (8 + k) ≤ 6) ∧ (1 ≤ σ (16 + k) ∧ σ (16 + k) ≤ 60) ∧ (1 ≤ σ (24 + k) ∧ σ (24 + k) ≤ 20)
def WFd (σ : Nat → Nat) : Prop := ∀ k, k < 8 → σ (32 + k) ≤ 3600 ∧ ((σ 3).testBit k = false → σ (32 + k) = 0)
/-- a letter of a NAME, in five bits -/
def l5 (c : Nat) : Nat := if c = 0 then 0 else c - 96
def packN (σ : Nat → Nat) (k : Nat) : Nat := l5 (σ (56 + 6 * k)) + 32 * (l5 (σ (56 + 6 * k + 1)) + 32 * (l5 (σ (56 + 6 * k + 2)) + 32 * (l5 (σ (56 + 6 * k + 3)) + 32 * (l5 (σ (56 + 6 * k + 4)) + 32 * l5 (σ (56 + 6 * k + 5))))))
def WFn (σ : Nat → Nat) : Prop := ∀ k, k < σ 2 → (97 ≤ σ (56 + 6 * k) ∧ σ (56 + 6 * k) ≤ 122) ∧ ∀ i, i < 6 → σ (56 + 6 * k + i) = 0 ∨ (97 ≤ σ (56 + 6 * k + i) ∧ σ (56 + 6 * k + i) ≤ 122)
def WFl (σ : Nat → Nat) : Prop := ∀ i, i < σ 7 → σ (104 + i) < σ 2 ∧ σ (144 + i) ≤ 80 ∧ σ (184 + i) < 2 ^ σ 2 ∧ ∀ x, x < 8 → σ (224 + 8 * i + x) ≤ 3600 ∧ ((σ (184 + i)).testBit x = false → σ (224 + 8 * i + x) = 0)
def RCs (o : Ob) (σ : Nat → Nat) : Prop := o 4 0 = nI (σ 4) ∧ o 5 0 = nI (σ 5) ∧ o 6 0 = nI (σ 6)
def RCw (o : Ob) (σ : Nat → Nat) : Prop := o 0 0 = nI (σ 2) ∧ ∀ k, k < σ 2 → o 1 k = nI (σ (8 + k)) ∧ o 2 k = nI (σ (16 + k)) ∧ o 3 k = nI (σ (24 + k)) ∧ o 4 k = nI (packN σ k)
def RCh (o : Ob) (σ : Nat → Nat) : Prop := o 0 0 = nI (σ 0) ∧ o 1 0 = nI (σ 1) ∧ o 2 0 = nI (σ 3) ∧ o 3 0 = nI (liesN σ) ∧ ∀ k, k < 8 → o 4 k = nI (σ (32 + k)) ∧ o 6 k = nI (σ (48 + k)) ∧ (k < σ 2 → o 5 k = nI (σ (40 + k)))
def RCl (o : Ob) (σ : Nat → Nat) : Prop := o 0 0 = nI (σ 7) ∧ ∀ i, i < σ 7 → o 1 i = nI (σ (104 + i)) ∧ o 2 i = nI (σ (144 + i)) ∧ o 3 i = nI (σ (184 + i)) ∧ ∀ x, x < 8 → o 4 (8 * i + x) = nI (σ (224 + 8 * i + x))
/-- a BOOK: closed, or opened -/
def RCb (o : Ob) (σ : Nat → Nat) (b : Nat) : Prop := (σ (544 + 7 * b) = 0 ∧ o 0 0 = nI 0 ∧ o 3 0 = nI 0) ∨ (σ (544 + 7 * b) = 1 ∧ o 0 0 = nI 1 ∧ σ (544 + 7 * b + 1) ≤ 3 ∧ σ (544 + 7 * b + 2) ≤ 30 ∧ σ (544 + 7 * b + 3) ≤ σ (544 + 7 * b + 2) ∧ o 1 0 = nI (σ (544 + 7 * b + 1)) ∧ o 2 0 = nI (σ (544 + 7 * b + 2)) ∧ o 3 0 = nI (σ (544 + 7 * b + 3)) ∧ o 4 0 = nI (σ (544 + 7 * b + 4)) ∧ o 5 0 = nI (σ (544 + 7 * b + 5)) ∧ o 6 0 = nI (σ (544 + 7 * b + 6)) ∧ ∀ i, i < σ (544 + 7 * b + 3) → o 7 i = nI (σ (565 + 90 * b + 3 * i)) ∧ o 8 i = nI (σ (565 + 90 * b + 3 * i + 1)) ∧ o 9 i = nI (σ (565 + 90 * b + 3 * i + 2)))
/-- a whole state: units 0 state, 1 wares, 2 shelf, 3 log, 4-6 books -/
def RC (u : Nat → Ob) (σ : Nat → Nat) : Prop := RCs (u 0) σ ∧ RCw (u 1) σ ∧ RCh (u 2) σ ∧ RCl (u 3) σ ∧ RCb (u 4) σ 0 ∧ RCb (u 5) σ 1 ∧ RCb (u 6) σ 2
/-- the tape -/
def RTape (o M : Ob) : Prop := ∃ (n : Nat) (t : Nat → Nat), n ≤ 440 ∧ o 1 0 = nI n ∧ M 7 0 = nI n ∧ ∀ i, i < n → t i < 256 ∧ o 0 i = nI (t i) ∧ M 6 i = (nI (t i)).toInt8.toInt32
/-- a row that is told: class's count and content, the model's -/
def RRow (c1 : Int32) (f1 : Fn) (c2 : Int32) (f2 : Fn) (N : Nat) : Prop := ∃ n : Nat, n ≤ N ∧ c1 = nI n ∧ c2 = nI n ∧ ∀ i, i < n → f1 i = f2 i
/-- place j of the ring -/
def rgN (a j : Nat) : Nat := if a + j < 8 then a + j else a + j - 8
