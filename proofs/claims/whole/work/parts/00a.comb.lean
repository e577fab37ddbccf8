/-! the values of objects and arrays; the combinators of the functional pictures -/
abbrev Ob : Type := Nat → Nat → Int32
abbrev Fn : Type := Nat → Int32
def si (o : Ob) (j : Nat) (v : Int32) : Ob := fun a => bif Nat.beq a j then (fun _ => v) else o a
def sa (o : Ob) (j : Nat) (f : Fn) : Ob := fun a => bif Nat.beq a j then f else o a
def FU : Nat := 20000
def nx {α β : Type} (a : α) (f : α → β) : β := f a
theorem nx_e {α β : Type} {a : α} {f : α → β} {b : β} (h : nx a f = b) : ∃ x, x = a ∧ f x = b := ⟨a, rfl, h⟩
def gi {β : Type} (i : Int32) (n : Nat) (x : Option β) : Option β := if 0 ≤ i.toInt ∧ i.toInt < n then x else none
theorem gi_e {β : Type} {i : Int32} {n : Nat} {x : Option β} {y : β} (h : gi i n x = some y) : vp_in i n ∧ x = some y := by
  unfold gi at h
  split at h
  · exact ⟨vp_in_iff.mpr (by assumption), h⟩
  · cases h
/-- a divisor that is not 0 -/
def gn {β : Type} (v : Int32) (x : Option β) : Option β := if v = 0 then none else x
theorem gn_e {β : Type} {v : Int32} {x : Option β} {y : β} (h : gn v x = some y) : (¬ v = 0) ∧ x = some y := by
  unfold gn at h
  split at h
  · cases h
  · exact ⟨by assumption, h⟩
/-- a number that is a boolean -/
def gz {β : Type} (v : Int32) (x : Option β) : Option β := if v = 0 ∨ v = 1 then x else none
theorem gz_e {β : Type} {v : Int32} {x : Option β} {y : β} (h : gz v x = some y) : (v = 0 ∨ v = 1) ∧ x = some y := by
  unfold gz at h
  split at h
  · exact ⟨by assumption, h⟩
  · cases h
/-- a float that is a number -/
def gq {β : Type} (v : UInt32) (x : Option β) : Option β := if v &&& 2147483647 ≤ 2139095040 then x else none
theorem gq_e {β : Type} {v : UInt32} {x : Option β} {y : β} (h : gq v x = some y) : vf_n32 v ∧ x = some y := by
  unfold gq at h
  split at h
  · rename_i q; exact ⟨q, h⟩
  · cases h
/-- arraycopy's ranges -/
def gc {β : Type} (sp dp n : Int32) (n0 n1 : Nat) (x : Option β) : Option β := if (0 ≤ sp.toInt ∧ 0 ≤ dp.toInt ∧ 0 ≤ n.toInt) ∧ sp.toNatClampNeg + n.toNatClampNeg ≤ n0 ∧ dp.toNatClampNeg + n.toNatClampNeg ≤ n1 then x else none
theorem gc_nn {x : Int32} (h : 0 ≤ x.toInt) : ¬ x < 0 := fun q => by
  have := Int32.lt_iff_toInt_lt.mp q
  simp at this
  omega
theorem gc_e {β : Type} {sp dp n : Int32} {n0 n1 : Nat} {x : Option β} {y : β} (h : gc sp dp n n0 n1 x = some y) : (¬ sp < 0 ∧ ¬ dp < 0 ∧ ¬ n < 0) ∧ (sp.toNatClampNeg + n.toNatClampNeg ≤ n0 ∧ dp.toNatClampNeg + n.toNatClampNeg ≤ n1) ∧ x = some y := by
  unfold gc at h
  split at h
  · rename_i q
    exact ⟨⟨gc_nn q.1.1, gc_nn q.1.2.1, gc_nn q.1.2.2⟩, q.2, h⟩
  · cases h
theorem if_e {c : Prop} {_ : Decidable c} {α : Type} {x y : α} {z : α} (h : (if c then x else y) = z) : (c → x = z) ∧ (¬ c → y = z) := ⟨fun q => by rw [if_pos q] at h; exact h, fun q => by rw [if_neg q] at h; exact h⟩

def zb0 {β : Type} (x : Option Unit) (f : Option β) : Option β := match x with
  | none => none
  | some _ => f
theorem zb0_e {β : Type} {x : Option (Unit)} {f : Option β} {y : β} (h : zb0 x f = some y) : x = some () ∧ f = some y := by
  cases x with
  | none => cases h
  | some v => exact ⟨rfl, h⟩
def ze0 {ρ β : Type} (x : Option ((Unit) ⊕ ρ)) (j : ρ → Option β) (f : Option β) : Option β := match x with
  | none => none
  | some (.inr r) => j r
  | some (.inl v) => f
theorem ze0_e {ρ β : Type} {x : Option ((Unit) ⊕ ρ)} {j : ρ → Option β} {f : Option β} {y : β} (h : ze0 x j f = some y) : ∃ z, x = some z ∧ ((z = .inl () → f = some y)) ∧ ∀ r, z = .inr r → j r = some y := by
  cases x with
  | none => cases h
  | some z =>
    refine ⟨z, rfl, fun e => ?_, fun r e => ?_⟩
    · subst e; exact h
    · subst e; exact h
def zl0 {χ : Type} (B : Option (Unit ⊕ χ)) : Nat → Option χ
  | 0 => none
  | n + 1 => match B with
    | none => none
    | some (.inr x) => some x
    | some (.inl _) => zl0 B n
def zq0 {χ : Type} (B : Option ((Unit) ⊕ χ)) (n : Nat) (z : (Unit) ⊕ χ) : Option χ := match z with
  | .inr x => some x
  | .inl _ => zl0 B n 
theorem zl0_e {χ : Type} {B : Option ((Unit) ⊕ χ)} {n : Nat}  {x : χ} (h : zl0 B (n + 1)  = some x) : ∃ z, B  = some z ∧ zq0 B n z = some x := by
  unfold zl0 at h
  split at h
  · cases h
  · rename_i q; first | exact ⟨_, q, h⟩ | (rename_i q2; exact ⟨_, q2, h⟩) | exact ⟨_, rfl, h⟩
  · rename_i q; first | exact ⟨_, q, h⟩ | (rename_i q2; exact ⟨_, q2, h⟩) | exact ⟨_, rfl, h⟩
theorem zl0_b {χ : Type} {B : Option ((Unit) ⊕ χ)} {n : Nat}  {x : Option χ} (h : zl0 B n  = x) : ∃ B1, B1 = B ∧ zl0 B1 n  = x := ⟨B, rfl, h⟩
def zb1 {α0 β : Type} (x : Option (α0)) (f : α0 → Option β) : Option β := match x with
  | none => none
  | some v => f v
theorem zb1_e {α0 β : Type} {x : Option (α0)} {f : α0 → Option β} {y : β} (h : zb1 x f = some y) : ∃ (a0 : α0), x = some a0 ∧ f a0 = some y := by
  cases x with
  | none => cases h
  | some v => exact ⟨v, rfl, h⟩
def ze1 {α0 ρ β : Type} (x : Option ((α0) ⊕ ρ)) (j : ρ → Option β) (f : α0 → Option β) : Option β := match x with
  | none => none
  | some (.inr r) => j r
  | some (.inl v) => f v
theorem ze1_e {α0 ρ β : Type} {x : Option ((α0) ⊕ ρ)} {j : ρ → Option β} {f : α0 → Option β} {y : β} (h : ze1 x j f = some y) : ∃ z, x = some z ∧ (∀ (a0 : α0), (z = .inl a0 → f a0 = some y)) ∧ ∀ r, z = .inr r → j r = some y := by
  cases x with
  | none => cases h
  | some z =>
    refine ⟨z, rfl, fun a0 => fun e => ?_, fun r e => ?_⟩
    · subst e; exact h
    · subst e; exact h
def zl1 {α0 χ : Type} (B : α0 → Option ((α0) ⊕ χ)) : Nat → α0 → Option χ
  | 0, _ => none
  | n + 1, a0 => match B a0 with
    | none => none
    | some (.inr x) => some x
    | some (.inl v) => zl1 B n v
def zq1 {α0 χ : Type} (B : α0 → Option ((α0) ⊕ χ)) (n : Nat) (z : (α0) ⊕ χ) : Option χ := match z with
  | .inr x => some x
  | .inl v => zl1 B n v
theorem zl1_e {α0 χ : Type} {B : α0 → Option ((α0) ⊕ χ)} {n : Nat} {a0 : α0} {x : χ} (h : zl1 B (n + 1) a0 = some x) : ∃ z, B a0 = some z ∧ zq1 B n z = some x := by
  unfold zl1 at h
  split at h
  · cases h
  · rename_i q; first | exact ⟨_, q, h⟩ | (rename_i q2; exact ⟨_, q2, h⟩) | exact ⟨_, rfl, h⟩
  · rename_i q; first | exact ⟨_, q, h⟩ | (rename_i q2; exact ⟨_, q2, h⟩) | exact ⟨_, rfl, h⟩
theorem zl1_b {α0 χ : Type} {B : α0 → Option ((α0) ⊕ χ)} {n : Nat} {a0 : α0} {x : Option χ} (h : zl1 B n a0 = x) : ∃ B1, B1 = B ∧ zl1 B1 n a0 = x := ⟨B, rfl, h⟩
def zb2 {α0 α1 β : Type} (x : Option (α0 × α1)) (f : α0 → α1 → Option β) : Option β := match x with
  | none => none
  | some v => f v.1 v.2
theorem zb2_e {α0 α1 β : Type} {x : Option (α0 × α1)} {f : α0 → α1 → Option β} {y : β} (h : zb2 x f = some y) : ∃ (a0 : α0) (a1 : α1), x = some (a0, a1) ∧ f a0 a1 = some y := by
  cases x with
  | none => cases h
  | some v => exact ⟨v.1, v.2, rfl, h⟩
def ze2 {α0 α1 ρ β : Type} (x : Option ((α0 × α1) ⊕ ρ)) (j : ρ → Option β) (f : α0 → α1 → Option β) : Option β := match x with
  | none => none
  | some (.inr r) => j r
  | some (.inl v) => f v.1 v.2
theorem ze2_e {α0 α1 ρ β : Type} {x : Option ((α0 × α1) ⊕ ρ)} {j : ρ → Option β} {f : α0 → α1 → Option β} {y : β} (h : ze2 x j f = some y) : ∃ z, x = some z ∧ (∀ (a0 : α0) (a1 : α1), (z = .inl (a0, a1) → f a0 a1 = some y)) ∧ ∀ r, z = .inr r → j r = some y := by
  cases x with
  | none => cases h
  | some z =>
    refine ⟨z, rfl, fun a0 a1 => fun e => ?_, fun r e => ?_⟩
    · subst e; exact h
    · subst e; exact h
def zl2 {α0 α1 χ : Type} (B : α0 → α1 → Option ((α0 × α1) ⊕ χ)) : Nat → α0 → α1 → Option χ
  | 0, _, _ => none
  | n + 1, a0, a1 => match B a0 a1 with
    | none => none
    | some (.inr x) => some x
    | some (.inl v) => zl2 B n v.1 v.2
def zq2 {α0 α1 χ : Type} (B : α0 → α1 → Option ((α0 × α1) ⊕ χ)) (n : Nat) (z : (α0 × α1) ⊕ χ) : Option χ := match z with
  | .inr x => some x
  | .inl v => zl2 B n v.1 v.2
theorem zl2_e {α0 α1 χ : Type} {B : α0 → α1 → Option ((α0 × α1) ⊕ χ)} {n : Nat} {a0 : α0} {a1 : α1} {x : χ} (h : zl2 B (n + 1) a0 a1 = some x) : ∃ z, B a0 a1 = some z ∧ zq2 B n z = some x := by
  unfold zl2 at h
  split at h
  · cases h
  · rename_i q; first | exact ⟨_, q, h⟩ | (rename_i q2; exact ⟨_, q2, h⟩) | exact ⟨_, rfl, h⟩
  · rename_i q; first | exact ⟨_, q, h⟩ | (rename_i q2; exact ⟨_, q2, h⟩) | exact ⟨_, rfl, h⟩
theorem zl2_b {α0 α1 χ : Type} {B : α0 → α1 → Option ((α0 × α1) ⊕ χ)} {n : Nat} {a0 : α0} {a1 : α1} {x : Option χ} (h : zl2 B n a0 a1 = x) : ∃ B1, B1 = B ∧ zl2 B1 n a0 a1 = x := ⟨B, rfl, h⟩
def zb3 {α0 α1 α2 β : Type} (x : Option (α0 × α1 × α2)) (f : α0 → α1 → α2 → Option β) : Option β := match x with
  | none => none
  | some v => f v.1 v.2.1 v.2.2
theorem zb3_e {α0 α1 α2 β : Type} {x : Option (α0 × α1 × α2)} {f : α0 → α1 → α2 → Option β} {y : β} (h : zb3 x f = some y) : ∃ (a0 : α0) (a1 : α1) (a2 : α2), x = some (a0, a1, a2) ∧ f a0 a1 a2 = some y := by
  cases x with
  | none => cases h
  | some v => exact ⟨v.1, v.2.1, v.2.2, rfl, h⟩
def ze3 {α0 α1 α2 ρ β : Type} (x : Option ((α0 × α1 × α2) ⊕ ρ)) (j : ρ → Option β) (f : α0 → α1 → α2 → Option β) : Option β := match x with
  | none => none
  | some (.inr r) => j r
  | some (.inl v) => f v.1 v.2.1 v.2.2
theorem ze3_e {α0 α1 α2 ρ β : Type} {x : Option ((α0 × α1 × α2) ⊕ ρ)} {j : ρ → Option β} {f : α0 → α1 → α2 → Option β} {y : β} (h : ze3 x j f = some y) : ∃ z, x = some z ∧ (∀ (a0 : α0) (a1 : α1) (a2 : α2), (z = .inl (a0, a1, a2) → f a0 a1 a2 = some y)) ∧ ∀ r, z = .inr r → j r = some y := by
  cases x with
  | none => cases h
  | some z =>
    refine ⟨z, rfl, fun a0 a1 a2 => fun e => ?_, fun r e => ?_⟩
    · subst e; exact h
    · subst e; exact h
def zl3 {α0 α1 α2 χ : Type} (B : α0 → α1 → α2 → Option ((α0 × α1 × α2) ⊕ χ)) : Nat → α0 → α1 → α2 → Option χ
  | 0, _, _, _ => none
  | n + 1, a0, a1, a2 => match B a0 a1 a2 with
    | none => none
    | some (.inr x) => some x
    | some (.inl v) => zl3 B n v.1 v.2.1 v.2.2
def zq3 {α0 α1 α2 χ : Type} (B : α0 → α1 → α2 → Option ((α0 × α1 × α2) ⊕ χ)) (n : Nat) (z : (α0 × α1 × α2) ⊕ χ) : Option χ := match z with
  | .inr x => some x
  | .inl v => zl3 B n v.1 v.2.1 v.2.2
theorem zl3_e {α0 α1 α2 χ : Type} {B : α0 → α1 → α2 → Option ((α0 × α1 × α2) ⊕ χ)} {n : Nat} {a0 : α0} {a1 : α1} {a2 : α2} {x : χ} (h : zl3 B (n + 1) a0 a1 a2 = some x) : ∃ z, B a0 a1 a2 = some z ∧ zq3 B n z = some x := by
  unfold zl3 at h
  split at h
  · cases h
  · rename_i q; first | exact ⟨_, q, h⟩ | (rename_i q2; exact ⟨_, q2, h⟩) | exact ⟨_, rfl, h⟩
  · rename_i q; first | exact ⟨_, q, h⟩ | (rename_i q2; exact ⟨_, q2, h⟩) | exact ⟨_, rfl, h⟩
theorem zl3_b {α0 α1 α2 χ : Type} {B : α0 → α1 → α2 → Option ((α0 × α1 × α2) ⊕ χ)} {n : Nat} {a0 : α0} {a1 : α1} {a2 : α2} {x : Option χ} (h : zl3 B n a0 a1 a2 = x) : ∃ B1, B1 = B ∧ zl3 B1 n a0 a1 a2 = x := ⟨B, rfl, h⟩
def zb4 {α0 α1 α2 α3 β : Type} (x : Option (α0 × α1 × α2 × α3)) (f : α0 → α1 → α2 → α3 → Option β) : Option β := match x with
  | none => none
  | some v => f v.1 v.2.1 v.2.2.1 v.2.2.2
theorem zb4_e {α0 α1 α2 α3 β : Type} {x : Option (α0 × α1 × α2 × α3)} {f : α0 → α1 → α2 → α3 → Option β} {y : β} (h : zb4 x f = some y) : ∃ (a0 : α0) (a1 : α1) (a2 : α2) (a3 : α3), x = some (a0, a1, a2, a3) ∧ f a0 a1 a2 a3 = some y := by
  cases x with
  | none => cases h
  | some v => exact ⟨v.1, v.2.1, v.2.2.1, v.2.2.2, rfl, h⟩
def ze4 {α0 α1 α2 α3 ρ β : Type} (x : Option ((α0 × α1 × α2 × α3) ⊕ ρ)) (j : ρ → Option β) (f : α0 → α1 → α2 → α3 → Option β) : Option β := match x with
  | none => none
  | some (.inr r) => j r
  | some (.inl v) => f v.1 v.2.1 v.2.2.1 v.2.2.2
theorem ze4_e {α0 α1 α2 α3 ρ β : Type} {x : Option ((α0 × α1 × α2 × α3) ⊕ ρ)} {j : ρ → Option β} {f : α0 → α1 → α2 → α3 → Option β} {y : β} (h : ze4 x j f = some y) : ∃ z, x = some z ∧ (∀ (a0 : α0) (a1 : α1) (a2 : α2) (a3 : α3), (z = .inl (a0, a1, a2, a3) → f a0 a1 a2 a3 = some y)) ∧ ∀ r, z = .inr r → j r = some y := by
  cases x with
  | none => cases h
  | some z =>
    refine ⟨z, rfl, fun a0 a1 a2 a3 => fun e => ?_, fun r e => ?_⟩
    · subst e; exact h
    · subst e; exact h
def zl4 {α0 α1 α2 α3 χ : Type} (B : α0 → α1 → α2 → α3 → Option ((α0 × α1 × α2 × α3) ⊕ χ)) : Nat → α0 → α1 → α2 → α3 → Option χ
  | 0, _, _, _, _ => none
  | n + 1, a0, a1, a2, a3 => match B a0 a1 a2 a3 with
    | none => none
    | some (.inr x) => some x
    | some (.inl v) => zl4 B n v.1 v.2.1 v.2.2.1 v.2.2.2
def zq4 {α0 α1 α2 α3 χ : Type} (B : α0 → α1 → α2 → α3 → Option ((α0 × α1 × α2 × α3) ⊕ χ)) (n : Nat) (z : (α0 × α1 × α2 × α3) ⊕ χ) : Option χ := match z with
  | .inr x => some x
  | .inl v => zl4 B n v.1 v.2.1 v.2.2.1 v.2.2.2
theorem zl4_e {α0 α1 α2 α3 χ : Type} {B : α0 → α1 → α2 → α3 → Option ((α0 × α1 × α2 × α3) ⊕ χ)} {n : Nat} {a0 : α0} {a1 : α1} {a2 : α2} {a3 : α3} {x : χ} (h : zl4 B (n + 1) a0 a1 a2 a3 = some x) : ∃ z, B a0 a1 a2 a3 = some z ∧ zq4 B n z = some x := by
  unfold zl4 at h
  split at h
  · cases h
  · rename_i q; first | exact ⟨_, q, h⟩ | (rename_i q2; exact ⟨_, q2, h⟩) | exact ⟨_, rfl, h⟩
  · rename_i q; first | exact ⟨_, q, h⟩ | (rename_i q2; exact ⟨_, q2, h⟩) | exact ⟨_, rfl, h⟩
theorem zl4_b {α0 α1 α2 α3 χ : Type} {B : α0 → α1 → α2 → α3 → Option ((α0 × α1 × α2 × α3) ⊕ χ)} {n : Nat} {a0 : α0} {a1 : α1} {a2 : α2} {a3 : α3} {x : Option χ} (h : zl4 B n a0 a1 a2 a3 = x) : ∃ B1, B1 = B ∧ zl4 B1 n a0 a1 a2 a3 = x := ⟨B, rfl, h⟩
def zb5 {α0 α1 α2 α3 α4 β : Type} (x : Option (α0 × α1 × α2 × α3 × α4)) (f : α0 → α1 → α2 → α3 → α4 → Option β) : Option β := match x with
  | none => none
  | some v => f v.1 v.2.1 v.2.2.1 v.2.2.2.1 v.2.2.2.2
theorem zb5_e {α0 α1 α2 α3 α4 β : Type} {x : Option (α0 × α1 × α2 × α3 × α4)} {f : α0 → α1 → α2 → α3 → α4 → Option β} {y : β} (h : zb5 x f = some y) : ∃ (a0 : α0) (a1 : α1) (a2 : α2) (a3 : α3) (a4 : α4), x = some (a0, a1, a2, a3, a4) ∧ f a0 a1 a2 a3 a4 = some y := by
  cases x with
  | none => cases h
  | some v => exact ⟨v.1, v.2.1, v.2.2.1, v.2.2.2.1, v.2.2.2.2, rfl, h⟩
def ze5 {α0 α1 α2 α3 α4 ρ β : Type} (x : Option ((α0 × α1 × α2 × α3 × α4) ⊕ ρ)) (j : ρ → Option β) (f : α0 → α1 → α2 → α3 → α4 → Option β) : Option β := match x with
  | none => none
  | some (.inr r) => j r
  | some (.inl v) => f v.1 v.2.1 v.2.2.1 v.2.2.2.1 v.2.2.2.2
theorem ze5_e {α0 α1 α2 α3 α4 ρ β : Type} {x : Option ((α0 × α1 × α2 × α3 × α4) ⊕ ρ)} {j : ρ → Option β} {f : α0 → α1 → α2 → α3 → α4 → Option β} {y : β} (h : ze5 x j f = some y) : ∃ z, x = some z ∧ (∀ (a0 : α0) (a1 : α1) (a2 : α2) (a3 : α3) (a4 : α4), (z = .inl (a0, a1, a2, a3, a4) → f a0 a1 a2 a3 a4 = some y)) ∧ ∀ r, z = .inr r → j r = some y := by
  cases x with
  | none => cases h
  | some z =>
    refine ⟨z, rfl, fun a0 a1 a2 a3 a4 => fun e => ?_, fun r e => ?_⟩
    · subst e; exact h
    · subst e; exact h
def zl5 {α0 α1 α2 α3 α4 χ : Type} (B : α0 → α1 → α2 → α3 → α4 → Option ((α0 × α1 × α2 × α3 × α4) ⊕ χ)) : Nat → α0 → α1 → α2 → α3 → α4 → Option χ
  | 0, _, _, _, _, _ => none
  | n + 1, a0, a1, a2, a3, a4 => match B a0 a1 a2 a3 a4 with
    | none => none
    | some (.inr x) => some x
    | some (.inl v) => zl5 B n v.1 v.2.1 v.2.2.1 v.2.2.2.1 v.2.2.2.2
def zq5 {α0 α1 α2 α3 α4 χ : Type} (B : α0 → α1 → α2 → α3 → α4 → Option ((α0 × α1 × α2 × α3 × α4) ⊕ χ)) (n : Nat) (z : (α0 × α1 × α2 × α3 × α4) ⊕ χ) : Option χ := match z with
  | .inr x => some x
  | .inl v => zl5 B n v.1 v.2.1 v.2.2.1 v.2.2.2.1 v.2.2.2.2
theorem zl5_e {α0 α1 α2 α3 α4 χ : Type} {B : α0 → α1 → α2 → α3 → α4 → Option ((α0 × α1 × α2 × α3 × α4) ⊕ χ)} {n : Nat} {a0 : α0} {a1 : α1} {a2 : α2} {a3 : α3} {a4 : α4} {x : χ} (h : zl5 B (n + 1) a0 a1 a2 a3 a4 = some x) : ∃ z, B a0 a1 a2 a3 a4 = some z ∧ zq5 B n z = some x := by
  unfold zl5 at h
  split at h
  · cases h
  · rename_i q; first | exact ⟨_, q, h⟩ | (rename_i q2; exact ⟨_, q2, h⟩) | exact ⟨_, rfl, h⟩
  · rename_i q; first | exact ⟨_, q, h⟩ | (rename_i q2; exact ⟨_, q2, h⟩) | exact ⟨_, rfl, h⟩
theorem zl5_b {α0 α1 α2 α3 α4 χ : Type} {B : α0 → α1 → α2 → α3 → α4 → Option ((α0 × α1 × α2 × α3 × α4) ⊕ χ)} {n : Nat} {a0 : α0} {a1 : α1} {a2 : α2} {a3 : α3} {a4 : α4} {x : Option χ} (h : zl5 B n a0 a1 a2 a3 a4 = x) : ∃ B1, B1 = B ∧ zl5 B1 n a0 a1 a2 a3 a4 = x := ⟨B, rfl, h⟩
def zb6 {α0 α1 α2 α3 α4 α5 β : Type} (x : Option (α0 × α1 × α2 × α3 × α4 × α5)) (f : α0 → α1 → α2 → α3 → α4 → α5 → Option β) : Option β := match x with
  | none => none
  | some v => f v.1 v.2.1 v.2.2.1 v.2.2.2.1 v.2.2.2.2.1 v.2.2.2.2.2
theorem zb6_e {α0 α1 α2 α3 α4 α5 β : Type} {x : Option (α0 × α1 × α2 × α3 × α4 × α5)} {f : α0 → α1 → α2 → α3 → α4 → α5 → Option β} {y : β} (h : zb6 x f = some y) : ∃ (a0 : α0) (a1 : α1) (a2 : α2) (a3 : α3) (a4 : α4) (a5 : α5), x = some (a0, a1, a2, a3, a4, a5) ∧ f a0 a1 a2 a3 a4 a5 = some y := by
  cases x with
  | none => cases h
  | some v => exact ⟨v.1, v.2.1, v.2.2.1, v.2.2.2.1, v.2.2.2.2.1, v.2.2.2.2.2, rfl, h⟩
def ze6 {α0 α1 α2 α3 α4 α5 ρ β : Type} (x : Option ((α0 × α1 × α2 × α3 × α4 × α5) ⊕ ρ)) (j : ρ → Option β) (f : α0 → α1 → α2 → α3 → α4 → α5 → Option β) : Option β := match x with
  | none => none
  | some (.inr r) => j r
  | some (.inl v) => f v.1 v.2.1 v.2.2.1 v.2.2.2.1 v.2.2.2.2.1 v.2.2.2.2.2
theorem ze6_e {α0 α1 α2 α3 α4 α5 ρ β : Type} {x : Option ((α0 × α1 × α2 × α3 × α4 × α5) ⊕ ρ)} {j : ρ → Option β} {f : α0 → α1 → α2 → α3 → α4 → α5 → Option β} {y : β} (h : ze6 x j f = some y) : ∃ z, x = some z ∧ (∀ (a0 : α0) (a1 : α1) (a2 : α2) (a3 : α3) (a4 : α4) (a5 : α5), (z = .inl (a0, a1, a2, a3, a4, a5) → f a0 a1 a2 a3 a4 a5 = some y)) ∧ ∀ r, z = .inr r → j r = some y := by
  cases x with
  | none => cases h
  | some z =>
    refine ⟨z, rfl, fun a0 a1 a2 a3 a4 a5 => fun e => ?_, fun r e => ?_⟩
    · subst e; exact h
    · subst e; exact h
def zl6 {α0 α1 α2 α3 α4 α5 χ : Type} (B : α0 → α1 → α2 → α3 → α4 → α5 → Option ((α0 × α1 × α2 × α3 × α4 × α5) ⊕ χ)) : Nat → α0 → α1 → α2 → α3 → α4 → α5 → Option χ
  | 0, _, _, _, _, _, _ => none
  | n + 1, a0, a1, a2, a3, a4, a5 => match B a0 a1 a2 a3 a4 a5 with
    | none => none
    | some (.inr x) => some x
    | some (.inl v) => zl6 B n v.1 v.2.1 v.2.2.1 v.2.2.2.1 v.2.2.2.2.1 v.2.2.2.2.2
def zq6 {α0 α1 α2 α3 α4 α5 χ : Type} (B : α0 → α1 → α2 → α3 → α4 → α5 → Option ((α0 × α1 × α2 × α3 × α4 × α5) ⊕ χ)) (n : Nat) (z : (α0 × α1 × α2 × α3 × α4 × α5) ⊕ χ) : Option χ := match z with
  | .inr x => some x
  | .inl v => zl6 B n v.1 v.2.1 v.2.2.1 v.2.2.2.1 v.2.2.2.2.1 v.2.2.2.2.2
theorem zl6_e {α0 α1 α2 α3 α4 α5 χ : Type} {B : α0 → α1 → α2 → α3 → α4 → α5 → Option ((α0 × α1 × α2 × α3 × α4 × α5) ⊕ χ)} {n : Nat} {a0 : α0} {a1 : α1} {a2 : α2} {a3 : α3} {a4 : α4} {a5 : α5} {x : χ} (h : zl6 B (n + 1) a0 a1 a2 a3 a4 a5 = some x) : ∃ z, B a0 a1 a2 a3 a4 a5 = some z ∧ zq6 B n z = some x := by
  unfold zl6 at h
  split at h
  · cases h
  · rename_i q; first | exact ⟨_, q, h⟩ | (rename_i q2; exact ⟨_, q2, h⟩) | exact ⟨_, rfl, h⟩
  · rename_i q; first | exact ⟨_, q, h⟩ | (rename_i q2; exact ⟨_, q2, h⟩) | exact ⟨_, rfl, h⟩
theorem zl6_b {α0 α1 α2 α3 α4 α5 χ : Type} {B : α0 → α1 → α2 → α3 → α4 → α5 → Option ((α0 × α1 × α2 × α3 × α4 × α5) ⊕ χ)} {n : Nat} {a0 : α0} {a1 : α1} {a2 : α2} {a3 : α3} {a4 : α4} {a5 : α5} {x : Option χ} (h : zl6 B n a0 a1 a2 a3 a4 a5 = x) : ∃ B1, B1 = B ∧ zl6 B1 n a0 a1 a2 a3 a4 a5 = x := ⟨B, rfl, h⟩
def zb7 {α0 α1 α2 α3 α4 α5 α6 β : Type} (x : Option (α0 × α1 × α2 × α3 × α4 × α5 × α6)) (f : α0 → α1 → α2 → α3 → α4 → α5 → α6 → Option β) : Option β := match x with
  | none => none
  | some v => f v.1 v.2.1 v.2.2.1 v.2.2.2.1 v.2.2.2.2.1 v.2.2.2.2.2.1 v.2.2.2.2.2.2
theorem zb7_e {α0 α1 α2 α3 α4 α5 α6 β : Type} {x : Option (α0 × α1 × α2 × α3 × α4 × α5 × α6)} {f : α0 → α1 → α2 → α3 → α4 → α5 → α6 → Option β} {y : β} (h : zb7 x f = some y) : ∃ (a0 : α0) (a1 : α1) (a2 : α2) (a3 : α3) (a4 : α4) (a5 : α5) (a6 : α6), x = some (a0, a1, a2, a3, a4, a5, a6) ∧ f a0 a1 a2 a3 a4 a5 a6 = some y := by
  cases x with
  | none => cases h
  | some v => exact ⟨v.1, v.2.1, v.2.2.1, v.2.2.2.1, v.2.2.2.2.1, v.2.2.2.2.2.1, v.2.2.2.2.2.2, rfl, h⟩
def ze7 {α0 α1 α2 α3 α4 α5 α6 ρ β : Type} (x : Option ((α0 × α1 × α2 × α3 × α4 × α5 × α6) ⊕ ρ)) (j : ρ → Option β) (f : α0 → α1 → α2 → α3 → α4 → α5 → α6 → Option β) : Option β := match x with
  | none => none
  | some (.inr r) => j r
  | some (.inl v) => f v.1 v.2.1 v.2.2.1 v.2.2.2.1 v.2.2.2.2.1 v.2.2.2.2.2.1 v.2.2.2.2.2.2
theorem ze7_e {α0 α1 α2 α3 α4 α5 α6 ρ β : Type} {x : Option ((α0 × α1 × α2 × α3 × α4 × α5 × α6) ⊕ ρ)} {j : ρ → Option β} {f : α0 → α1 → α2 → α3 → α4 → α5 → α6 → Option β} {y : β} (h : ze7 x j f = some y) : ∃ z, x = some z ∧ (∀ (a0 : α0) (a1 : α1) (a2 : α2) (a3 : α3) (a4 : α4) (a5 : α5) (a6 : α6), (z = .inl (a0, a1, a2, a3, a4, a5, a6) → f a0 a1 a2 a3 a4 a5 a6 = some y)) ∧ ∀ r, z = .inr r → j r = some y := by
  cases x with
  | none => cases h
  | some z =>
    refine ⟨z, rfl, fun a0 a1 a2 a3 a4 a5 a6 => fun e => ?_, fun r e => ?_⟩
    · subst e; exact h
    · subst e; exact h
def zl7 {α0 α1 α2 α3 α4 α5 α6 χ : Type} (B : α0 → α1 → α2 → α3 → α4 → α5 → α6 → Option ((α0 × α1 × α2 × α3 × α4 × α5 × α6) ⊕ χ)) : Nat → α0 → α1 → α2 → α3 → α4 → α5 → α6 → Option χ
  | 0, _, _, _, _, _, _, _ => none
  | n + 1, a0, a1, a2, a3, a4, a5, a6 => match B a0 a1 a2 a3 a4 a5 a6 with
    | none => none
    | some (.inr x) => some x
    | some (.inl v) => zl7 B n v.1 v.2.1 v.2.2.1 v.2.2.2.1 v.2.2.2.2.1 v.2.2.2.2.2.1 v.2.2.2.2.2.2
def zq7 {α0 α1 α2 α3 α4 α5 α6 χ : Type} (B : α0 → α1 → α2 → α3 → α4 → α5 → α6 → Option ((α0 × α1 × α2 × α3 × α4 × α5 × α6) ⊕ χ)) (n : Nat) (z : (α0 × α1 × α2 × α3 × α4 × α5 × α6) ⊕ χ) : Option χ := match z with
  | .inr x => some x
  | .inl v => zl7 B n v.1 v.2.1 v.2.2.1 v.2.2.2.1 v.2.2.2.2.1 v.2.2.2.2.2.1 v.2.2.2.2.2.2
theorem zl7_e {α0 α1 α2 α3 α4 α5 α6 χ : Type} {B : α0 → α1 → α2 → α3 → α4 → α5 → α6 → Option ((α0 × α1 × α2 × α3 × α4 × α5 × α6) ⊕ χ)} {n : Nat} {a0 : α0} {a1 : α1} {a2 : α2} {a3 : α3} {a4 : α4} {a5 : α5} {a6 : α6} {x : χ} (h : zl7 B (n + 1) a0 a1 a2 a3 a4 a5 a6 = some x) : ∃ z, B a0 a1 a2 a3 a4 a5 a6 = some z ∧ zq7 B n z = some x := by
  unfold zl7 at h
  split at h
  · cases h
  · rename_i q; first | exact ⟨_, q, h⟩ | (rename_i q2; exact ⟨_, q2, h⟩) | exact ⟨_, rfl, h⟩
  · rename_i q; first | exact ⟨_, q, h⟩ | (rename_i q2; exact ⟨_, q2, h⟩) | exact ⟨_, rfl, h⟩
theorem zl7_b {α0 α1 α2 α3 α4 α5 α6 χ : Type} {B : α0 → α1 → α2 → α3 → α4 → α5 → α6 → Option ((α0 × α1 × α2 × α3 × α4 × α5 × α6) ⊕ χ)} {n : Nat} {a0 : α0} {a1 : α1} {a2 : α2} {a3 : α3} {a4 : α4} {a5 : α5} {a6 : α6} {x : Option χ} (h : zl7 B n a0 a1 a2 a3 a4 a5 a6 = x) : ∃ B1, B1 = B ∧ zl7 B1 n a0 a1 a2 a3 a4 a5 a6 = x := ⟨B, rfl, h⟩
def zb8 {α0 α1 α2 α3 α4 α5 α6 α7 β : Type} (x : Option (α0 × α1 × α2 × α3 × α4 × α5 × α6 × α7)) (f : α0 → α1 → α2 → α3 → α4 → α5 → α6 → α7 → Option β) : Option β := match x with
  | none => none
  | some v => f v.1 v.2.1 v.2.2.1 v.2.2.2.1 v.2.2.2.2.1 v.2.2.2.2.2.1 v.2.2.2.2.2.2.1 v.2.2.2.2.2.2.2
theorem zb8_e {α0 α1 α2 α3 α4 α5 α6 α7 β : Type} {x : Option (α0 × α1 × α2 × α3 × α4 × α5 × α6 × α7)} {f : α0 → α1 → α2 → α3 → α4 → α5 → α6 → α7 → Option β} {y : β} (h : zb8 x f = some y) : ∃ (a0 : α0) (a1 : α1) (a2 : α2) (a3 : α3) (a4 : α4) (a5 : α5) (a6 : α6) (a7 : α7), x = some (a0, a1, a2, a3, a4, a5, a6, a7) ∧ f a0 a1 a2 a3 a4 a5 a6 a7 = some y := by
  cases x with
  | none => cases h
  | some v => exact ⟨v.1, v.2.1, v.2.2.1, v.2.2.2.1, v.2.2.2.2.1, v.2.2.2.2.2.1, v.2.2.2.2.2.2.1, v.2.2.2.2.2.2.2, rfl, h⟩
def ze8 {α0 α1 α2 α3 α4 α5 α6 α7 ρ β : Type} (x : Option ((α0 × α1 × α2 × α3 × α4 × α5 × α6 × α7) ⊕ ρ)) (j : ρ → Option β) (f : α0 → α1 → α2 → α3 → α4 → α5 → α6 → α7 → Option β) : Option β := match x with
  | none => none
  | some (.inr r) => j r
  | some (.inl v) => f v.1 v.2.1 v.2.2.1 v.2.2.2.1 v.2.2.2.2.1 v.2.2.2.2.2.1 v.2.2.2.2.2.2.1 v.2.2.2.2.2.2.2
theorem ze8_e {α0 α1 α2 α3 α4 α5 α6 α7 ρ β : Type} {x : Option ((α0 × α1 × α2 × α3 × α4 × α5 × α6 × α7) ⊕ ρ)} {j : ρ → Option β} {f : α0 → α1 → α2 → α3 → α4 → α5 → α6 → α7 → Option β} {y : β} (h : ze8 x j f = some y) : ∃ z, x = some z ∧ (∀ (a0 : α0) (a1 : α1) (a2 : α2) (a3 : α3) (a4 : α4) (a5 : α5) (a6 : α6) (a7 : α7), (z = .inl (a0, a1, a2, a3, a4, a5, a6, a7) → f a0 a1 a2 a3 a4 a5 a6 a7 = some y)) ∧ ∀ r, z = .inr r → j r = some y := by
  cases x with
  | none => cases h
  | some z =>
    refine ⟨z, rfl, fun a0 a1 a2 a3 a4 a5 a6 a7 => fun e => ?_, fun r e => ?_⟩
    · subst e; exact h
    · subst e; exact h
def zl8 {α0 α1 α2 α3 α4 α5 α6 α7 χ : Type} (B : α0 → α1 → α2 → α3 → α4 → α5 → α6 → α7 → Option ((α0 × α1 × α2 × α3 × α4 × α5 × α6 × α7) ⊕ χ)) : Nat → α0 → α1 → α2 → α3 → α4 → α5 → α6 → α7 → Option χ
  | 0, _, _, _, _, _, _, _, _ => none
  | n + 1, a0, a1, a2, a3, a4, a5, a6, a7 => match B a0 a1 a2 a3 a4 a5 a6 a7 with
    | none => none
    | some (.inr x) => some x
    | some (.inl v) => zl8 B n v.1 v.2.1 v.2.2.1 v.2.2.2.1 v.2.2.2.2.1 v.2.2.2.2.2.1 v.2.2.2.2.2.2.1 v.2.2.2.2.2.2.2
def zq8 {α0 α1 α2 α3 α4 α5 α6 α7 χ : Type} (B : α0 → α1 → α2 → α3 → α4 → α5 → α6 → α7 → Option ((α0 × α1 × α2 × α3 × α4 × α5 × α6 × α7) ⊕ χ)) (n : Nat) (z : (α0 × α1 × α2 × α3 × α4 × α5 × α6 × α7) ⊕ χ) : Option χ := match z with
  | .inr x => some x
  | .inl v => zl8 B n v.1 v.2.1 v.2.2.1 v.2.2.2.1 v.2.2.2.2.1 v.2.2.2.2.2.1 v.2.2.2.2.2.2.1 v.2.2.2.2.2.2.2
theorem zl8_e {α0 α1 α2 α3 α4 α5 α6 α7 χ : Type} {B : α0 → α1 → α2 → α3 → α4 → α5 → α6 → α7 → Option ((α0 × α1 × α2 × α3 × α4 × α5 × α6 × α7) ⊕ χ)} {n : Nat} {a0 : α0} {a1 : α1} {a2 : α2} {a3 : α3} {a4 : α4} {a5 : α5} {a6 : α6} {a7 : α7} {x : χ} (h : zl8 B (n + 1) a0 a1 a2 a3 a4 a5 a6 a7 = some x) : ∃ z, B a0 a1 a2 a3 a4 a5 a6 a7 = some z ∧ zq8 B n z = some x := by
  unfold zl8 at h
  split at h
  · cases h
  · rename_i q; first | exact ⟨_, q, h⟩ | (rename_i q2; exact ⟨_, q2, h⟩) | exact ⟨_, rfl, h⟩
  · rename_i q; first | exact ⟨_, q, h⟩ | (rename_i q2; exact ⟨_, q2, h⟩) | exact ⟨_, rfl, h⟩
theorem zl8_b {α0 α1 α2 α3 α4 α5 α6 α7 χ : Type} {B : α0 → α1 → α2 → α3 → α4 → α5 → α6 → α7 → Option ((α0 × α1 × α2 × α3 × α4 × α5 × α6 × α7) ⊕ χ)} {n : Nat} {a0 : α0} {a1 : α1} {a2 : α2} {a3 : α3} {a4 : α4} {a5 : α5} {a6 : α6} {a7 : α7} {x : Option χ} (h : zl8 B n a0 a1 a2 a3 a4 a5 a6 a7 = x) : ∃ B1, B1 = B ∧ zl8 B1 n a0 a1 a2 a3 a4 a5 a6 a7 = x := ⟨B, rfl, h⟩
def zb9 {α0 α1 α2 α3 α4 α5 α6 α7 α8 β : Type} (x : Option (α0 × α1 × α2 × α3 × α4 × α5 × α6 × α7 × α8)) (f : α0 → α1 → α2 → α3 → α4 → α5 → α6 → α7 → α8 → Option β) : Option β := match x with
  | none => none
  | some v => f v.1 v.2.1 v.2.2.1 v.2.2.2.1 v.2.2.2.2.1 v.2.2.2.2.2.1 v.2.2.2.2.2.2.1 v.2.2.2.2.2.2.2.1 v.2.2.2.2.2.2.2.2
theorem zb9_e {α0 α1 α2 α3 α4 α5 α6 α7 α8 β : Type} {x : Option (α0 × α1 × α2 × α3 × α4 × α5 × α6 × α7 × α8)} {f : α0 → α1 → α2 → α3 → α4 → α5 → α6 → α7 → α8 → Option β} {y : β} (h : zb9 x f = some y) : ∃ (a0 : α0) (a1 : α1) (a2 : α2) (a3 : α3) (a4 : α4) (a5 : α5) (a6 : α6) (a7 : α7) (a8 : α8), x = some (a0, a1, a2, a3, a4, a5, a6, a7, a8) ∧ f a0 a1 a2 a3 a4 a5 a6 a7 a8 = some y := by
  cases x with
  | none => cases h
  | some v => exact ⟨v.1, v.2.1, v.2.2.1, v.2.2.2.1, v.2.2.2.2.1, v.2.2.2.2.2.1, v.2.2.2.2.2.2.1, v.2.2.2.2.2.2.2.1, v.2.2.2.2.2.2.2.2, rfl, h⟩
def ze9 {α0 α1 α2 α3 α4 α5 α6 α7 α8 ρ β : Type} (x : Option ((α0 × α1 × α2 × α3 × α4 × α5 × α6 × α7 × α8) ⊕ ρ)) (j : ρ → Option β) (f : α0 → α1 → α2 → α3 → α4 → α5 → α6 → α7 → α8 → Option β) : Option β := match x with
  | none => none
  | some (.inr r) => j r
  | some (.inl v) => f v.1 v.2.1 v.2.2.1 v.2.2.2.1 v.2.2.2.2.1 v.2.2.2.2.2.1 v.2.2.2.2.2.2.1 v.2.2.2.2.2.2.2.1 v.2.2.2.2.2.2.2.2
theorem ze9_e {α0 α1 α2 α3 α4 α5 α6 α7 α8 ρ β : Type} {x : Option ((α0 × α1 × α2 × α3 × α4 × α5 × α6 × α7 × α8) ⊕ ρ)} {j : ρ → Option β} {f : α0 → α1 → α2 → α3 → α4 → α5 → α6 → α7 → α8 → Option β} {y : β} (h : ze9 x j f = some y) : ∃ z, x = some z ∧ (∀ (a0 : α0) (a1 : α1) (a2 : α2) (a3 : α3) (a4 : α4) (a5 : α5) (a6 : α6) (a7 : α7) (a8 : α8), (z = .inl (a0, a1, a2, a3, a4, a5, a6, a7, a8) → f a0 a1 a2 a3 a4 a5 a6 a7 a8 = some y)) ∧ ∀ r, z = .inr r → j r = some y := by
  cases x with
  | none => cases h
  | some z =>
    refine ⟨z, rfl, fun a0 a1 a2 a3 a4 a5 a6 a7 a8 => fun e => ?_, fun r e => ?_⟩
    · subst e; exact h
    · subst e; exact h
def zl9 {α0 α1 α2 α3 α4 α5 α6 α7 α8 χ : Type} (B : α0 → α1 → α2 → α3 → α4 → α5 → α6 → α7 → α8 → Option ((α0 × α1 × α2 × α3 × α4 × α5 × α6 × α7 × α8) ⊕ χ)) : Nat → α0 → α1 → α2 → α3 → α4 → α5 → α6 → α7 → α8 → Option χ
  | 0, _, _, _, _, _, _, _, _, _ => none
  | n + 1, a0, a1, a2, a3, a4, a5, a6, a7, a8 => match B a0 a1 a2 a3 a4 a5 a6 a7 a8 with
    | none => none
    | some (.inr x) => some x
    | some (.inl v) => zl9 B n v.1 v.2.1 v.2.2.1 v.2.2.2.1 v.2.2.2.2.1 v.2.2.2.2.2.1 v.2.2.2.2.2.2.1 v.2.2.2.2.2.2.2.1 v.2.2.2.2.2.2.2.2
def zq9 {α0 α1 α2 α3 α4 α5 α6 α7 α8 χ : Type} (B : α0 → α1 → α2 → α3 → α4 → α5 → α6 → α7 → α8 → Option ((α0 × α1 × α2 × α3 × α4 × α5 × α6 × α7 × α8) ⊕ χ)) (n : Nat) (z : (α0 × α1 × α2 × α3 × α4 × α5 × α6 × α7 × α8) ⊕ χ) : Option χ := match z with
  | .inr x => some x
  | .inl v => zl9 B n v.1 v.2.1 v.2.2.1 v.2.2.2.1 v.2.2.2.2.1 v.2.2.2.2.2.1 v.2.2.2.2.2.2.1 v.2.2.2.2.2.2.2.1 v.2.2.2.2.2.2.2.2
theorem zl9_e {α0 α1 α2 α3 α4 α5 α6 α7 α8 χ : Type} {B : α0 → α1 → α2 → α3 → α4 → α5 → α6 → α7 → α8 → Option ((α0 × α1 × α2 × α3 × α4 × α5 × α6 × α7 × α8) ⊕ χ)} {n : Nat} {a0 : α0} {a1 : α1} {a2 : α2} {a3 : α3} {a4 : α4} {a5 : α5} {a6 : α6} {a7 : α7} {a8 : α8} {x : χ} (h : zl9 B (n + 1) a0 a1 a2 a3 a4 a5 a6 a7 a8 = some x) : ∃ z, B a0 a1 a2 a3 a4 a5 a6 a7 a8 = some z ∧ zq9 B n z = some x := by
  unfold zl9 at h
  split at h
  · cases h
  · rename_i q; first | exact ⟨_, q, h⟩ | (rename_i q2; exact ⟨_, q2, h⟩) | exact ⟨_, rfl, h⟩
  · rename_i q; first | exact ⟨_, q, h⟩ | (rename_i q2; exact ⟨_, q2, h⟩) | exact ⟨_, rfl, h⟩
theorem zl9_b {α0 α1 α2 α3 α4 α5 α6 α7 α8 χ : Type} {B : α0 → α1 → α2 → α3 → α4 → α5 → α6 → α7 → α8 → Option ((α0 × α1 × α2 × α3 × α4 × α5 × α6 × α7 × α8) ⊕ χ)} {n : Nat} {a0 : α0} {a1 : α1} {a2 : α2} {a3 : α3} {a4 : α4} {a5 : α5} {a6 : α6} {a7 : α7} {a8 : α8} {x : Option χ} (h : zl9 B n a0 a1 a2 a3 a4 a5 a6 a7 a8 = x) : ∃ B1, B1 = B ∧ zl9 B1 n a0 a1 a2 a3 a4 a5 a6 a7 a8 = x := ⟨B, rfl, h⟩
def zb10 {α0 α1 α2 α3 α4 α5 α6 α7 α8 α9 β : Type} (x : Option (α0 × α1 × α2 × α3 × α4 × α5 × α6 × α7 × α8 × α9)) (f : α0 → α1 → α2 → α3 → α4 → α5 → α6 → α7 → α8 → α9 → Option β) : Option β := match x with
  | none => none
  | some v => f v.1 v.2.1 v.2.2.1 v.2.2.2.1 v.2.2.2.2.1 v.2.2.2.2.2.1 v.2.2.2.2.2.2.1 v.2.2.2.2.2.2.2.1 v.2.2.2.2.2.2.2.2.1 v.2.2.2.2.2.2.2.2.2
theorem zb10_e {α0 α1 α2 α3 α4 α5 α6 α7 α8 α9 β : Type} {x : Option (α0 × α1 × α2 × α3 × α4 × α5 × α6 × α7 × α8 × α9)} {f : α0 → α1 → α2 → α3 → α4 → α5 → α6 → α7 → α8 → α9 → Option β} {y : β} (h : zb10 x f = some y) : ∃ (a0 : α0) (a1 : α1) (a2 : α2) (a3 : α3) (a4 : α4) (a5 : α5) (a6 : α6) (a7 : α7) (a8 : α8) (a9 : α9), x = some (a0, a1, a2, a3, a4, a5, a6, a7, a8, a9) ∧ f a0 a1 a2 a3 a4 a5 a6 a7 a8 a9 = some y := by
  cases x with
  | none => cases h
  | some v => exact ⟨v.1, v.2.1, v.2.2.1, v.2.2.2.1, v.2.2.2.2.1, v.2.2.2.2.2.1, v.2.2.2.2.2.2.1, v.2.2.2.2.2.2.2.1, v.2.2.2.2.2.2.2.2.1, v.2.2.2.2.2.2.2.2.2, rfl, h⟩
def ze10 {α0 α1 α2 α3 α4 α5 α6 α7 α8 α9 ρ β : Type} (x : Option ((α0 × α1 × α2 × α3 × α4 × α5 × α6 × α7 × α8 × α9) ⊕ ρ)) (j : ρ → Option β) (f : α0 → α1 → α2 → α3 → α4 → α5 → α6 → α7 → α8 → α9 → Option β) : Option β := match x with
  | none => none
  | some (.inr r) => j r
  | some (.inl v) => f v.1 v.2.1 v.2.2.1 v.2.2.2.1 v.2.2.2.2.1 v.2.2.2.2.2.1 v.2.2.2.2.2.2.1 v.2.2.2.2.2.2.2.1 v.2.2.2.2.2.2.2.2.1 v.2.2.2.2.2.2.2.2.2
theorem ze10_e {α0 α1 α2 α3 α4 α5 α6 α7 α8 α9 ρ β : Type} {x : Option ((α0 × α1 × α2 × α3 × α4 × α5 × α6 × α7 × α8 × α9) ⊕ ρ)} {j : ρ → Option β} {f : α0 → α1 → α2 → α3 → α4 → α5 → α6 → α7 → α8 → α9 → Option β} {y : β} (h : ze10 x j f = some y) : ∃ z, x = some z ∧ (∀ (a0 : α0) (a1 : α1) (a2 : α2) (a3 : α3) (a4 : α4) (a5 : α5) (a6 : α6) (a7 : α7) (a8 : α8) (a9 : α9), (z = .inl (a0, a1, a2, a3, a4, a5, a6, a7, a8, a9) → f a0 a1 a2 a3 a4 a5 a6 a7 a8 a9 = some y)) ∧ ∀ r, z = .inr r → j r = some y := by
  cases x with
  | none => cases h
  | some z =>
    refine ⟨z, rfl, fun a0 a1 a2 a3 a4 a5 a6 a7 a8 a9 => fun e => ?_, fun r e => ?_⟩
    · subst e; exact h
    · subst e; exact h
def zl10 {α0 α1 α2 α3 α4 α5 α6 α7 α8 α9 χ : Type} (B : α0 → α1 → α2 → α3 → α4 → α5 → α6 → α7 → α8 → α9 → Option ((α0 × α1 × α2 × α3 × α4 × α5 × α6 × α7 × α8 × α9) ⊕ χ)) : Nat → α0 → α1 → α2 → α3 → α4 → α5 → α6 → α7 → α8 → α9 → Option χ
  | 0, _, _, _, _, _, _, _, _, _, _ => none
  | n + 1, a0, a1, a2, a3, a4, a5, a6, a7, a8, a9 => match B a0 a1 a2 a3 a4 a5 a6 a7 a8 a9 with
    | none => none
    | some (.inr x) => some x
    | some (.inl v) => zl10 B n v.1 v.2.1 v.2.2.1 v.2.2.2.1 v.2.2.2.2.1 v.2.2.2.2.2.1 v.2.2.2.2.2.2.1 v.2.2.2.2.2.2.2.1 v.2.2.2.2.2.2.2.2.1 v.2.2.2.2.2.2.2.2.2
def zq10 {α0 α1 α2 α3 α4 α5 α6 α7 α8 α9 χ : Type} (B : α0 → α1 → α2 → α3 → α4 → α5 → α6 → α7 → α8 → α9 → Option ((α0 × α1 × α2 × α3 × α4 × α5 × α6 × α7 × α8 × α9) ⊕ χ)) (n : Nat) (z : (α0 × α1 × α2 × α3 × α4 × α5 × α6 × α7 × α8 × α9) ⊕ χ) : Option χ := match z with
  | .inr x => some x
  | .inl v => zl10 B n v.1 v.2.1 v.2.2.1 v.2.2.2.1 v.2.2.2.2.1 v.2.2.2.2.2.1 v.2.2.2.2.2.2.1 v.2.2.2.2.2.2.2.1 v.2.2.2.2.2.2.2.2.1 v.2.2.2.2.2.2.2.2.2
theorem zl10_e {α0 α1 α2 α3 α4 α5 α6 α7 α8 α9 χ : Type} {B : α0 → α1 → α2 → α3 → α4 → α5 → α6 → α7 → α8 → α9 → Option ((α0 × α1 × α2 × α3 × α4 × α5 × α6 × α7 × α8 × α9) ⊕ χ)} {n : Nat} {a0 : α0} {a1 : α1} {a2 : α2} {a3 : α3} {a4 : α4} {a5 : α5} {a6 : α6} {a7 : α7} {a8 : α8} {a9 : α9} {x : χ} (h : zl10 B (n + 1) a0 a1 a2 a3 a4 a5 a6 a7 a8 a9 = some x) : ∃ z, B a0 a1 a2 a3 a4 a5 a6 a7 a8 a9 = some z ∧ zq10 B n z = some x := by
  unfold zl10 at h
  split at h
  · cases h
  · rename_i q; first | exact ⟨_, q, h⟩ | (rename_i q2; exact ⟨_, q2, h⟩) | exact ⟨_, rfl, h⟩
  · rename_i q; first | exact ⟨_, q, h⟩ | (rename_i q2; exact ⟨_, q2, h⟩) | exact ⟨_, rfl, h⟩
theorem zl10_b {α0 α1 α2 α3 α4 α5 α6 α7 α8 α9 χ : Type} {B : α0 → α1 → α2 → α3 → α4 → α5 → α6 → α7 → α8 → α9 → Option ((α0 × α1 × α2 × α3 × α4 × α5 × α6 × α7 × α8 × α9) ⊕ χ)} {n : Nat} {a0 : α0} {a1 : α1} {a2 : α2} {a3 : α3} {a4 : α4} {a5 : α5} {a6 : α6} {a7 : α7} {a8 : α8} {a9 : α9} {x : Option χ} (h : zl10 B n a0 a1 a2 a3 a4 a5 a6 a7 a8 a9 = x) : ∃ B1, B1 = B ∧ zl10 B1 n a0 a1 a2 a3 a4 a5 a6 a7 a8 a9 = x := ⟨B, rfl, h⟩
def zb11 {α0 α1 α2 α3 α4 α5 α6 α7 α8 α9 α10 β : Type} (x : Option (α0 × α1 × α2 × α3 × α4 × α5 × α6 × α7 × α8 × α9 × α10)) (f : α0 → α1 → α2 → α3 → α4 → α5 → α6 → α7 → α8 → α9 → α10 → Option β) : Option β := match x with
  | none => none
  | some v => f v.1 v.2.1 v.2.2.1 v.2.2.2.1 v.2.2.2.2.1 v.2.2.2.2.2.1 v.2.2.2.2.2.2.1 v.2.2.2.2.2.2.2.1 v.2.2.2.2.2.2.2.2.1 v.2.2.2.2.2.2.2.2.2.1 v.2.2.2.2.2.2.2.2.2.2
theorem zb11_e {α0 α1 α2 α3 α4 α5 α6 α7 α8 α9 α10 β : Type} {x : Option (α0 × α1 × α2 × α3 × α4 × α5 × α6 × α7 × α8 × α9 × α10)} {f : α0 → α1 → α2 → α3 → α4 → α5 → α6 → α7 → α8 → α9 → α10 → Option β} {y : β} (h : zb11 x f = some y) : ∃ (a0 : α0) (a1 : α1) (a2 : α2) (a3 : α3) (a4 : α4) (a5 : α5) (a6 : α6) (a7 : α7) (a8 : α8) (a9 : α9) (a10 : α10), x = some (a0, a1, a2, a3, a4, a5, a6, a7, a8, a9, a10) ∧ f a0 a1 a2 a3 a4 a5 a6 a7 a8 a9 a10 = some y := by
  cases x with
  | none => cases h
  | some v => exact ⟨v.1, v.2.1, v.2.2.1, v.2.2.2.1, v.2.2.2.2.1, v.2.2.2.2.2.1, v.2.2.2.2.2.2.1, v.2.2.2.2.2.2.2.1, v.2.2.2.2.2.2.2.2.1, v.2.2.2.2.2.2.2.2.2.1, v.2.2.2.2.2.2.2.2.2.2, rfl, h⟩
def ze11 {α0 α1 α2 α3 α4 α5 α6 α7 α8 α9 α10 ρ β : Type} (x : Option ((α0 × α1 × α2 × α3 × α4 × α5 × α6 × α7 × α8 × α9 × α10) ⊕ ρ)) (j : ρ → Option β) (f : α0 → α1 → α2 → α3 → α4 → α5 → α6 → α7 → α8 → α9 → α10 → Option β) : Option β := match x with
  | none => none
  | some (.inr r) => j r
  | some (.inl v) => f v.1 v.2.1 v.2.2.1 v.2.2.2.1 v.2.2.2.2.1 v.2.2.2.2.2.1 v.2.2.2.2.2.2.1 v.2.2.2.2.2.2.2.1 v.2.2.2.2.2.2.2.2.1 v.2.2.2.2.2.2.2.2.2.1 v.2.2.2.2.2.2.2.2.2.2
theorem ze11_e {α0 α1 α2 α3 α4 α5 α6 α7 α8 α9 α10 ρ β : Type} {x : Option ((α0 × α1 × α2 × α3 × α4 × α5 × α6 × α7 × α8 × α9 × α10) ⊕ ρ)} {j : ρ → Option β} {f : α0 → α1 → α2 → α3 → α4 → α5 → α6 → α7 → α8 → α9 → α10 → Option β} {y : β} (h : ze11 x j f = some y) : ∃ z, x = some z ∧ (∀ (a0 : α0) (a1 : α1) (a2 : α2) (a3 : α3) (a4 : α4) (a5 : α5) (a6 : α6) (a7 : α7) (a8 : α8) (a9 : α9) (a10 : α10), (z = .inl (a0, a1, a2, a3, a4, a5, a6, a7, a8, a9, a10) → f a0 a1 a2 a3 a4 a5 a6 a7 a8 a9 a10 = some y)) ∧ ∀ r, z = .inr r → j r = some y := by
  cases x with
  | none => cases h
  | some z =>
    refine ⟨z, rfl, fun a0 a1 a2 a3 a4 a5 a6 a7 a8 a9 a10 => fun e => ?_, fun r e => ?_⟩
    · subst e; exact h
    · subst e; exact h
def zl11 {α0 α1 α2 α3 α4 α5 α6 α7 α8 α9 α10 χ : Type} (B : α0 → α1 → α2 → α3 → α4 → α5 → α6 → α7 → α8 → α9 → α10 → Option ((α0 × α1 × α2 × α3 × α4 × α5 × α6 × α7 × α8 × α9 × α10) ⊕ χ)) : Nat → α0 → α1 → α2 → α3 → α4 → α5 → α6 → α7 → α8 → α9 → α10 → Option χ
  | 0, _, _, _, _, _, _, _, _, _, _, _ => none
  | n + 1, a0, a1, a2, a3, a4, a5, a6, a7, a8, a9, a10 => match B a0 a1 a2 a3 a4 a5 a6 a7 a8 a9 a10 with
    | none => none
    | some (.inr x) => some x
    | some (.inl v) => zl11 B n v.1 v.2.1 v.2.2.1 v.2.2.2.1 v.2.2.2.2.1 v.2.2.2.2.2.1 v.2.2.2.2.2.2.1 v.2.2.2.2.2.2.2.1 v.2.2.2.2.2.2.2.2.1 v.2.2.2.2.2.2.2.2.2.1 v.2.2.2.2.2.2.2.2.2.2
def zq11 {α0 α1 α2 α3 α4 α5 α6 α7 α8 α9 α10 χ : Type} (B : α0 → α1 → α2 → α3 → α4 → α5 → α6 → α7 → α8 → α9 → α10 → Option ((α0 × α1 × α2 × α3 × α4 × α5 × α6 × α7 × α8 × α9 × α10) ⊕ χ)) (n : Nat) (z : (α0 × α1 × α2 × α3 × α4 × α5 × α6 × α7 × α8 × α9 × α10) ⊕ χ) : Option χ := match z with
  | .inr x => some x
  | .inl v => zl11 B n v.1 v.2.1 v.2.2.1 v.2.2.2.1 v.2.2.2.2.1 v.2.2.2.2.2.1 v.2.2.2.2.2.2.1 v.2.2.2.2.2.2.2.1 v.2.2.2.2.2.2.2.2.1 v.2.2.2.2.2.2.2.2.2.1 v.2.2.2.2.2.2.2.2.2.2
theorem zl11_e {α0 α1 α2 α3 α4 α5 α6 α7 α8 α9 α10 χ : Type} {B : α0 → α1 → α2 → α3 → α4 → α5 → α6 → α7 → α8 → α9 → α10 → Option ((α0 × α1 × α2 × α3 × α4 × α5 × α6 × α7 × α8 × α9 × α10) ⊕ χ)} {n : Nat} {a0 : α0} {a1 : α1} {a2 : α2} {a3 : α3} {a4 : α4} {a5 : α5} {a6 : α6} {a7 : α7} {a8 : α8} {a9 : α9} {a10 : α10} {x : χ} (h : zl11 B (n + 1) a0 a1 a2 a3 a4 a5 a6 a7 a8 a9 a10 = some x) : ∃ z, B a0 a1 a2 a3 a4 a5 a6 a7 a8 a9 a10 = some z ∧ zq11 B n z = some x := by
  unfold zl11 at h
  split at h
  · cases h
  · rename_i q; first | exact ⟨_, q, h⟩ | (rename_i q2; exact ⟨_, q2, h⟩) | exact ⟨_, rfl, h⟩
  · rename_i q; first | exact ⟨_, q, h⟩ | (rename_i q2; exact ⟨_, q2, h⟩) | exact ⟨_, rfl, h⟩
theorem zl11_b {α0 α1 α2 α3 α4 α5 α6 α7 α8 α9 α10 χ : Type} {B : α0 → α1 → α2 → α3 → α4 → α5 → α6 → α7 → α8 → α9 → α10 → Option ((α0 × α1 × α2 × α3 × α4 × α5 × α6 × α7 × α8 × α9 × α10) ⊕ χ)} {n : Nat} {a0 : α0} {a1 : α1} {a2 : α2} {a3 : α3} {a4 : α4} {a5 : α5} {a6 : α6} {a7 : α7} {a8 : α8} {a9 : α9} {a10 : α10} {x : Option χ} (h : zl11 B n a0 a1 a2 a3 a4 a5 a6 a7 a8 a9 a10 = x) : ∃ B1, B1 = B ∧ zl11 B1 n a0 a1 a2 a3 a4 a5 a6 a7 a8 a9 a10 = x := ⟨B, rfl, h⟩
def zb12 {α0 α1 α2 α3 α4 α5 α6 α7 α8 α9 α10 α11 β : Type} (x : Option (α0 × α1 × α2 × α3 × α4 × α5 × α6 × α7 × α8 × α9 × α10 × α11)) (f : α0 → α1 → α2 → α3 → α4 → α5 → α6 → α7 → α8 → α9 → α10 → α11 → Option β) : Option β := match x with
  | none => none
  | some v => f v.1 v.2.1 v.2.2.1 v.2.2.2.1 v.2.2.2.2.1 v.2.2.2.2.2.1 v.2.2.2.2.2.2.1 v.2.2.2.2.2.2.2.1 v.2.2.2.2.2.2.2.2.1 v.2.2.2.2.2.2.2.2.2.1 v.2.2.2.2.2.2.2.2.2.2.1 v.2.2.2.2.2.2.2.2.2.2.2
theorem zb12_e {α0 α1 α2 α3 α4 α5 α6 α7 α8 α9 α10 α11 β : Type} {x : Option (α0 × α1 × α2 × α3 × α4 × α5 × α6 × α7 × α8 × α9 × α10 × α11)} {f : α0 → α1 → α2 → α3 → α4 → α5 → α6 → α7 → α8 → α9 → α10 → α11 → Option β} {y : β} (h : zb12 x f = some y) : ∃ (a0 : α0) (a1 : α1) (a2 : α2) (a3 : α3) (a4 : α4) (a5 : α5) (a6 : α6) (a7 : α7) (a8 : α8) (a9 : α9) (a10 : α10) (a11 : α11), x = some (a0, a1, a2, a3, a4, a5, a6, a7, a8, a9, a10, a11) ∧ f a0 a1 a2 a3 a4 a5 a6 a7 a8 a9 a10 a11 = some y := by
  cases x with
  | none => cases h
  | some v => exact ⟨v.1, v.2.1, v.2.2.1, v.2.2.2.1, v.2.2.2.2.1, v.2.2.2.2.2.1, v.2.2.2.2.2.2.1, v.2.2.2.2.2.2.2.1, v.2.2.2.2.2.2.2.2.1, v.2.2.2.2.2.2.2.2.2.1, v.2.2.2.2.2.2.2.2.2.2.1, v.2.2.2.2.2.2.2.2.2.2.2, rfl, h⟩
def ze12 {α0 α1 α2 α3 α4 α5 α6 α7 α8 α9 α10 α11 ρ β : Type} (x : Option ((α0 × α1 × α2 × α3 × α4 × α5 × α6 × α7 × α8 × α9 × α10 × α11) ⊕ ρ)) (j : ρ → Option β) (f : α0 → α1 → α2 → α3 → α4 → α5 → α6 → α7 → α8 → α9 → α10 → α11 → Option β) : Option β := match x with
  | none => none
  | some (.inr r) => j r
  | some (.inl v) => f v.1 v.2.1 v.2.2.1 v.2.2.2.1 v.2.2.2.2.1 v.2.2.2.2.2.1 v.2.2.2.2.2.2.1 v.2.2.2.2.2.2.2.1 v.2.2.2.2.2.2.2.2.1 v.2.2.2.2.2.2.2.2.2.1 v.2.2.2.2.2.2.2.2.2.2.1 v.2.2.2.2.2.2.2.2.2.2.2
theorem ze12_e {α0 α1 α2 α3 α4 α5 α6 α7 α8 α9 α10 α11 ρ β : Type} {x : Option ((α0 × α1 × α2 × α3 × α4 × α5 × α6 × α7 × α8 × α9 × α10 × α11) ⊕ ρ)} {j : ρ → Option β} {f : α0 → α1 → α2 → α3 → α4 → α5 → α6 → α7 → α8 → α9 → α10 → α11 → Option β} {y : β} (h : ze12 x j f = some y) : ∃ z, x = some z ∧ (∀ (a0 : α0) (a1 : α1) (a2 : α2) (a3 : α3) (a4 : α4) (a5 : α5) (a6 : α6) (a7 : α7) (a8 : α8) (a9 : α9) (a10 : α10) (a11 : α11), (z = .inl (a0, a1, a2, a3, a4, a5, a6, a7, a8, a9, a10, a11) → f a0 a1 a2 a3 a4 a5 a6 a7 a8 a9 a10 a11 = some y)) ∧ ∀ r, z = .inr r → j r = some y := by
  cases x with
  | none => cases h
  | some z =>
    refine ⟨z, rfl, fun a0 a1 a2 a3 a4 a5 a6 a7 a8 a9 a10 a11 => fun e => ?_, fun r e => ?_⟩
    · subst e; exact h
    · subst e; exact h
def zl12 {α0 α1 α2 α3 α4 α5 α6 α7 α8 α9 α10 α11 χ : Type} (B : α0 → α1 → α2 → α3 → α4 → α5 → α6 → α7 → α8 → α9 → α10 → α11 → Option ((α0 × α1 × α2 × α3 × α4 × α5 × α6 × α7 × α8 × α9 × α10 × α11) ⊕ χ)) : Nat → α0 → α1 → α2 → α3 → α4 → α5 → α6 → α7 → α8 → α9 → α10 → α11 → Option χ
  | 0, _, _, _, _, _, _, _, _, _, _, _, _ => none
  | n + 1, a0, a1, a2, a3, a4, a5, a6, a7, a8, a9, a10, a11 => match B a0 a1 a2 a3 a4 a5 a6 a7 a8 a9 a10 a11 with
    | none => none
    | some (.inr x) => some x
    | some (.inl v) => zl12 B n v.1 v.2.1 v.2.2.1 v.2.2.2.1 v.2.2.2.2.1 v.2.2.2.2.2.1 v.2.2.2.2.2.2.1 v.2.2.2.2.2.2.2.1 v.2.2.2.2.2.2.2.2.1 v.2.2.2.2.2.2.2.2.2.1 v.2.2.2.2.2.2.2.2.2.2.1 v.2.2.2.2.2.2.2.2.2.2.2
def zq12 {α0 α1 α2 α3 α4 α5 α6 α7 α8 α9 α10 α11 χ : Type} (B : α0 → α1 → α2 → α3 → α4 → α5 → α6 → α7 → α8 → α9 → α10 → α11 → Option ((α0 × α1 × α2 × α3 × α4 × α5 × α6 × α7 × α8 × α9 × α10 × α11) ⊕ χ)) (n : Nat) (z : (α0 × α1 × α2 × α3 × α4 × α5 × α6 × α7 × α8 × α9 × α10 × α11) ⊕ χ) : Option χ := match z with
  | .inr x => some x
  | .inl v => zl12 B n v.1 v.2.1 v.2.2.1 v.2.2.2.1 v.2.2.2.2.1 v.2.2.2.2.2.1 v.2.2.2.2.2.2.1 v.2.2.2.2.2.2.2.1 v.2.2.2.2.2.2.2.2.1 v.2.2.2.2.2.2.2.2.2.1 v.2.2.2.2.2.2.2.2.2.2.1 v.2.2.2.2.2.2.2.2.2.2.2
theorem zl12_e {α0 α1 α2 α3 α4 α5 α6 α7 α8 α9 α10 α11 χ : Type} {B : α0 → α1 → α2 → α3 → α4 → α5 → α6 → α7 → α8 → α9 → α10 → α11 → Option ((α0 × α1 × α2 × α3 × α4 × α5 × α6 × α7 × α8 × α9 × α10 × α11) ⊕ χ)} {n : Nat} {a0 : α0} {a1 : α1} {a2 : α2} {a3 : α3} {a4 : α4} {a5 : α5} {a6 : α6} {a7 : α7} {a8 : α8} {a9 : α9} {a10 : α10} {a11 : α11} {x : χ} (h : zl12 B (n + 1) a0 a1 a2 a3 a4 a5 a6 a7 a8 a9 a10 a11 = some x) : ∃ z, B a0 a1 a2 a3 a4 a5 a6 a7 a8 a9 a10 a11 = some z ∧ zq12 B n z = some x := by
  unfold zl12 at h
  split at h
  · cases h
  · rename_i q; first | exact ⟨_, q, h⟩ | (rename_i q2; exact ⟨_, q2, h⟩) | exact ⟨_, rfl, h⟩
  · rename_i q; first | exact ⟨_, q, h⟩ | (rename_i q2; exact ⟨_, q2, h⟩) | exact ⟨_, rfl, h⟩
theorem zl12_b {α0 α1 α2 α3 α4 α5 α6 α7 α8 α9 α10 α11 χ : Type} {B : α0 → α1 → α2 → α3 → α4 → α5 → α6 → α7 → α8 → α9 → α10 → α11 → Option ((α0 × α1 × α2 × α3 × α4 × α5 × α6 × α7 × α8 × α9 × α10 × α11) ⊕ χ)} {n : Nat} {a0 : α0} {a1 : α1} {a2 : α2} {a3 : α3} {a4 : α4} {a5 : α5} {a6 : α6} {a7 : α7} {a8 : α8} {a9 : α9} {a10 : α10} {a11 : α11} {x : Option χ} (h : zl12 B n a0 a1 a2 a3 a4 a5 a6 a7 a8 a9 a10 a11 = x) : ∃ B1, B1 = B ∧ zl12 B1 n a0 a1 a2 a3 a4 a5 a6 a7 a8 a9 a10 a11 = x := ⟨B, rfl, h⟩
def zb13 {α0 α1 α2 α3 α4 α5 α6 α7 α8 α9 α10 α11 α12 β : Type} (x : Option (α0 × α1 × α2 × α3 × α4 × α5 × α6 × α7 × α8 × α9 × α10 × α11 × α12)) (f : α0 → α1 → α2 → α3 → α4 → α5 → α6 → α7 → α8 → α9 → α10 → α11 → α12 → Option β) : Option β := match x with
  | none => none
  | some v => f v.1 v.2.1 v.2.2.1 v.2.2.2.1 v.2.2.2.2.1 v.2.2.2.2.2.1 v.2.2.2.2.2.2.1 v.2.2.2.2.2.2.2.1 v.2.2.2.2.2.2.2.2.1 v.2.2.2.2.2.2.2.2.2.1 v.2.2.2.2.2.2.2.2.2.2.1 v.2.2.2.2.2.2.2.2.2.2.2.1 v.2.2.2.2.2.2.2.2.2.2.2.2
theorem zb13_e {α0 α1 α2 α3 α4 α5 α6 α7 α8 α9 α10 α11 α12 β : Type} {x : Option (α0 × α1 × α2 × α3 × α4 × α5 × α6 × α7 × α8 × α9 × α10 × α11 × α12)} {f : α0 → α1 → α2 → α3 → α4 → α5 → α6 → α7 → α8 → α9 → α10 → α11 → α12 → Option β} {y : β} (h : zb13 x f = some y) : ∃ (a0 : α0) (a1 : α1) (a2 : α2) (a3 : α3) (a4 : α4) (a5 : α5) (a6 : α6) (a7 : α7) (a8 : α8) (a9 : α9) (a10 : α10) (a11 : α11) (a12 : α12), x = some (a0, a1, a2, a3, a4, a5, a6, a7, a8, a9, a10, a11, a12) ∧ f a0 a1 a2 a3 a4 a5 a6 a7 a8 a9 a10 a11 a12 = some y := by
  cases x with
  | none => cases h
  | some v => exact ⟨v.1, v.2.1, v.2.2.1, v.2.2.2.1, v.2.2.2.2.1, v.2.2.2.2.2.1, v.2.2.2.2.2.2.1, v.2.2.2.2.2.2.2.1, v.2.2.2.2.2.2.2.2.1, v.2.2.2.2.2.2.2.2.2.1, v.2.2.2.2.2.2.2.2.2.2.1, v.2.2.2.2.2.2.2.2.2.2.2.1, v.2.2.2.2.2.2.2.2.2.2.2.2, rfl, h⟩
def ze13 {α0 α1 α2 α3 α4 α5 α6 α7 α8 α9 α10 α11 α12 ρ β : Type} (x : Option ((α0 × α1 × α2 × α3 × α4 × α5 × α6 × α7 × α8 × α9 × α10 × α11 × α12) ⊕ ρ)) (j : ρ → Option β) (f : α0 → α1 → α2 → α3 → α4 → α5 → α6 → α7 → α8 → α9 → α10 → α11 → α12 → Option β) : Option β := match x with
  | none => none
  | some (.inr r) => j r
  | some (.inl v) => f v.1 v.2.1 v.2.2.1 v.2.2.2.1 v.2.2.2.2.1 v.2.2.2.2.2.1 v.2.2.2.2.2.2.1 v.2.2.2.2.2.2.2.1 v.2.2.2.2.2.2.2.2.1 v.2.2.2.2.2.2.2.2.2.1 v.2.2.2.2.2.2.2.2.2.2.1 v.2.2.2.2.2.2.2.2.2.2.2.1 v.2.2.2.2.2.2.2.2.2.2.2.2
theorem ze13_e {α0 α1 α2 α3 α4 α5 α6 α7 α8 α9 α10 α11 α12 ρ β : Type} {x : Option ((α0 × α1 × α2 × α3 × α4 × α5 × α6 × α7 × α8 × α9 × α10 × α11 × α12) ⊕ ρ)} {j : ρ → Option β} {f : α0 → α1 → α2 → α3 → α4 → α5 → α6 → α7 → α8 → α9 → α10 → α11 → α12 → Option β} {y : β} (h : ze13 x j f = some y) : ∃ z, x = some z ∧ (∀ (a0 : α0) (a1 : α1) (a2 : α2) (a3 : α3) (a4 : α4) (a5 : α5) (a6 : α6) (a7 : α7) (a8 : α8) (a9 : α9) (a10 : α10) (a11 : α11) (a12 : α12), (z = .inl (a0, a1, a2, a3, a4, a5, a6, a7, a8, a9, a10, a11, a12) → f a0 a1 a2 a3 a4 a5 a6 a7 a8 a9 a10 a11 a12 = some y)) ∧ ∀ r, z = .inr r → j r = some y := by
  cases x with
  | none => cases h
  | some z =>
    refine ⟨z, rfl, fun a0 a1 a2 a3 a4 a5 a6 a7 a8 a9 a10 a11 a12 => fun e => ?_, fun r e => ?_⟩
    · subst e; exact h
    · subst e; exact h
def zl13 {α0 α1 α2 α3 α4 α5 α6 α7 α8 α9 α10 α11 α12 χ : Type} (B : α0 → α1 → α2 → α3 → α4 → α5 → α6 → α7 → α8 → α9 → α10 → α11 → α12 → Option ((α0 × α1 × α2 × α3 × α4 × α5 × α6 × α7 × α8 × α9 × α10 × α11 × α12) ⊕ χ)) : Nat → α0 → α1 → α2 → α3 → α4 → α5 → α6 → α7 → α8 → α9 → α10 → α11 → α12 → Option χ
  | 0, _, _, _, _, _, _, _, _, _, _, _, _, _ => none
  | n + 1, a0, a1, a2, a3, a4, a5, a6, a7, a8, a9, a10, a11, a12 => match B a0 a1 a2 a3 a4 a5 a6 a7 a8 a9 a10 a11 a12 with
    | none => none
    | some (.inr x) => some x
    | some (.inl v) => zl13 B n v.1 v.2.1 v.2.2.1 v.2.2.2.1 v.2.2.2.2.1 v.2.2.2.2.2.1 v.2.2.2.2.2.2.1 v.2.2.2.2.2.2.2.1 v.2.2.2.2.2.2.2.2.1 v.2.2.2.2.2.2.2.2.2.1 v.2.2.2.2.2.2.2.2.2.2.1 v.2.2.2.2.2.2.2.2.2.2.2.1 v.2.2.2.2.2.2.2.2.2.2.2.2
def zq13 {α0 α1 α2 α3 α4 α5 α6 α7 α8 α9 α10 α11 α12 χ : Type} (B : α0 → α1 → α2 → α3 → α4 → α5 → α6 → α7 → α8 → α9 → α10 → α11 → α12 → Option ((α0 × α1 × α2 × α3 × α4 × α5 × α6 × α7 × α8 × α9 × α10 × α11 × α12) ⊕ χ)) (n : Nat) (z : (α0 × α1 × α2 × α3 × α4 × α5 × α6 × α7 × α8 × α9 × α10 × α11 × α12) ⊕ χ) : Option χ := match z with
  | .inr x => some x
  | .inl v => zl13 B n v.1 v.2.1 v.2.2.1 v.2.2.2.1 v.2.2.2.2.1 v.2.2.2.2.2.1 v.2.2.2.2.2.2.1 v.2.2.2.2.2.2.2.1 v.2.2.2.2.2.2.2.2.1 v.2.2.2.2.2.2.2.2.2.1 v.2.2.2.2.2.2.2.2.2.2.1 v.2.2.2.2.2.2.2.2.2.2.2.1 v.2.2.2.2.2.2.2.2.2.2.2.2
theorem zl13_e {α0 α1 α2 α3 α4 α5 α6 α7 α8 α9 α10 α11 α12 χ : Type} {B : α0 → α1 → α2 → α3 → α4 → α5 → α6 → α7 → α8 → α9 → α10 → α11 → α12 → Option ((α0 × α1 × α2 × α3 × α4 × α5 × α6 × α7 × α8 × α9 × α10 × α11 × α12) ⊕ χ)} {n : Nat} {a0 : α0} {a1 : α1} {a2 : α2} {a3 : α3} {a4 : α4} {a5 : α5} {a6 : α6} {a7 : α7} {a8 : α8} {a9 : α9} {a10 : α10} {a11 : α11} {a12 : α12} {x : χ} (h : zl13 B (n + 1) a0 a1 a2 a3 a4 a5 a6 a7 a8 a9 a10 a11 a12 = some x) : ∃ z, B a0 a1 a2 a3 a4 a5 a6 a7 a8 a9 a10 a11 a12 = some z ∧ zq13 B n z = some x := by
  unfold zl13 at h
  split at h
  · cases h
  · rename_i q; first | exact ⟨_, q, h⟩ | (rename_i q2; exact ⟨_, q2, h⟩) | exact ⟨_, rfl, h⟩
  · rename_i q; first | exact ⟨_, q, h⟩ | (rename_i q2; exact ⟨_, q2, h⟩) | exact ⟨_, rfl, h⟩
theorem zl13_b {α0 α1 α2 α3 α4 α5 α6 α7 α8 α9 α10 α11 α12 χ : Type} {B : α0 → α1 → α2 → α3 → α4 → α5 → α6 → α7 → α8 → α9 → α10 → α11 → α12 → Option ((α0 × α1 × α2 × α3 × α4 × α5 × α6 × α7 × α8 × α9 × α10 × α11 × α12) ⊕ χ)} {n : Nat} {a0 : α0} {a1 : α1} {a2 : α2} {a3 : α3} {a4 : α4} {a5 : α5} {a6 : α6} {a7 : α7} {a8 : α8} {a9 : α9} {a10 : α10} {a11 : α11} {a12 : α12} {x : Option χ} (h : zl13 B n a0 a1 a2 a3 a4 a5 a6 a7 a8 a9 a10 a11 a12 = x) : ∃ B1, B1 = B ∧ zl13 B1 n a0 a1 a2 a3 a4 a5 a6 a7 a8 a9 a10 a11 a12 = x := ⟨B, rfl, h⟩
def zb14 {α0 α1 α2 α3 α4 α5 α6 α7 α8 α9 α10 α11 α12 α13 β : Type} (x : Option (α0 × α1 × α2 × α3 × α4 × α5 × α6 × α7 × α8 × α9 × α10 × α11 × α12 × α13)) (f : α0 → α1 → α2 → α3 → α4 → α5 → α6 → α7 → α8 → α9 → α10 → α11 → α12 → α13 → Option β) : Option β := match x with
  | none => none
  | some v => f v.1 v.2.1 v.2.2.1 v.2.2.2.1 v.2.2.2.2.1 v.2.2.2.2.2.1 v.2.2.2.2.2.2.1 v.2.2.2.2.2.2.2.1 v.2.2.2.2.2.2.2.2.1 v.2.2.2.2.2.2.2.2.2.1 v.2.2.2.2.2.2.2.2.2.2.1 v.2.2.2.2.2.2.2.2.2.2.2.1 v.2.2.2.2.2.2.2.2.2.2.2.2.1 v.2.2.2.2.2.2.2.2.2.2.2.2.2
theorem zb14_e {α0 α1 α2 α3 α4 α5 α6 α7 α8 α9 α10 α11 α12 α13 β : Type} {x : Option (α0 × α1 × α2 × α3 × α4 × α5 × α6 × α7 × α8 × α9 × α10 × α11 × α12 × α13)} {f : α0 → α1 → α2 → α3 → α4 → α5 → α6 → α7 → α8 → α9 → α10 → α11 → α12 → α13 → Option β} {y : β} (h : zb14 x f = some y) : ∃ (a0 : α0) (a1 : α1) (a2 : α2) (a3 : α3) (a4 : α4) (a5 : α5) (a6 : α6) (a7 : α7) (a8 : α8) (a9 : α9) (a10 : α10) (a11 : α11) (a12 : α12) (a13 : α13), x = some (a0, a1, a2, a3, a4, a5, a6, a7, a8, a9, a10, a11, a12, a13) ∧ f a0 a1 a2 a3 a4 a5 a6 a7 a8 a9 a10 a11 a12 a13 = some y := by
  cases x with
  | none => cases h
  | some v => exact ⟨v.1, v.2.1, v.2.2.1, v.2.2.2.1, v.2.2.2.2.1, v.2.2.2.2.2.1, v.2.2.2.2.2.2.1, v.2.2.2.2.2.2.2.1, v.2.2.2.2.2.2.2.2.1, v.2.2.2.2.2.2.2.2.2.1, v.2.2.2.2.2.2.2.2.2.2.1, v.2.2.2.2.2.2.2.2.2.2.2.1, v.2.2.2.2.2.2.2.2.2.2.2.2.1, v.2.2.2.2.2.2.2.2.2.2.2.2.2, rfl, h⟩
def ze14 {α0 α1 α2 α3 α4 α5 α6 α7 α8 α9 α10 α11 α12 α13 ρ β : Type} (x : Option ((α0 × α1 × α2 × α3 × α4 × α5 × α6 × α7 × α8 × α9 × α10 × α11 × α12 × α13) ⊕ ρ)) (j : ρ → Option β) (f : α0 → α1 → α2 → α3 → α4 → α5 → α6 → α7 → α8 → α9 → α10 → α11 → α12 → α13 → Option β) : Option β := match x with
  | none => none
  | some (.inr r) => j r
  | some (.inl v) => f v.1 v.2.1 v.2.2.1 v.2.2.2.1 v.2.2.2.2.1 v.2.2.2.2.2.1 v.2.2.2.2.2.2.1 v.2.2.2.2.2.2.2.1 v.2.2.2.2.2.2.2.2.1 v.2.2.2.2.2.2.2.2.2.1 v.2.2.2.2.2.2.2.2.2.2.1 v.2.2.2.2.2.2.2.2.2.2.2.1 v.2.2.2.2.2.2.2.2.2.2.2.2.1 v.2.2.2.2.2.2.2.2.2.2.2.2.2
theorem ze14_e {α0 α1 α2 α3 α4 α5 α6 α7 α8 α9 α10 α11 α12 α13 ρ β : Type} {x : Option ((α0 × α1 × α2 × α3 × α4 × α5 × α6 × α7 × α8 × α9 × α10 × α11 × α12 × α13) ⊕ ρ)} {j : ρ → Option β} {f : α0 → α1 → α2 → α3 → α4 → α5 → α6 → α7 → α8 → α9 → α10 → α11 → α12 → α13 → Option β} {y : β} (h : ze14 x j f = some y) : ∃ z, x = some z ∧ (∀ (a0 : α0) (a1 : α1) (a2 : α2) (a3 : α3) (a4 : α4) (a5 : α5) (a6 : α6) (a7 : α7) (a8 : α8) (a9 : α9) (a10 : α10) (a11 : α11) (a12 : α12) (a13 : α13), (z = .inl (a0, a1, a2, a3, a4, a5, a6, a7, a8, a9, a10, a11, a12, a13) → f a0 a1 a2 a3 a4 a5 a6 a7 a8 a9 a10 a11 a12 a13 = some y)) ∧ ∀ r, z = .inr r → j r = some y := by
  cases x with
  | none => cases h
  | some z =>
    refine ⟨z, rfl, fun a0 a1 a2 a3 a4 a5 a6 a7 a8 a9 a10 a11 a12 a13 => fun e => ?_, fun r e => ?_⟩
    · subst e; exact h
    · subst e; exact h
def zl14 {α0 α1 α2 α3 α4 α5 α6 α7 α8 α9 α10 α11 α12 α13 χ : Type} (B : α0 → α1 → α2 → α3 → α4 → α5 → α6 → α7 → α8 → α9 → α10 → α11 → α12 → α13 → Option ((α0 × α1 × α2 × α3 × α4 × α5 × α6 × α7 × α8 × α9 × α10 × α11 × α12 × α13) ⊕ χ)) : Nat → α0 → α1 → α2 → α3 → α4 → α5 → α6 → α7 → α8 → α9 → α10 → α11 → α12 → α13 → Option χ
  | 0, _, _, _, _, _, _, _, _, _, _, _, _, _, _ => none
  | n + 1, a0, a1, a2, a3, a4, a5, a6, a7, a8, a9, a10, a11, a12, a13 => match B a0 a1 a2 a3 a4 a5 a6 a7 a8 a9 a10 a11 a12 a13 with
    | none => none
    | some (.inr x) => some x
    | some (.inl v) => zl14 B n v.1 v.2.1 v.2.2.1 v.2.2.2.1 v.2.2.2.2.1 v.2.2.2.2.2.1 v.2.2.2.2.2.2.1 v.2.2.2.2.2.2.2.1 v.2.2.2.2.2.2.2.2.1 v.2.2.2.2.2.2.2.2.2.1 v.2.2.2.2.2.2.2.2.2.2.1 v.2.2.2.2.2.2.2.2.2.2.2.1 v.2.2.2.2.2.2.2.2.2.2.2.2.1 v.2.2.2.2.2.2.2.2.2.2.2.2.2
def zq14 {α0 α1 α2 α3 α4 α5 α6 α7 α8 α9 α10 α11 α12 α13 χ : Type} (B : α0 → α1 → α2 → α3 → α4 → α5 → α6 → α7 → α8 → α9 → α10 → α11 → α12 → α13 → Option ((α0 × α1 × α2 × α3 × α4 × α5 × α6 × α7 × α8 × α9 × α10 × α11 × α12 × α13) ⊕ χ)) (n : Nat) (z : (α0 × α1 × α2 × α3 × α4 × α5 × α6 × α7 × α8 × α9 × α10 × α11 × α12 × α13) ⊕ χ) : Option χ := match z with
  | .inr x => some x
  | .inl v => zl14 B n v.1 v.2.1 v.2.2.1 v.2.2.2.1 v.2.2.2.2.1 v.2.2.2.2.2.1 v.2.2.2.2.2.2.1 v.2.2.2.2.2.2.2.1 v.2.2.2.2.2.2.2.2.1 v.2.2.2.2.2.2.2.2.2.1 v.2.2.2.2.2.2.2.2.2.2.1 v.2.2.2.2.2.2.2.2.2.2.2.1 v.2.2.2.2.2.2.2.2.2.2.2.2.1 v.2.2.2.2.2.2.2.2.2.2.2.2.2
theorem zl14_e {α0 α1 α2 α3 α4 α5 α6 α7 α8 α9 α10 α11 α12 α13 χ : Type} {B : α0 → α1 → α2 → α3 → α4 → α5 → α6 → α7 → α8 → α9 → α10 → α11 → α12 → α13 → Option ((α0 × α1 × α2 × α3 × α4 × α5 × α6 × α7 × α8 × α9 × α10 × α11 × α12 × α13) ⊕ χ)} {n : Nat} {a0 : α0} {a1 : α1} {a2 : α2} {a3 : α3} {a4 : α4} {a5 : α5} {a6 : α6} {a7 : α7} {a8 : α8} {a9 : α9} {a10 : α10} {a11 : α11} {a12 : α12} {a13 : α13} {x : χ} (h : zl14 B (n + 1) a0 a1 a2 a3 a4 a5 a6 a7 a8 a9 a10 a11 a12 a13 = some x) : ∃ z, B a0 a1 a2 a3 a4 a5 a6 a7 a8 a9 a10 a11 a12 a13 = some z ∧ zq14 B n z = some x := by
  unfold zl14 at h
  split at h
  · cases h
  · rename_i q; first | exact ⟨_, q, h⟩ | (rename_i q2; exact ⟨_, q2, h⟩) | exact ⟨_, rfl, h⟩
  · rename_i q; first | exact ⟨_, q, h⟩ | (rename_i q2; exact ⟨_, q2, h⟩) | exact ⟨_, rfl, h⟩
theorem zl14_b {α0 α1 α2 α3 α4 α5 α6 α7 α8 α9 α10 α11 α12 α13 χ : Type} {B : α0 → α1 → α2 → α3 → α4 → α5 → α6 → α7 → α8 → α9 → α10 → α11 → α12 → α13 → Option ((α0 × α1 × α2 × α3 × α4 × α5 × α6 × α7 × α8 × α9 × α10 × α11 × α12 × α13) ⊕ χ)} {n : Nat} {a0 : α0} {a1 : α1} {a2 : α2} {a3 : α3} {a4 : α4} {a5 : α5} {a6 : α6} {a7 : α7} {a8 : α8} {a9 : α9} {a10 : α10} {a11 : α11} {a12 : α12} {a13 : α13} {x : Option χ} (h : zl14 B n a0 a1 a2 a3 a4 a5 a6 a7 a8 a9 a10 a11 a12 a13 = x) : ∃ B1, B1 = B ∧ zl14 B1 n a0 a1 a2 a3 a4 a5 a6 a7 a8 a9 a10 a11 a12 a13 = x := ⟨B, rfl, h⟩
theorem ne_t {x y : Int32} (h : ¬ x = y) : x.toInt ≠ y.toInt := fun q => h (Int32.toInt_inj.mp q)
def bk (b0 b1 b2 : Nat) : Nat → Option Nat := fun j => bif Nat.beq j 0 then some b0 else bif Nat.beq j 1 then some b1 else some b2
/-- bits that are a float's, no signalling NaN -/
def gb {β : Type} (v : Int32) (x : Option β) : Option β := if vn_sni2f v = true then none else x
theorem gb_e {β : Type} {v : Int32} {x : Option β} {y : β} (h : gb v x = some y) : vn_sni2f v = false ∧ x = some y := by
  unfold gb at h
  split at h
  · cases h
  · rename_i q; exact ⟨by simpa using q, h⟩
def sxK : List Int32 := [114, 111, 111, 109, 0, 114, 117, 108, 101, 0, 105, 116, 101, 109, 0, 97, 103, 97, 105, 110, 111, 110, 99, 101, 0, 114, 101, 110, 116, 0, 104, 101, 97, 116, 0]
def sxI : List Nat := [61, 69, 73, 88, 90, 92, 127]
def sxT : List String := ["room", "rule", "item", "once", "rent", "heat", "again"]
def sxL : List Nat := [4, 4, 4, 4, 4, 4, 5]
def sxB : List (List Int32) := [[114, 111, 111, 109], [114, 117, 108, 101], [105, 116, 101, 109], [111, 110, 99, 101], [114, 101, 110, 116], [104, 101, 97, 116], [97, 103, 97, 105, 110]]
def oz : Ob := fun _ _ => 0
abbrev PV : Type := Nat → Option (Nat → Ob)
def V9 : Nat → Ob := fun i => bif Nat.beq i 2 then (si (si oz 0 6) 1 1) else oz
def v7 (a b c d e f g : Ob) : Nat → Ob := fun i => bif Nat.beq i 0 then a else bif Nat.beq i 1 then b else bif Nat.beq i 2 then c else bif Nat.beq i 3 then d else bif Nat.beq i 4 then e else bif Nat.beq i 5 then f else g
def upP (P : PV) (i : Nat) (V : Nat → Ob) : PV := fun j => if j = i then some V else P j
/-- by cases on a slot -/
def zp {α β : Type} (x : Option α) (a : Option β) (f : α → Option β) : Option β := match x with
  | none => a
  | some v => f v
theorem zp_e0 {α β : Type} {x : Option α} {a : Option β} {f : α → Option β} {b : Option β} (h : x = none) (hz : zp x a f = b) : a = b := by subst h; exact hz
theorem zp_e1 {α β : Type} {x : Option α} {a : Option β} {f : α → Option β} {b : Option β} {v : α} (h : x = some v) (hz : zp x a f = b) : f v = b := by subst h; exact hz
def vu (V : Nat → Ob) (i : Nat) (o : Ob) : Nat → Ob := fun j => bif Nat.beq j i then o else V j
