/-! the values of objects and arrays; the combinators of the functional pictures -/
abbrev Ob : Type := Nat → Nat → Int32
abbrev Fn : Type := Nat → Int32
def si (o : Ob) (j : Nat) (v : Int32) : Ob := fun a => bif Nat.beq a j then (fun _ => v) else o a
def sa (o : Ob) (j : Nat) (f : Fn) : Ob := fun a => bif Nat.beq a j then f else o a
def FU : Nat := 20000
def nx {α β : Type} (a : α) (f : α → β) : β := f a
theorem nx_e {α β : Type} {a : α} {f : α → β} {b : β} (h : nx a f = b) : ∃ x, x = a ∧ f x = b := ⟨a, rfl, h⟩
def gi {β : Type} (i : Int32) (n : Nat) (x : Option β) : Option β := if 0 ≤ i.toInt ∧ i.toInt < n then x else none
theorem gi_e {β : Type} {i : Int32} {n : Nat} {x : Option β} {y : β} (h : gi i n x = some y) : vp_in i n ∧ x = some y := by
  unfold gi at h
  split at h
  · exact ⟨vp_in_iff.mpr (by assumption), h⟩
  · cases h
/-- a divisor that is not 0 -/
def gn {β : Type} (v : Int32) (x : Option β) : Option β := if v = 0 then none else x
theorem gn_e {β : Type} {v : Int32} {x : Option β} {y : β} (h : gn v x = some y) : (¬ v = 0) ∧ x = some y := by
  unfold gn at h
  split at h
  · cases h
  · exact ⟨by assumption, h⟩
/-- a number that is a boolean -/
def gz {β : Type} (v : Int32) (x : Option β) : Option β := if v = 0 ∨ v = 1 then x else none
theorem gz_e {β : Type} {v : Int32} {x : Option β} {y : β} (h : gz v x = some y) : (v = 0 ∨ v = 1) ∧ x = some y := by
  unfold gz at h
  split at h
  · exact ⟨by assumption, h⟩
  · cases h
/-- a float that is a number -/
def gq {β : Type} (v : UInt32) (x : Option β) : Option β := if v &&& 2147483647 ≤ 2139095040 then x else none
theorem gq_e {β : Type} {v : UInt32} {x : Option β} {y : β} (h : gq v x = some y) : vf_n32 v ∧ x = some y := by
  unfold gq at h
  split at h
  · rename_i q; exact ⟨q, h⟩
  · cases h
/-- arraycopy's ranges -/
def gc {β : Type} (sp dp n : Int32) (n0 n1 : Nat) (x : Option β) : Option β := if (0 ≤ sp.toInt ∧ 0 ≤ dp.toInt ∧ 0 ≤ n.toInt) ∧ sp.toNatClampNeg + n.toNatClampNeg ≤ n0 ∧ dp.toNatClampNeg + n.toNatClampNeg ≤ n1 then x else none
theorem gc_nn {x : Int32} (h : 0 ≤ x.toInt) : ¬ x < 0 := fun q => by
  have := Int32.lt_iff_toInt_lt.mp q
  simp at this
  omega
theorem gc_e {β : Type} {sp dp n : Int32} {n0 n1 : Nat} {x : Option β} {y : β} (h : gc sp dp n n0 n1 x = some y) : (¬ sp < 0 ∧ ¬ dp < 0 ∧ ¬ n < 0) ∧ (sp.toNatClampNeg + n.toNatClampNeg ≤ n0 ∧ dp.toNatClampNeg + n.toNatClampNeg ≤ n1) ∧ x = some y := by
  unfold gc at h
  split at h
  · rename_i q
    exact ⟨⟨gc_nn q.1.1, gc_nn q.1.2.1, gc_nn q.1.2.2⟩, q.2, h⟩
  · cases h
theorem if_e {c : Prop} {_ : Decidable c} {α : Type} {x y : α} {z : α} (h : (if c then x else y) = z) : (c → x = z) ∧ (¬ c → y = z) := ⟨fun q => by rw [if_pos q] at h; exact h, fun q => by rw [if_neg q] at h; exact h⟩

def zb0 {β : Type} (x : Option Unit) (f : Option β) : Option β := match x with
  | none => none
  | some _ => f
theorem zb0_e {β : Type} {x : Option (Unit)} {f : Option β} {y : β} (h : zb0 x f = some y) : x = some () ∧ f = some y := by
  cases x with
  | none => cases h
  | some v => exact ⟨rfl, h⟩
def ze0 {ρ β : Type} (x : Option ((Unit) ⊕ ρ)) (j : ρ → Option β) (f : Option β) : Option β := match x with
  | none => none
  | some (.inr r) => j r
  | some (.inl v) => f
theorem ze0_e {ρ β : Type} {x : Option ((Unit) ⊕ ρ)} {j : ρ → Option β} {f : Option β} {y : β} (h : ze0 x j f = some y) : ∃ z, x = some z ∧ ((z = .inl () → f = some y)) ∧ ∀ r, z = .inr r → j r = some y := by
  cases x with
  | none => cases h
  | some z =>
    refine ⟨z, rfl, fun e => ?_, fun r e => ?_⟩
    · subst e; exact h
    · subst e; exact h
def zl0 {χ : Type} (B : Option (Unit ⊕ χ)) : Nat → Option χ
  | 0 => none
  | n + 1 => match B with
    | none => none
    | some (.inr x) => some x
    | some (.inl _) => zl0 B n
def zq0 {χ : Type} (B : Option ((Unit) ⊕ χ)) (n : Nat) (z : (Unit) ⊕ χ) : Option χ := match z with
  | .inr x => some x
  | .inl _ => zl0 B n 
theorem zl0_e {χ : Type} {B : Option ((Unit) ⊕ χ)} {n : Nat}  {x : χ} (h : zl0 B (n + 1)  = some x) : ∃ z, B  = some z ∧ zq0 B n z = some x := by
  unfold zl0 at h
  split at h
  · cases h
  · rename_i q; first | exact ⟨_, q, h⟩ | (rename_i q2; exact ⟨_, q2, h⟩) | exact ⟨_, rfl, h⟩
  · rename_i q; first | exact ⟨_, q, h⟩ | (rename_i q2; exact ⟨_, q2, h⟩) | exact ⟨_, rfl, h⟩
theorem zl0_b {χ : Type} {B : Option ((Unit) ⊕ χ)} {n : Nat}  {x : Option χ} (h : zl0 B n  = x) : ∃ B1, B1 = B ∧ zl0 B1 n  = x := ⟨B, rfl, h⟩
def zb1 {α0 β : Type} (x : Option (α0)) (f : α0 → Option β) : Option β := match x with
  | none => none
  | some v => f v
theorem zb1_e {α0 β : Type} {x : Option (α0)} {f : α0 → Option β} {y : β} (h : zb1 x f = some y) : ∃ (a0 : α0), x = some a0 ∧ f a0 = some y := by
  cases x with
  | none => cases h
  | some v => exact ⟨v, rfl, h⟩
def ze1 {α0 ρ β : Type} (x : Option ((α0) ⊕ ρ)) (j : ρ → Option β) (f : α0 → Option β) : Option β := match x with
  | none => none
  | some (.inr r) => j r
  | some (.inl v) => f v
theorem ze1_e {α0 ρ β : Type} {x : Option ((α0) ⊕ ρ)} {j : ρ → Option β} {f : α0 → Option β} {y : β} (h : ze1 x j f = some y) : ∃ z, x = some z ∧ (∀ (a0 : α0), (z = .inl a0 → f a0 = some y)) ∧ ∀ r, z = .inr r → j r = some y := by
  cases x with
  | none => cases h
  | some z =>
    refine ⟨z, rfl, fun a0 => fun e => ?_, fun r e => ?_⟩
    · subst e; exact h
    · subst e; exact h
def zl1 {α0 χ : Type} (B : α0 → Option ((α0) ⊕ χ)) : Nat → α0 → Option χ
  | 0, _ => none
  | n + 1, a0 => match B a0 with
    | none => none
    | some (.inr x) => some x
    | some (.inl v) => zl1 B n v
def zq1 {α0 χ : Type} (B : α0 → Option ((α0) ⊕ χ)) (n : Nat) (z : (α0) ⊕ χ) : Option χ := match z with
  | .inr x => some x
  | .inl v => zl1 B n v
theorem zl1_e {α0 χ : Type} {B : α0 → Option ((α0) ⊕ χ)} {n : Nat} {a0 : α0} {x : χ} (h : zl1 B (n + 1) a0 = some x) : ∃ z, B a0 = some z ∧ zq1 B n z = some x := by
  unfold zl1 at h
  split at h
  · cases h
  · rename_i q; first | exact ⟨_, q, h⟩ | (rename_i q2; exact ⟨_, q2, h⟩) | exact ⟨_, rfl, h⟩
  · rename_i q; first | exact ⟨_, q, h⟩ | (rename_i q2; exact ⟨_, q2, h⟩) | exact ⟨_, rfl, h⟩
theorem zl1_b {α0 χ : Type} {B : α0 → Option ((α0) ⊕ χ)} {n : Nat} {a0 : α0} {x : Option χ} (h : zl1 B n a0 = x) : ∃ B1, B1 = B ∧ zl1 B1 n a0 = x := ⟨B, rfl, h⟩
def zb2 {α0 α1 β : Type} (x : Option (α0 × α1)) (f : α0 → α1 → Option β) : Option β := match x with
  | none => none
  | some v => f v.1 v.2
theorem zb2_e {α0 α1 β : Type} {x : Option (α0 × α1)} {f : α0 → α1 → Option β} {y : β} (h : zb2 x f = some y) : ∃ (a0 : α0) (a1 : α1), x = some (a0, a1) ∧ f a0 a1 = some y := by
  cases x with
  | none => cases h
  | some v => exact ⟨v.1, v.2, rfl, h⟩
def ze2 {α0 α1 ρ β : Type} (x : Option ((α0 × α1) ⊕ ρ)) (j : ρ → Option β) (f : α0 → α1 → Option β) : Option β := match x with
  | none => none
  | some (.inr r) => j r
  | some (.inl v) => f v.1 v.2
theorem ze2_e {α0 α1 ρ β : Type} {x : Option ((α0 × α1) ⊕ ρ)} {j : ρ → Option β} {f : α0 → α1 → Option β} {y : β} (h : ze2 x j f = some y) : ∃ z, x = some z ∧ (∀ (a0 : α0) (a1 : α1), (z = .inl (a0, a1) → f a0 a1 = some y)) ∧ ∀ r, z = .inr r → j r = some y := by
  cases x with
  | none => cases h
  | some z =>
    refine ⟨z, rfl, fun a0 a1 => fun e => ?_, fun r e => ?_⟩
    · subst e; exact h
    · subst e; exact h
def zl2 {α0 α1 χ : Type} (B : α0 → α1 → Option ((α0 × α1) ⊕ χ)) : Nat → α0 → α1 → Option χ
  | 0, _, _ => none
  | n + 1, a0, a1 => match B a0 a1 with
    | none => none
    | some (.inr x) => some x
    | some (.inl v) => zl2 B n v.1 v.2
def zq2 {α0 α1 χ : Type} (B : α0 → α1 → Option ((α0 × α1) ⊕ χ)) (n : Nat) (z : (α0 × α1) ⊕ χ) : Option χ := match z with
  | .inr x => some x
  | .inl v => zl2 B n v.1 v.2
theorem zl2_e {α0 α1 χ : Type} {B : α0 → α1 → Option ((α0 × α1) ⊕ χ)} {n : Nat} {a0 : α0} {a1 : α1} {x : χ} (h : zl2 B (n + 1) a0 a1 = some x) : ∃ z, B a0 a1 = some z ∧ zq2 B n z = some x := by
  unfold zl2 at h
  split at h
  · cases h
  · rename_i q; first | exact ⟨_, q, h⟩ | (rename_i q2; exact ⟨_, q2, h⟩) | exact ⟨_, rfl, h⟩
  · rename_i q; first | exact ⟨_, q, h⟩ | (rename_i q2; exact ⟨_, q2, h⟩) | exact ⟨_, rfl, h⟩
theorem zl2_b {α0 α1 χ : Type} {B : α0 → α1 → Option ((α0 × α1) ⊕ χ)} {n : Nat} {a0 : α0} {a1 : α1} {x : Option χ} (h : zl2 B n a0 a1 = x) : ∃ B1, B1 = B ∧ zl2 B1 n a0 a1 = x := ⟨B, rfl, h⟩
def zb3 {α0 α1 α2 β : Type} (x : Option (α0 × α1 × α2)) (f : α0 → α1 → α2 → Option β) : Option β := match x with
  | none => none
  | some v => f v.1 v.2.1 v.2.2
theorem zb3_e {α0 α1 α2 β : Type} {x : Option (α0 × α1 × α2)} {f : α0 → α1 → α2 → Option β} {y : β} (h : zb3 x f = some y) : ∃ (a0 : α0) (a1 : α1) (a2 : α2), x = some (a0, a1, a2) ∧ f a0 a1 a2 = some y := by
  cases x with
  | none => cases h
  | some v => exact ⟨v.1, v.2.1, v.2.2, rfl, h⟩
def ze3 {α0 α1 α2 ρ β : Type} (x : Option ((α0 × α1 × α2) ⊕ ρ)) (j : ρ → Option β) (f : α0 → α1 → α2 → Option β) : Option β := match x with
  | none => none
  | some (.inr r) => j r
  | some (.inl v) => f v.1 v.2.1 v.2.2
theorem ze3_e {α0 α1 α2 ρ β : Type} {x : Option ((α0 × α1 × α2) ⊕ ρ)} {j : ρ → Option β} {f : α0 → α1 → α2 → Option β} {y : β} (h : ze3 x j f = some y) : ∃ z, x = some z ∧ (∀ (a0 : α0) (a1 : α1) (a2 : α2), (z = .inl (a0, a1, a2) → f a0 a1 a2 = some y)) ∧ ∀ r, z = .inr r → j r = some y := by
  cases x with
  | none => cases h
  | some z =>
    refine ⟨z, rfl, fun a0 a1 a2 => fun e => ?_, fun r e => ?_⟩
    · subst e; exact h
    · subst e; exact h
def zl3 {α0 α1 α2 χ : Type} (B : α0 → α1 → α2 → Option ((α0 × α1 × α2) ⊕ χ)) : Nat → α0 → α1 → α2 → Option χ
  | 0, _, _, _ => none
  | n + 1, a0, a1, a2 => match B a0 a1 a2 with
    | none => none
    | some (.inr x) => some x
    | some (.inl v) => zl3 B n v.1 v.2.1 v.2.2
def zq3 {α0 α1 α2 χ : Type} (B : α0 → α1 → α2 → Option ((α0 × α1 × α2) ⊕ χ)) (n : Nat) (z : (α0 × α1 × α2) ⊕ χ) : Option χ := match z with
  | .inr x => some x
  | .inl v => zl3 B n v.1 v.2.1 v.2.2
theorem zl3_e {α0 α1 α2 χ : Type} {B : α0 → α1 → α2 → Option ((α0 × α1 × α2) ⊕ χ)} {n : Nat} {a0 : α0} {a1 : α1} {a2 : α2} {x : χ} (h : zl3 B (n + 1) a0 a1 a2 = some x) : ∃ z, B a0 a1 a2 = some z ∧ zq3 B n z = some x := by
  unfold zl3 at h
  split at h
  · cases h
  · rename_i q; first | exact ⟨_, q, h⟩ | (rename_i q2; exact ⟨_, q2, h⟩) | exact ⟨_, rfl, h⟩
  · rename_i q; first | exact ⟨_, q, h⟩ | (rename_i q2; exact ⟨_, q2, h⟩) | exact ⟨_, rfl, h⟩
theorem zl3_b {α0 α1 α2 χ : Type} {B : α0 → α1 → α2 → Option ((α0 × α1 × α2) ⊕ χ)} {n : Nat} {a0 : α0} {a1 : α1} {a2 : α2} {x : Option χ} (h : zl3 B n a0 a1 a2 = x) : ∃ B1, B1 = B ∧ zl3 B1 n a0 a1 a2 = x := ⟨B, rfl, h⟩
def zb4 {α0 α1 α2 α3 β : Type} (x : Option (α0 × α1 × α2 × α3)) (f : α0 → α1 → α2 → α3 → Option β) : Option β := match x with
  | none => none
  | some v => f v.1 v.2.1 v.2.2.1 v.2.2.2
theorem zb4_e {α0 α1 α2 α3 β : Type} {x : Option (α0 × α1 × α2 × α3)} {f : α0 → α1 → α2 → α3 → Option β} {y : β} (h : zb4 x f = some y) : ∃ (a0 : α0) (a1 : α1) (a2 : α2) (a3 : α3), x = some (a0, a1, a2, a3) ∧ f a0 a1 a2 a3 = some y := by
  cases x with
  | none => cases h
  | some v => exact ⟨v.1, v.2.1, v.2.2.1, v.2.2.2, rfl, h⟩
def ze4 {α0 α1 α2 α3 ρ β : Type} (x : Option ((α0 × α1 × α2 × α3) ⊕ ρ)) (j : ρ → Option β) (f : α0 → α1 → α2 → α3 → Option β) : Option β := match x with
  | none => none
  | some (.inr r) => j r
  | some (.inl v) => f v.1 v.2.1 v.2.2.1 v.2.2.2
theorem ze4_e {α0 α1 α2 α3 ρ β : Type} {x : Option ((α0 × α1 × α2 × α3) ⊕ ρ)} {j : ρ → Option β} {f : α0 → α1 → α2 → α3 → Option β} {y : β} (h : ze4 x j f = some y) : ∃ z, x = some z ∧ (∀ (a0 : α0) (a1 : α1) (a2 : α2) (a3 : α3), (z = .inl (a0, a1, a2, a3) → f a0 a1 a2 a3 = some y)) ∧ ∀ r, z = .inr r → j r = some y := by
  cases x with
  | none => cases h
  | some z =>
    refine ⟨z, rfl, fun a0 a1 a2 a3 => fun e => ?_, fun r e => ?_⟩
    · subst e; exact h
    · subst e; exact h
def zl4 {α0 α1 α2 α3 χ : Type} (B : α0 → α1 → α2 → α3 → Option ((α0 × α1 × α2 × α3) ⊕ χ)) : Nat → α0 → α1 → α2 → α3 → Option χ
  | 0, _, _, _, _ => none
  | n + 1, a0, a1, a2, a3 => match B a0 a1 a2 a3 with
    | none => none
    | some (.inr x) => some x
    | some (.inl v) => zl4 B n v.1 v.2.1 v.2.2.1 v.2.2.2
def zq4 {α0 α1 α2 α3 χ : Type} (B : α0 → α1 → α2 → α3 → Option ((α0 × α1 × α2 × α3) ⊕ χ)) (n : Nat) (z : (α0 × α1 × α2 × α3) ⊕ χ) : Option χ := match z with
  | .inr x => some x
  | .inl v => zl4 B n v.1 v.2.1 v.2.2.1 v.2.2.2
theorem zl4_e {α0 α1 α2 α3 χ : Type} {B : α0 → α1 → α2 → α3 → Option ((α0 × α1 × α2 × α3) ⊕ χ)} {n : Nat} {a0 : α0} {a1 : α1} {a2 : α2} {a3 : α3} {x : χ} (h : zl4 B (n + 1) a0 a1 a2 a3 = some x) : ∃ z, B a0 a1 a2 a3 = some z ∧ zq4 B n z = some x := by
  unfold zl4 at h
  split at h
  · cases h
  · rename_i q; first | exact ⟨_, q, h⟩ | (rename_i q2; exact ⟨_, q2, h⟩) | exact ⟨_, rfl, h⟩
  · rename_i q; first | exact ⟨_, q, h⟩ | (rename_i q2; exact ⟨_, q2, h⟩) | exact ⟨_, rfl, h⟩
theorem zl4_b {α0 α1 α2 α3 χ : Type} {B : α0 → α1 → α2 → α3 → Option ((α0 × α1 × α2 × α3) ⊕ χ)} {n : Nat} {a0 : α0} {a1 : α1} {a2 : α2} {a3 : α3} {x : Option χ} (h : zl4 B n a0 a1 a2 a3 = x) : ∃ B1, B1 = B ∧ zl4 B1 n a0 a1 a2 a3 = x := ⟨B, rfl, h⟩
def zb5 {α0 α1 α2 α3 α4 β : Type} (x : Option (α0 × α1 × α2 × α3 × α4)) (f : α0 → α1 → α2 → α3 → α4 → Option β) : Option β := match x with
  | none => none
  | some v => f v.1 v.2.1 v.2.2.1 v.2.2.2.1 v.2.2.2.2
theorem zb5_e {α0 α1 α2 α3 α4 β : Type} {x : Option (α0 × α1 × α2 × α3 × α4)} {f : α0 → α1 → α2 → α3 → α4 → Option β} {y : β} (h : zb5 x f = some y) : ∃ (a0 : α0) (a1 : α1) (a2 : α2) (a3 : α3) (a4 : α4), x = some (a0, a1, a2, a3, a4) ∧ f a0 a1 a2 a3 a4 = some y := by
  cases x with
  | none => cases h
  | some v => exact ⟨v.1, v.2.1, v.2.2.1, v.2.2.2.1, v.2.2.2.2, rfl, h⟩
def ze5 {α0 α1 α2 α3 α4 ρ β : Type} (x : Option ((α0 × α1 × α2 × α3 × α4) ⊕ ρ)) (j : ρ → Option β) (f : α0 → α1 → α2 → α3 → α4 → Option β) : Option β := match x with
  | none => none
  | some (.inr r) => j r
  | some (.inl v) => f v.1 v.2.1 v.2.2.1 v.2.2.2.1 v.2.2.2.2
theorem ze5_e {α0 α1 α2 α3 α4 ρ β : Type} {x : Option ((α0 × α1 × α2 × α3 × α4) ⊕ ρ)} {j : ρ → Option β} {f : α0 → α1 → α2 → α3 → α4 → Option β} {y : β} (h : ze5 x j f = some y) : ∃ z, x = some z ∧ (∀ (a0 : α0) (a1 : α1) (a2 : α2) (a3 : α3) (a4 : α4), (z = .inl (a0, a1, a2, a3, a4) → f a0 a1 a2 a3 a4 = some y)) ∧ ∀ r, z = .inr r → j r = some y := by
  cases x with
  | none => cases h
  | some z =>
    refine ⟨z, rfl, fun a0 a1 a2 a3 a4 => fun e => ?_, fun r e => ?_⟩
    · subst e; exact h
    · subst e; exact h
def zl5 {α0 α1 α2 α3 α4 χ : Type} (B : α0 → α1 → α2 → α3 → α4 → Option ((α0 × α1 × α2 × α3 × α4) ⊕ χ)) : Nat → α0 → α1 → α2 → α3 → α4 → Option χ
  | 0, _, _, _, _, _ => none
  | n + 1, a0, a1, a2, a3, a4 => match B a0 a1 a2 a3 a4 with
    | none => none
    | some (.inr x) => some x
    | some (.inl v) => zl5 B n v.1 v.2.1 v.2.2.1 v.2.2.2.1 v.2.2.2.2
def zq5 {α0 α1 α2 α3 α4 χ : Type} (B : α0 → α1 → α2 → α3 → α4 → Option ((α0 × α1 × α2 × α3 × α4) ⊕ χ)) (n : Nat) (z : (α0 × α1 × α2 × α3 × α4) ⊕ χ) : Option χ := match z with
  | .inr x => some x
  | .inl v => zl5 B n v.1 v.2.1 v.2.2.1 v.2.2.2.1 v.2.2.2.2
theorem zl5_e {α0 α1 α2 α3 α4 χ : Type} {B : α0 → α1 → α2 → α3 → α4 → Option ((α0 × α1 × α2 × α3 × α4) ⊕ χ)} {n : Nat} {a0 : α0} {a1 : α1} {a2 : α2} {a3 : α3} {a4 : α4} {x : χ} (h : zl5 B (n + 1) a0 a1 a2 a3 a4 = some x) : ∃ z, B a0 a1 a2 a3 a4 = some z ∧ zq5 B n z = some x := by
  unfold zl5 at h
  split at h
  · cases h
  · rename_i q; first | exact ⟨_, q, h⟩ | (rename_i q2; exact ⟨_, q2, h⟩) | exact ⟨_, rfl, h⟩
  · rename_i q; first | exact ⟨_, q, h⟩ | (rename_i q2; exact ⟨_, q2, h⟩) | exact ⟨_, rfl, h⟩
theorem zl5_b {α0 α1 α2 α3 α4 χ : Type} {B : α0 → α1 → α2 → α3 → α4 → Option ((α0 × α1 × α2 × α3 × α4) ⊕ χ)} {n : Nat} {a0 : α0} {a1 : α1} {a2 : α2} {a3 : α3} {a4 : α4} {x : Option χ} (h : zl5 B n a0 a1 a2 a3 a4 = x) : ∃ B1, B1 = B ∧ zl5 B1 n a0 a1 a2 a3 a4 = x := ⟨B, rfl, h⟩
def zb6 {α0 α1 α2 α3 α4 α5 β : Type} (x : Option (α0 × α1 × α2 × α3 × α4 × α5)) (f : α0 → α1 → α2 → α3 → α4 → α5 → Option β) : Option β := match x with
  | none => none
  | some v => f v.1 v.2.1 v.2.2.1 v.2.2.2.1 v.2.2.2.2.1 v.2.2.2.2.2
theorem zb6_e {α0 α1 α2 α3 α4 α5 β : Type} {x : Option (α0 × α1 × α2 × α3 × α4 × α5)} {f : α0 → α1 → α2 → α3 → α4 → α5 → Option β} {y : β} (h : zb6 x f = some y) : ∃ (a0 : α0) (a1 : α1) (a2 : α2) (a3 : α3) (a4 : α4) (a5 : α5), x = some (a0, a1, a2, a3, a4, a5) ∧ f a0 a1 a2 a3 a4 a5 = some y := by
  cases x with
  | none => cases h
  | some v => exact ⟨v.1, v.2.1, v.2.2.1, v.2.2.2.1, v.2.2.2.2.1, v.2.2.2.2.2, rfl, h⟩
def ze6 {α0 α1 α2 α3 α4 α5 ρ β : Type} (x : Option ((α0 × α1 × α2 × α3 × α4 × α5) ⊕ ρ)) (j : ρ → Option β) (f : α0 → α1 → α2 → α3 → α4 → α5 → Option β) : Option β := match x with
  | none => none
  | some (.inr r) => j r
  | some (.inl v) => f v.1 v.2.1 v.2.2.1 v.2.2.2.1 v.2.2.2.2.1 v.2.2.2.2.2
theorem ze6_e {α0 α1 α2 α3 α4 α5 ρ β : Type} {x : Option ((α0 × α1 × α2 × α3 × α4 × α5) ⊕ ρ)} {j : ρ → Option β} {f : α0 → α1 → α2 → α3 → α4 → α5 → Option β} {y : β} (h : ze6 x j f = some y) : ∃ z, x = some z ∧ (∀ (a0 : α0) (a1 : α1) (a2 : α2) (a3 : α3) (a4 : α4) (a5 : α5), (z = .inl (a0, a1, a2, a3, a4, a5) → f a0 a1 a2 a3 a4 a5 = some y)) ∧ ∀ r, z = .inr r → j r = some y := by
  cases x with
  | none => cases h
  | some z =>
    refine ⟨z, rfl, fun a0 a1 a2 a3 a4 a5 => fun e => ?_, fun r e => ?_⟩
    · subst e; exact h
    · subst e; exact h
def zl6 {α0 α1 α2 α3 α4 α5 χ : Type} (B : α0 → α1 → α2 → α3 → α4 → α5 → Option ((α0 × α1 × α2 × α3 × α4 × α5) ⊕ χ)) : Nat → α0 → α1 → α2 → α3 → α4 → α5 → Option χ
  | 0, _, _, _, _, _, _ => none
  | n + 1, a0, a1, a2, a3, a4, a5 => match B a0 a1 a2 a3 a4 a5 with
    | none => none
    | some (.inr x) => some x
    | some (.inl v) => zl6 B n v.1 v.2.1 v.2.2.1 v.2.2.2.1 v.2.2.2.2.1 v.2.2.2.2.2
def zq6 {α0 α1 α2 α3 α4 α5 χ : Type} (B : α0 → α1 → α2 → α3 → α4 → α5 → Option ((α0 × α1 × α2 × α3 × α4 × α5) ⊕ χ)) (n : Nat) (z : (α0 × α1 × α2 × α3 × α4 × α5) ⊕ χ) : Option χ := match z with
  | .inr x => some x
  | .inl v => zl6 B n v.1 v.2.1 v.2.2.1 v.2.2.2.1 v.2.2.2.2.1 v.2.2.2.2.2
theorem zl6_e {α0 α1 α2 α3 α4 α5 χ : Type} {B : α0 → α1 → α2 → α3 → α4 → α5 → Option ((α0 × α1 × α2 × α3 × α4 × α5) ⊕ χ)} {n : Nat} {a0 : α0} {a1 : α1} {a2 : α2} {a3 : α3} {a4 : α4} {a5 : α5} {x : χ} (h : zl6 B (n + 1) a0 a1 a2 a3 a4 a5 = some x) : ∃ z, B a0 a1 a2 a3 a4 a5 = some z ∧ zq6 B n z = some x := by
  unfold zl6 at h
  split at h
  · cases h
  · rename_i q; first | exact ⟨_, q, h⟩ | (rename_i q2; exact ⟨_, q2, h⟩) | exact ⟨_, rfl, h⟩
  · rename_i q; first | exact ⟨_, q, h⟩ | (rename_i q2; exact ⟨_, q2, h⟩) | exact ⟨_, rfl, h⟩
theorem zl6_b {α0 α1 α2 α3 α4 α5 χ : Type} {B : α0 → α1 → α2 → α3 → α4 → α5 → Option ((α0 × α1 × α2 × α3 × α4 × α5) ⊕ χ)} {n : Nat} {a0 : α0} {a1 : α1} {a2 : α2} {a3 : α3} {a4 : α4} {a5 : α5} {x : Option χ} (h : zl6 B n a0 a1 a2 a3 a4 a5 = x) : ∃ B1, B1 = B ∧ zl6 B1 n a0 a1 a2 a3 a4 a5 = x := ⟨B, rfl, h⟩
def zb7 {α0 α1 α2 α3 α4 α5 α6 β : Type} (x : Option (α0 × α1 × α2 × α3 × α4 × α5 × α6)) (f : α0 → α1 → α2 → α3 → α4 → α5 → α6 → Option β) : Option β := match x with
  | none => none
  | some v => f v.1 v.2.1 v.2.2.1 v.2.2.2.1 v.2.2.2.2.1 v.2.2.2.2.2.1 v.2.2.2.2.2.2
theorem zb7_e {α0 α1 α2 α3 α4 α5 α6 β : Type} {x : Option (α0 × α1 × α2 × α3 × α4 × α5 × α6)} {f : α0 → α1 → α2 → α3 → α4 → α5 → α6 → Option β} {y : β} (h : zb7 x f = some y) : ∃ (a0 : α0) (a1 : α1) (a2 : α2) (a3 : α3) (a4 : α4) (a5 : α5) (a6 : α6), x = some (a0, a1, a2, a3, a4, a5, a6) ∧ f a0 a1 a2 a3 a4 a5 a6 = some y := by
  cases x with
  | none => cases h
  | some v => exact ⟨v.1, v.2.1, v.2.2.1, v.2.2.2.1, v.2.2.2.2.1, v.2.2.2.2.2.1, v.2.2.2.2.2.2, rfl, h⟩
def ze7 {α0 α1 α2 α3 α4 α5 α6 ρ β : Type} (x : Option ((α0 × α1 × α2 × α3 × α4 × α5 × α6) ⊕ ρ)) (j : ρ → Option β) (f : α0 → α1 → α2 → α3 → α4 → α5 → α6 → Option β) : Option β := match x with
  | none => none
  | some (.inr r) => j r
  | some (.inl v) => f v.1 v.2.1 v.2.2.1 v.2.2.2.1 v.2.2.2.2.1 v.2.2.2.2.2.1 v.2.2.2.2.2.2
theorem ze7_e {α0 α1 α2 α3 α4 α5 α6 ρ β : Type} {x : Option ((α0 × α1 × α2 × α3 × α4 × α5 × α6) ⊕ ρ)} {j : ρ → Option β} {f : α0 → α1 → α2 → α3 → α4 → α5 → α6 → Option β} {y : β} (h : ze7 x j f = some y) : ∃ z, x = some z ∧ (∀ (a0 : α0) (a1 : α1) (a2 : α2) (a3 : α3) (a4 : α4) (a5 : α5) (a6 : α6), (z = .inl (a0, a1, a2, a3, a4, a5, a6) → f a0 a1 a2 a3 a4 a5 a6 = some y)) ∧ ∀ r, z = .inr r → j r = some y := by
  cases x with
  | none => cases h
  | some z =>
    refine ⟨z, rfl, fun a0 a1 a2 a3 a4 a5 a6 => fun e => ?_, fun r e => ?_⟩
    · subst e; exact h
    · subst e; exact h
def zl7 {α0 α1 α2 α3 α4 α5 α6 χ : Type} (B : α0 → α1 → α2 → α3 → α4 → α5 → α6 → Option ((α0 × α1 × α2 × α3 × α4 × α5 × α6) ⊕ χ)) : Nat → α0 → α1 → α2 → α3 → α4 → α5 → α6 → Option χ
  | 0, _, _, _, _, _, _, _ => none
  | n + 1, a0, a1, a2, a3, a4, a5, a6 => match B a0 a1 a2 a3 a4 a5 a6 with
    | none => none
    | some (.inr x) => some x
    | some (.inl v) => zl7 B n v.1 v.2.1 v.2.2.1 v.2.2.2.1 v.2.2.2.2.1 v.2.2.2.2.2.1 v.2.2.2.2.2.2
def zq7 {α0 α1 α2 α3 α4 α5 α6 χ : Type} (B : α0 → α1 → α2 → α3 → α4 → α5 → α6 → Option ((α0 × α1 × α2 × α3 × α4 × α5 × α6) ⊕ χ)) (n : Nat) (z : (α0 × α1 × α2 × α3 × α4 × α5 × α6) ⊕ χ) : Option χ := match z with
  | .inr x => some x
  | .inl v => zl7 B n v.1 v.2.1 v.2.2.1 v.2.2.2.1 v.2.2.2.2.1 v.2.2.2.2.2.1 v.2.2.2.2.2.2
theorem zl7_e {α0 α1 α2 α3 α4 α5 α6 χ : Type} {B : α0 → α1 → α2 → α3 → α4 → α5 → α6 → Option ((α0 × α1 × α2 × α3 × α4 × α5 × α6) ⊕ χ)} {n : Nat} {a0 : α0} {a1 : α1} {a2 : α2} {a3 : α3} {a4 : α4} {a5 : α5} {a6 : α6} {x : χ} (h : zl7 B (n + 1) a0 a1 a2 a3 a4 a5 a6 = some x) : ∃ z, B a0 a1 a2 a3 a4 a5 a6 = some z ∧ zq7 B n z = some x := by
  unfold zl7 at h
  split at h
  · cases h
  · rename_i q; first | exact ⟨_, q, h⟩ | (rename_i q2; exact ⟨_, q2, h⟩) | exact ⟨_, rfl, h⟩
  · rename_i q; first | exact ⟨_, q, h⟩ | (rename_i q2; exact ⟨_, q2, h⟩) | exact ⟨_, rfl, h⟩
theorem zl7_b {α0 α1 α2 α3 α4 α5 α6 χ : Type} {B : α0 → α1 → α2 → α3 → α4 → α5 → α6 → Option ((α0 × α1 × α2 × α3 × α4 × α5 × α6) ⊕ χ)} {n : Nat} {a0 : α0} {a1 : α1} {a2 : α2} {a3 : α3} {a4 : α4} {a5 : α5} {a6 : α6} {x : Option χ} (h : zl7 B n a0 a1 a2 a3 a4 a5 a6 = x) : ∃ B1, B1 = B ∧ zl7 B1 n a0 a1 a2 a3 a4 a5 a6 = x := ⟨B, rfl, h⟩
def zb8 {α0 α1 α2 α3 α4 α5 α6 α7 β : Type} (x : Option (α0 × α1 × α2 × α3 × α4 × α5 × α6 × α7)) (f : α0 → α1 → α2 → α3 → α4 → α5 → α6 → α7 → Option β) : Option β := match x with
  | none => none
  | some v => f v.1 v.2.1 v.2.2.1 v.2.2.2.1 v.2.2.2.2.1 v.2.2.2.2.2.1 v.2.2.2.2.2.2.1 v.2.2.2.2.2.2.2
theorem zb8_e {α0 α1 α2 α3 α4 α5 α6 α7 β : Type} {x : Option (α0 × α1 × α2 × α3 × α4 × α5 × α6 × α7)} {f : α0 → α1 → α2 → α3 → α4 → α5 → α6 → α7 → Option β} {y : β} (h : zb8 x f = some y) : ∃ (a0 : α0) (a1 : α1) (a2 : α2) (a3 : α3) (a4 : α4) (a5 : α5) (a6 : α6) (a7 : α7), x = some (a0, a1, a2, a3, a4, a5, a6, a7) ∧ f a0 a1 a2 a3 a4 a5 a6 a7 = some y := by
  cases x with
  | none => cases h
  | some v => exact ⟨v.1, v.2.1, v.2.2.1, v.2.2.2.1, v.2.2.2.2.1, v.2.2.2.2.2.1, v.2.2.2.2.2.2.1, v.2.2.2.2.2.2.2, rfl, h⟩
def ze8 {α0 α1 α2 α3 α4 α5 α6 α7 ρ β : Type} (x : Option ((α0 × α1 × α2 × α3 × α4 × α5 × α6 × α7) ⊕ ρ)) (j : ρ → Option β) (f : α0 → α1 → α2 → α3 → α4 → α5 → α6 → α7 → Option β) : Option β := match x with
  | none => none
  | some (.inr r) => j r
  | some (.inl v) => f v.1 v.2.1 v.2.2.1 v.2.2.2.1 v.2.2.2.2.1 v.2.2.2.2.2.1 v.2.2.2.2.2.2.1 v.2.2.2.2.2.2.2
theorem ze8_e {α0 α1 α2 α3 α4 α5 α6 α7 ρ β : Type} {x : Option ((α0 × α1 × α2 × α3 × α4 × α5 × α6 × α7) ⊕ ρ)} {j : ρ → Option β} {f : α0 → α1 → α2 → α3 → α4 → α5 → α6 → α7 → Option β} {y : β} (h : ze8 x j f = some y) : ∃ z, x = some z ∧ (∀ (a0 : α0) (a1 : α1) (a2 : α2) (a3 : α3) (a4 : α4) (a5 : α5) (a6 : α6) (a7 : α7), (z = .inl (a0, a1, a2, a3, a4, a5, a6, a7) → f a0 a1 a2 a3 a4 a5 a6 a7 = some y)) ∧ ∀ r, z = .inr r → j r = some y := by
  cases x with
  | none => cases h
  | some z =>
    refine ⟨z, rfl, fun a0 a1 a2 a3 a4 a5 a6 a7 => fun e => ?_, fun r e => ?_⟩
    · subst e; exact h
    · subst e; exact h
def zl8 {α0 α1 α2 α3 α4 α5 α6 α7 χ : Type} (B : α0 → α1 → α2 → α3 → α4 → α5 → α6 → α7 → Option ((α0 × α1 × α2 × α3 × α4 × α5 × α6 × α7) ⊕ χ)) : Nat → α0 → α1 → α2 → α3 → α4 → α5 → α6 → α7 → Option χ
  | 0, _, _, _, _, _, _, _, _ => none
  | n + 1, a0, a1, a2, a3, a4, a5, a6, a7 => match B a0 a1 a2 a3 a4 a5 a6 a7 with
    | none => none
    | some (.inr x) => some x
    | some (.inl v) => zl8 B n v.1 v.2.1 v.2.2.1 v.2.2.2.1 v.2.2.2.2.1 v.2.2.2.2.2.1 v.2.2.2.2.2.2.1 v.2.2.2.2.2.2.2
def zq8 {α0 α1 α2 α3 α4 α5 α6 α7 χ : Type} (B : α0 → α1 → α2 → α3 → α4 → α5 → α6 → α7 → Option ((α0 × α1 × α2 × α3 × α4 × α5 × α6 × α7) ⊕ χ)) (n : Nat) (z : (α0 × α1 × α2 × α3 × α4 × α5 × α6 × α7) ⊕ χ) : Option χ := match z with
  | .inr x => some x
  | .inl v => zl8 B n v.1 v.2.1 v.2.2.1 v.2.2.2.1 v.2.2.2.2.1 v.2.2.2.2.2.1 v.2.2.2.2.2.2.1 v.2.2.2.2.2.2.2
theorem zl8_e {α0 α1 α2 α3 α4 α5 α6 α7 χ : Type} {B : α0 → α1 → α2 → α3 → α4 → α5 → α6 → α7 → Option ((α0 × α1 × α2 × α3 × α4 × α5 × α6 × α7) ⊕ χ)} {n : Nat} {a0 : α0} {a1 : α1} {a2 : α2} {a3 : α3} {a4 : α4} {a5 : α5} {a6 : α6} {a7 : α7} {x : χ} (h : zl8 B (n + 1) a0 a1 a2 a3 a4 a5 a6 a7 = some x) : ∃ z, B a0 a1 a2 a3 a4 a5 a6 a7 = some z ∧ zq8 B n z = some x := by
  unfold zl8 at h
  split at h
  · cases h
  · rename_i q; first | exact ⟨_, q, h⟩ | (rename_i q2; exact ⟨_, q2, h⟩) | exact ⟨_, rfl, h⟩
  · rename_i q; first | exact ⟨_, q, h⟩ | (rename_i q2; exact ⟨_, q2, h⟩) | exact ⟨_, rfl, h⟩
theorem zl8_b {α0 α1 α2 α3 α4 α5 α6 α7 χ : Type} {B : α0 → α1 → α2 → α3 → α4 → α5 → α6 → α7 → Option ((α0 × α1 × α2 × α3 × α4 × α5 × α6 × α7) ⊕ χ)} {n : Nat} {a0 : α0} {a1 : α1} {a2 : α2} {a3 : α3} {a4 : α4} {a5 : α5} {a6 : α6} {a7 : α7} {x : Option χ} (h : zl8 B n a0 a1 a2 a3 a4 a5 a6 a7 = x) : ∃ B1, B1 = B ∧ zl8 B1 n a0 a1 a2 a3 a4 a5 a6 a7 = x := ⟨B, rfl, h⟩
def zb9 {α0 α1 α2 α3 α4 α5 α6 α7 α8 β : Type} (x : Option (α0 × α1 × α2 × α3 × α4 × α5 × α6 × α7 × α8)) (f : α0 → α1 → α2 → α3 → α4 → α5 → α6 → α7 → α8 → Option β) : Option β := match x with
  | none => none
  | some v => f v.1 v.2.1 v.2.2.1 v.2.2.2.1 v.2.2.2.2.1 v.2.2.2.2.2.1 v.2.2.2.2.2.2.1 v.2.2.2.2.2.2.2.1 v.2.2.2.2.2.2.2.2
theorem zb9_e {α0 α1 α2 α3 α4 α5 α6 α7 α8 β : Type} {x : Option (α0 × α1 × α2 × α3 × α4 × α5 × α6 × α7 × α8)} {f : α0 → α1 → α2 → α3 → α4 → α5 → α6 → α7 → α8 → Option β} {y : β} (h : zb9 x f = some y) : ∃ (a0 : α0) (a1 : α1) (a2 : α2) (a3 : α3) (a4 : α4) (a5 : α5) (a6 : α6) (a7 : α7) (a8 : α8), x = some (a0, a1, a2, a3, a4, a5, a6, a7, a8) ∧ f a0 a1 a2 a3 a4 a5 a6 a7 a8 = some y := by
  cases x with
  | none => cases h
  | some v => exact ⟨v.1, v.2.1, v.2.2.1, v.2.2.2.1, v.2.2.2.2.1, v.2.2.2.2.2.1, v.2.2.2.2.2.2.1, v.2.2.2.2.2.2.2.1, v.2.2.2.2.2.2.2.2, rfl, h⟩
def ze9 {α0 α1 α2 α3 α4 α5 α6 α7 α8 ρ β : Type} (x : Option ((α0 × α1 × α2 × α3 × α4 × α5 × α6 × α7 × α8) ⊕ ρ)) (j : ρ → Option β) (f : α0 → α1 → α2 → α3 → α4 → α5 → α6 → α7 → α8 → Option β) : Option β := match x with
  | none => none
  | some (.inr r) => j r
  | some (.inl v) => f v.1 v.2.1 v.2.2.1 v.2.2.2.1 v.2.2.2.2.1 v.2.2.2.2.2.1 v.2.2.2.2.2.2.1 v.2.2.2.2.2.2.2.1 v.2.2.2.2.2.2.2.2
theorem ze9_e {α0 α1 α2 α3 α4 α5 α6 α7 α8 ρ β : Type} {x : Option ((α0 × α1 × α2 × α3 × α4 × α5 × α6 × α7 × α8) ⊕ ρ)} {j : ρ → Option β} {f : α0 → α1 → α2 → α3 → α4 → α5 → α6 → α7 → α8 → Option β} {y : β} (h : ze9 x j f = some y) : ∃ z, x = some z ∧ (∀ (a0 : α0) (a1 : α1) (a2 : α2) (a3 : α3) (a4 : α4) (a5 : α5) (a6 : α6) (a7 : α7) (a8 : α8), (z = .inl (a0, a1, a2, a3, a4, a5, a6, a7, a8) → f a0 a1 a2 a3 a4 a5 a6 a7 a8 = some y)) ∧ ∀ r, z = .inr r → j r = some y := by
  cases x with
  | none => cases h
  | some z =>
    refine ⟨z, rfl, fun a0 a1 a2 a3 a4 a5 a6 a7 a8 => fun e => ?_, fun r e => ?_⟩
    · subst e; exact h
    · subst e; exact h
def zl9 {α0 α1 α2 α3 α4 α5 α6 α7 α8 χ : Type} (B : α0 → α1 → α2 → α3 → α4 → α5 → α6 → α7 → α8 → Option ((α0 × α1 × α2 × α3 × α4 × α5 × α6 × α7 × α8) ⊕ χ)) : Nat → α0 → α1 → α2 → α3 → α4 → α5 → α6 → α7 → α8 → Option χ
  | 0, _, _, _, _, _, _, _, _, _ => none
  | n + 1, a0, a1, a2, a3, a4, a5, a6, a7, a8 => match B a0 a1 a2 a3 a4 a5 a6 a7 a8 with
    | none => none
    | some (.inr x) => some x
    | some (.inl v) => zl9 B n v.1 v.2.1 v.2.2.1 v.2.2.2.1 v.2.2.2.2.1 v.2.2.2.2.2.1 v.2.2.2.2.2.2.1 v.2.2.2.2.2.2.2.1 v.2.2.2.2.2.2.2.2
def zq9 {α0 α1 α2 α3 α4 α5 α6 α7 α8 χ : Type} (B : α0 → α1 → α2 → α3 → α4 → α5 → α6 → α7 → α8 → Option ((α0 × α1 × α2 × α3 × α4 × α5 × α6 × α7 × α8) ⊕ χ)) (n : Nat) (z : (α0 × α1 × α2 × α3 × α4 × α5 × α6 × α7 × α8) ⊕ χ) : Option χ := match z with
  | .inr x => some x
  | .inl v => zl9 B n v.1 v.2.1 v.2.2.1 v.2.2.2.1 v.2.2.2.2.1 v.2.2.2.2.2.1 v.2.2.2.2.2.2.1 v.2.2.2.2.2.2.2.1 v.2.2.2.2.2.2.2.2
theorem zl9_e {α0 α1 α2 α3 α4 α5 α6 α7 α8 χ : Type} {B : α0 → α1 → α2 → α3 → α4 → α5 → α6 → α7 → α8 → Option ((α0 × α1 × α2 × α3 × α4 × α5 × α6 × α7 × α8) ⊕ χ)} {n : Nat} {a0 : α0} {a1 : α1} {a2 : α2} {a3 : α3} {a4 : α4} {a5 : α5} {a6 : α6} {a7 : α7} {a8 : α8} {x : χ} (h : zl9 B (n + 1) a0 a1 a2 a3 a4 a5 a6 a7 a8 = some x) : ∃ z, B a0 a1 a2 a3 a4 a5 a6 a7 a8 = some z ∧ zq9 B n z = some x := by
  unfold zl9 at h
  split at h
  · cases h
  · rename_i q; first | exact ⟨_, q, h⟩ | (rename_i q2; exact ⟨_, q2, h⟩) | exact ⟨_, rfl, h⟩
  · rename_i q; first | exact ⟨_, q, h⟩ | (rename_i q2; exact ⟨_, q2, h⟩) | exact ⟨_, rfl, h⟩
theorem zl9_b {α0 α1 α2 α3 α4 α5 α6 α7 α8 χ : Type} {B : α0 → α1 → α2 → α3 → α4 → α5 → α6 → α7 → α8 → Option ((α0 × α1 × α2 × α3 × α4 × α5 × α6 × α7 × α8) ⊕ χ)} {n : Nat} {a0 : α0} {a1 : α1} {a2 : α2} {a3 : α3} {a4 : α4} {a5 : α5} {a6 : α6} {a7 : α7} {a8 : α8} {x : Option χ} (h : zl9 B n a0 a1 a2 a3 a4 a5 a6 a7 a8 = x) : ∃ B1, B1 = B ∧ zl9 B1 n a0 a1 a2 a3 a4 a5 a6 a7 a8 = x := ⟨B, rfl, h⟩
def zb10 {α0 α1 α2 α3 α4 α5 α6 α7 α8 α9 β : Type} (x : Option (α0 × α1 × α2 × α3 × α4 × α5 × α6 × α7 × α8 × α9)) (f : α0 → α1 → α2 → α3 → α4 → α5 → α6 → α7 → α8 → α9 → Option β) : Option β := match x with
  | none => none
  | some v => f v.1 v.2.1 v.2.2.1 v.2.2.2.1 v.2.2.2.2.1 v.2.2.2.2.2.1 v.2.2.2.2.2.2.1 v.2.2.2.2.2.2.2.1 v.2.2.2.2.2.2.2.2.1 v.2.2.2.2.2.2.2.2.2
theorem zb10_e {α0 α1 α2 α3 α4 α5 α6 α7 α8 α9 β : Type} {x : Option (α0 × α1 × α2 × α3 × α4 × α5 × α6 × α7 × α8 × α9)} {f : α0 → α1 → α2 → α3 → α4 → α5 → α6 → α7 → α8 → α9 → Option β} {y : β} (h : zb10 x f = some y) : ∃ (a0 : α0) (a1 : α1) (a2 : α2) (a3 : α3) (a4 : α4) (a5 : α5) (a6 : α6) (a7 : α7) (a8 : α8) (a9 : α9), x = some (a0, a1, a2, a3, a4, a5, a6, a7, a8, a9) ∧ f a0 a1 a2 a3 a4 a5 a6 a7 a8 a9 = some y := by
  cases x with
  | none => cases h
  | some v => exact ⟨v.1, v.2.1, v.2.2.1, v.2.2.2.1, v.2.2.2.2.1, v.2.2.2.2.2.1, v.2.2.2.2.2.2.1, v.2.2.2.2.2.2.2.1, v.2.2.2.2.2.2.2.2.1, v.2.2.2.2.2.2.2.2.2, rfl, h⟩
def ze10 {α0 α1 α2 α3 α4 α5 α6 α7 α8 α9 ρ β : Type} (x : Option ((α0 × α1 × α2 × α3 × α4 × α5 × α6 × α7 × α8 × α9) ⊕ ρ)) (j : ρ → Option β) (f : α0 → α1 → α2 → α3 → α4 → α5 → α6 → α7 → α8 → α9 → Option β) : Option β := match x with
  | none => none
  | some (.inr r) => j r
  | some (.inl v) => f v.1 v.2.1 v.2.2.1 v.2.2.2.1 v.2.2.2.2.1 v.2.2.2.2.2.1 v.2.2.2.2.2.2.1 v.2.2.2.2.2.2.2.1 v.2.2.2.2.2.2.2.2.1 v.2.2.2.2.2.2.2.2.2
theorem ze10_e {α0 α1 α2 α3 α4 α5 α6 α7 α8 α9 ρ β : Type} {x : Option ((α0 × α1 × α2 × α3 × α4 × α5 × α6 × α7 × α8 × α9) ⊕ ρ)} {j : ρ → Option β} {f : α0 → α1 → α2 → α3 → α4 → α5 → α6 → α7 → α8 → α9 → Option β} {y : β} (h : ze10 x j f = some y) : ∃ z, x = some z ∧ (∀ (a0 : α0) (a1 : α1) (a2 : α2) (a3 : α3) (a4 : α4) (a5 : α5) (a6 : α6) (a7 : α7) (a8 : α8) (a9 : α9), (z = .inl (a0, a1, a2, a3, a4, a5, a6, a7, a8, a9) → f a0 a1 a2 a3 a4 a5 a6 a7 a8 a9 = some y)) ∧ ∀ r, z = .inr r → j r = some y := by
  cases x with
  | none => cases h
  | some z =>
    refine ⟨z, rfl, fun a0 a1 a2 a3 a4 a5 a6 a7 a8 a9 => fun e => ?_, fun r e => ?_⟩
    · subst e; exact h
    · subst e; exact h
def zl10 {α0 α1 α2 α3 α4 α5 α6 α7 α8 α9 χ : Type} (B : α0 → α1 → α2 → α3 → α4 → α5 → α6 → α7 → α8 → α9 → Option ((α0 × α1 × α2 × α3 × α4 × α5 × α6 × α7 × α8 × α9) ⊕ χ)) : Nat → α0 → α1 → α2 → α3 → α4 → α5 → α6 → α7 → α8 → α9 → Option χ
  | 0, _, _, _, _, _, _, _, _, _, _ => none
  | n + 1, a0, a1, a2, a3, a4, a5, a6, a7, a8, a9 => match B a0 a1 a2 a3 a4 a5 a6 a7 a8 a9 with
    | none => none
    | some (.inr x) => some x
    | some (.inl v) => zl10 B n v.1 v.2.1 v.2.2.1 v.2.2.2.1 v.2.2.2.2.1 v.2.2.2.2.2.1 v.2.2.2.2.2.2.1 v.2.2.2.2.2.2.2.1 v.2.2.2.2.2.2.2.2.1 v.2.2.2.2.2.2.2.2.2
def zq10 {α0 α1 α2 α3 α4 α5 α6 α7 α8 α9 χ : Type} (B : α0 → α1 → α2 → α3 → α4 → α5 → α6 → α7 → α8 → α9 → Option ((α0 × α1 × α2 × α3 × α4 × α5 × α6 × α7 × α8 × α9) ⊕ χ)) (n : Nat) (z : (α0 × α1 × α2 × α3 × α4 × α5 × α6 × α7 × α8 × α9) ⊕ χ) : Option χ := match z with
  | .inr x => some x
  | .inl v => zl10 B n v.1 v.2.1 v.2.2.1 v.2.2.2.1 v.2.2.2.2.1 v.2.2.2.2.2.1 v.2.2.2.2.2.2.1 v.2.2.2.2.2.2.2.1 v.2.2.2.2.2.2.2.2.1 v.2.2.2.2.2.2.2.2.2
theorem zl10_e {α0 α1 α2 α3 α4 α5 α6 α7 α8 α9 χ : Type} {B : α0 → α1 → α2 → α3 → α4 → α5 → α6 → α7 → α8 → α9 → Option ((α0 × α1 × α2 × α3 × α4 × α5 × α6 × α7 × α8 × α9) ⊕ χ)} {n : Nat} {a0 : α0} {a1 : α1} {a2 : α2} {a3 : α3} {a4 : α4} {a5 : α5} {a6 : α6} {a7 : α7} {a8 : α8} {a9 : α9} {x : χ} (h : zl10 B (n + 1) a0 a1 a2 a3 a4 a5 a6 a7 a8 a9 = some x) : ∃ z, B a0 a1 a2 a3 a4 a5 a6 a7 a8 a9 = some z ∧ zq10 B n z = some x := by
  unfold zl10 at h
  split at h
  · cases h
  · rename_i q; first | exact ⟨_, q, h⟩ | (rename_i q2; exact ⟨_, q2, h⟩) | exact ⟨_, rfl, h⟩
  · rename_i q; first | exact ⟨_, q, h⟩ | (rename_i q2; exact ⟨_, q2, h⟩) | exact ⟨_, rfl, h⟩
theorem zl10_b {α0 α1 α2 α3 α4 α5 α6 α7 α8 α9 χ : Type} {B : α0 → α1 → α2 → α3 → α4 → α5 → α6 → α7 → α8 → α9 → Option ((α0 × α1 × α2 × α3 × α4 × α5 × α6 × α7 × α8 × α9) ⊕ χ)} {n : Nat} {a0 : α0} {a1 : α1} {a2 : α2} {a3 : α3} {a4 : α4} {a5 : α5} {a6 : α6} {a7 : α7} {a8 : α8} {a9 : α9} {x : Option χ} (h : zl10 B n a0 a1 a2 a3 a4 a5 a6 a7 a8 a9 = x) : ∃ B1, B1 = B ∧ zl10 B1 n a0 a1 a2 a3 a4 a5 a6 a7 a8 a9 = x := ⟨B, rfl, h⟩
def zb11 {α0 α1 α2 α3 α4 α5 α6 α7 α8 α9 α10 β : Type} (x : Option (α0 × α1 × α2 × α3 × α4 × α5 × α6 × α7 × α8 × α9 × α10)) (f : α0 → α1 → α2 → α3 → α4 → α5 → α6 → α7 → α8 → α9 → α10 → Option β) : Option β := match x with
  | none => none
  | some v => f v.1 v.2.1 v.2.2.1 v.2.2.2.1 v.2.2.2.2.1 v.2.2.2.2.2.1 v.2.2.2.2.2.2.1 v.2.2.2.2.2.2.2.1 v.2.2.2.2.2.2.2.2.1 v.2.2.2.2.2.2.2.2.2.1 v.2.2.2.2.2.2.2.2.2.2
theorem zb11_e {α0 α1 α2 α3 α4 α5 α6 α7 α8 α9 α10 β : Type} {x : Option (α0 × α1 × α2 × α3 × α4 × α5 × α6 × α7 × α8 × α9 × α10)} {f : α0 → α1 → α2 → α3 → α4 → α5 → α6 → α7 → α8 → α9 → α10 → Option β} {y : β} (h : zb11 x f = some y) : ∃ (a0 : α0) (a1 : α1) (a2 : α2) (a3 : α3) (a4 : α4) (a5 : α5) (a6 : α6) (a7 : α7) (a8 : α8) (a9 : α9) (a10 : α10), x = some (a0, a1, a2, a3, a4, a5, a6, a7, a8, a9, a10) ∧ f a0 a1 a2 a3 a4 a5 a6 a7 a8 a9 a10 = some y := by
  cases x with
  | none => cases h
  | some v => exact ⟨v.1, v.2.1, v.2.2.1, v.2.2.2.1, v.2.2.2.2.1, v.2.2.2.2.2.1, v.2.2.2.2.2.2.1, v.2.2.2.2.2.2.2.1, v.2.2.2.2.2.2.2.2.1, v.2.2.2.2.2.2.2.2.2.1, v.2.2.2.2.2.2.2.2.2.2, rfl, h⟩
def ze11 {α0 α1 α2 α3 α4 α5 α6 α7 α8 α9 α10 ρ β : Type} (x : Option ((α0 × α1 × α2 × α3 × α4 × α5 × α6 × α7 × α8 × α9 × α10) ⊕ ρ)) (j : ρ → Option β) (f : α0 → α1 → α2 → α3 → α4 → α5 → α6 → α7 → α8 → α9 → α10 → Option β) : Option β := match x with
  | none => none
  | some (.inr r) => j r
  | some (.inl v) => f v.1 v.2.1 v.2.2.1 v.2.2.2.1 v.2.2.2.2.1 v.2.2.2.2.2.1 v.2.2.2.2.2.2.1 v.2.2.2.2.2.2.2.1 v.2.2.2.2.2.2.2.2.1 v.2.2.2.2.2.2.2.2.2.1 v.2.2.2.2.2.2.2.2.2.2
theorem ze11_e {α0 α1 α2 α3 α4 α5 α6 α7 α8 α9 α10 ρ β : Type} {x : Option ((α0 × α1 × α2 × α3 × α4 × α5 × α6 × α7 × α8 × α9 × α10) ⊕ ρ)} {j : ρ → Option β} {f : α0 → α1 → α2 → α3 → α4 → α5 → α6 → α7 → α8 → α9 → α10 → Option β} {y : β} (h : ze11 x j f = some y) : ∃ z, x = some z ∧ (∀ (a0 : α0) (a1 : α1) (a2 : α2) (a3 : α3) (a4 : α4) (a5 : α5) (a6 : α6) (a7 : α7) (a8 : α8) (a9 : α9) (a10 : α10), (z = .inl (a0, a1, a2, a3, a4, a5, a6, a7, a8, a9, a10) → f a0 a1 a2 a3 a4 a5 a6 a7 a8 a9 a10 = some y)) ∧ ∀ r, z = .inr r → j r = some y := by
  cases x with
  | none => cases h
  | some z =>
    refine ⟨z, rfl, fun a0 a1 a2 a3 a4 a5 a6 a7 a8 a9 a10 => fun e => ?_, fun r e => ?_⟩
    · subst e; exact h
    · subst e; exact h
def zl11 {α0 α1 α2 α3 α4 α5 α6 α7 α8 α9 α10 χ : Type} (B : α0 → α1 → α2 → α3 → α4 → α5 → α6 → α7 → α8 → α9 → α10 → Option ((α0 × α1 × α2 × α3 × α4 × α5 × α6 × α7 × α8 × α9 × α10) ⊕ χ)) : Nat → α0 → α1 → α2 → α3 → α4 → α5 → α6 → α7 → α8 → α9 → α10 → Option χ
  | 0, _, _, _, _, _, _, _, _, _, _, _ => none
  | n + 1, a0, a1, a2, a3, a4, a5, a6, a7, a8, a9, a10 => match B a0 a1 a2 a3 a4 a5 a6 a7 a8 a9 a10 with
    | none => none
    | some (.inr x) => some x
    | some (.inl v) => zl11 B n v.1 v.2.1 v.2.2.1 v.2.2.2.1 v.2.2.2.2.1 v.2.2.2.2.2.1 v.2.2.2.2.2.2.1 v.2.2.2.2.2.2.2.1 v.2.2.2.2.2.2.2.2.1 v.2.2.2.2.2.2.2.2.2.1 v.2.2.2.2.2.2.2.2.2.2
def zq11 {α0 α1 α2 α3 α4 α5 α6 α7 α8 α9 α10 χ : Type} (B : α0 → α1 → α2 → α3 → α4 → α5 → α6 → α7 → α8 → α9 → α10 → Option ((α0 × α1 × α2 × α3 × α4 × α5 × α6 × α7 × α8 × α9 × α10) ⊕ χ)) (n : Nat) (z : (α0 × α1 × α2 × α3 × α4 × α5 × α6 × α7 × α8 × α9 × α10) ⊕ χ) : Option χ := match z with
  | .inr x => some x
  | .inl v => zl11 B n v.1 v.2.1 v.2.2.1 v.2.2.2.1 v.2.2.2.2.1 v.2.2.2.2.2.1 v.2.2.2.2.2.2.1 v.2.2.2.2.2.2.2.1 v.2.2.2.2.2.2.2.2.1 v.2.2.2.2.2.2.2.2.2.1 v.2.2.2.2.2.2.2.2.2.2
theorem zl11_e {α0 α1 α2 α3 α4 α5 α6 α7 α8 α9 α10 χ : Type} {B : α0 → α1 → α2 → α3 → α4 → α5 → α6 → α7 → α8 → α9 → α10 → Option ((α0 × α1 × α2 × α3 × α4 × α5 × α6 × α7 × α8 × α9 × α10) ⊕ χ)} {n : Nat} {a0 : α0} {a1 : α1} {a2 : α2} {a3 : α3} {a4 : α4} {a5 : α5} {a6 : α6} {a7 : α7} {a8 : α8} {a9 : α9} {a10 : α10} {x : χ} (h : zl11 B (n + 1) a0 a1 a2 a3 a4 a5 a6 a7 a8 a9 a10 = some x) : ∃ z, B a0 a1 a2 a3 a4 a5 a6 a7 a8 a9 a10 = some z ∧ zq11 B n z = some x := by
  unfold zl11 at h
  split at h
  · cases h
  · rename_i q; first | exact ⟨_, q, h⟩ | (rename_i q2; exact ⟨_, q2, h⟩) | exact ⟨_, rfl, h⟩
  · rename_i q; first | exact ⟨_, q, h⟩ | (rename_i q2; exact ⟨_, q2, h⟩) | exact ⟨_, rfl, h⟩
theorem zl11_b {α0 α1 α2 α3 α4 α5 α6 α7 α8 α9 α10 χ : Type} {B : α0 → α1 → α2 → α3 → α4 → α5 → α6 → α7 → α8 → α9 → α10 → Option ((α0 × α1 × α2 × α3 × α4 × α5 × α6 × α7 × α8 × α9 × α10) ⊕ χ)} {n : Nat} {a0 : α0} {a1 : α1} {a2 : α2} {a3 : α3} {a4 : α4} {a5 : α5} {a6 : α6} {a7 : α7} {a8 : α8} {a9 : α9} {a10 : α10} {x : Option χ} (h : zl11 B n a0 a1 a2 a3 a4 a5 a6 a7 a8 a9 a10 = x) : ∃ B1, B1 = B ∧ zl11 B1 n a0 a1 a2 a3 a4 a5 a6 a7 a8 a9 a10 = x := ⟨B, rfl, h⟩
def zb12 {α0 α1 α2 α3 α4 α5 α6 α7 α8 α9 α10 α11 β : Type} (x : Option (α0 × α1 × α2 × α3 × α4 × α5 × α6 × α7 × α8 × α9 × α10 × α11)) (f : α0 → α1 → α2 → α3 → α4 → α5 → α6 → α7 → α8 → α9 → α10 → α11 → Option β) : Option β := match x with
  | none => none
  | some v => f v.1 v.2.1 v.2.2.1 v.2.2.2.1 v.2.2.2.2.1 v.2.2.2.2.2.1 v.2.2.2.2.2.2.1 v.2.2.2.2.2.2.2.1 v.2.2.2.2.2.2.2.2.1 v.2.2.2.2.2.2.2.2.2.1 v.2.2.2.2.2.2.2.2.2.2.1 v.2.2.2.2.2.2.2.2.2.2.2
theorem zb12_e {α0 α1 α2 α3 α4 α5 α6 α7 α8 α9 α10 α11 β : Type} {x : Option (α0 × α1 × α2 × α3 × α4 × α5 × α6 × α7 × α8 × α9 × α10 × α11)} {f : α0 → α1 → α2 → α3 → α4 → α5 → α6 → α7 → α8 → α9 → α10 → α11 → Option β} {y : β} (h : zb12 x f = some y) : ∃ (a0 : α0) (a1 : α1) (a2 : α2) (a3 : α3) (a4 : α4) (a5 : α5) (a6 : α6) (a7 : α7) (a8 : α8) (a9 : α9) (a10 : α10) (a11 : α11), x = some (a0, a1, a2, a3, a4, a5, a6, a7, a8, a9, a10, a11) ∧ f a0 a1 a2 a3 a4 a5 a6 a7 a8 a9 a10 a11 = some y := by
  cases x with
  | none => cases h
  | some v => exact ⟨v.1, v.2.1, v.2.2.1, v.2.2.2.1, v.2.2.2.2.1, v.2.2.2.2.2.1, v.2.2.2.2.2.2.1, v.2.2.2.2.2.2.2.1, v.2.2.2.2.2.2.2.2.1, v.2.2.2.2.2.2.2.2.2.1, v.2.2.2.2.2.2.2.2.2.2.1, v.2.2.2.2.2.2.2.2.2.2.2, rfl, h⟩
def ze12 {α0 α1 α2 α3 α4 α5 α6 α7 α8 α9 α10 α11 ρ β : Type} (x : Option ((α0 × α1 × α2 × α3 × α4 × α5 × α6 × α7 × α8 × α9 × α10 × α11) ⊕ ρ)) (j : ρ → Option β) (f : α0 → α1 → α2 → α3 → α4 → α5 → α6 → α7 → α8 → α9 → α10 → α11 → Option β) : Option β := match x with
  | none => none
  | some (.inr r) => j r
  | some (.inl v) => f v.1 v.2.1 v.2.2.1 v.2.2.2.1 v.2.2.2.2.1 v.2.2.2.2.2.1 v.2.2.2.2.2.2.1 v.2.2.2.2.2.2.2.1 v.2.2.2.2.2.2.2.2.1 v.2.2.2.2.2.2.2.2.2.1 v.2.2.2.2.2.2.2.2.2.2.1 v.2.2.2.2.2.2.2.2.2.2.2
theorem ze12_e {α0 α1 α2 α3 α4 α5 α6 α7 α8 α9 α10 α11 ρ β : Type} {x : Option ((α0 × α1 × α2 × α3 × α4 × α5 × α6 × α7 × α8 × α9 × α10 × α11) ⊕ ρ)} {j : ρ → Option β} {f : α0 → α1 → α2 → α3 → α4 → α5 → α6 → α7 → α8 → α9 → α10 → α11 → Option β} {y : β} (h : ze12 x j f = some y) : ∃ z, x = some z ∧ (∀ (a0 : α0) (a1 : α1) (a2 : α2) (a3 : α3) (a4 : α4) (a5 : α5) (a6 : α6) (a7 : α7) (a8 : α8) (a9 : α9) (a10 : α10) (a11 : α11), (z = .inl (a0, a1, a2, a3, a4, a5, a6, a7, a8, a9, a10, a11) → f a0 a1 a2 a3 a4 a5 a6 a7 a8 a9 a10 a11 = some y)) ∧ ∀ r, z = .inr r → j r = some y := by
  cases x with
  | none => cases h
  | some z =>
    refine ⟨z, rfl, fun a0 a1 a2 a3 a4 a5 a6 a7 a8 a9 a10 a11 => fun e => ?_, fun r e => ?_⟩
    · subst e; exact h
    · subst e; exact h
def zl12 {α0 α1 α2 α3 α4 α5 α6 α7 α8 α9 α10 α11 χ : Type} (B : α0 → α1 → α2 → α3 → α4 → α5 → α6 → α7 → α8 → α9 → α10 → α11 → Option ((α0 × α1 × α2 × α3 × α4 × α5 × α6 × α7 × α8 × α9 × α10 × α11) ⊕ χ)) : Nat → α0 → α1 → α2 → α3 → α4 → α5 → α6 → α7 → α8 → α9 → α10 → α11 → Option χ
  | 0, _, _, _, _, _, _, _, _, _, _, _, _ => none
  | n + 1, a0, a1, a2, a3, a4, a5, a6, a7, a8, a9, a10, a11 => match B a0 a1 a2 a3 a4 a5 a6 a7 a8 a9 a10 a11 with
    | none => none
    | some (.inr x) => some x
    | some (.inl v) => zl12 B n v.1 v.2.1 v.2.2.1 v.2.2.2.1 v.2.2.2.2.1 v.2.2.2.2.2.1 v.2.2.2.2.2.2.1 v.2.2.2.2.2.2.2.1 v.2.2.2.2.2.2.2.2.1 v.2.2.2.2.2.2.2.2.2.1 v.2.2.2.2.2.2.2.2.2.2.1 v.2.2.2.2.2.2.2.2.2.2.2
def zq12 {α0 α1 α2 α3 α4 α5 α6 α7 α8 α9 α10 α11 χ : Type} (B : α0 → α1 → α2 → α3 → α4 → α5 → α6 → α7 → α8 → α9 → α10 → α11 → Option ((α0 × α1 × α2 × α3 × α4 × α5 × α6 × α7 × α8 × α9 × α10 × α11) ⊕ χ)) (n : Nat) (z : (α0 × α1 × α2 × α3 × α4 × α5 × α6 × α7 × α8 × α9 × α10 × α11) ⊕ χ) : Option χ := match z with
  | .inr x => some x
  | .inl v => zl12 B n v.1 v.2.1 v.2.2.1 v.2.2.2.1 v.2.2.2.2.1 v.2.2.2.2.2.1 v.2.2.2.2.2.2.1 v.2.2.2.2.2.2.2.1 v.2.2.2.2.2.2.2.2.1 v.2.2.2.2.2.2.2.2.2.1 v.2.2.2.2.2.2.2.2.2.2.1 v.2.2.2.2.2.2.2.2.2.2.2
theorem zl12_e {α0 α1 α2 α3 α4 α5 α6 α7 α8 α9 α10 α11 χ : Type} {B : α0 → α1 → α2 → α3 → α4 → α5 → α6 → α7 → α8 → α9 → α10 → α11 → Option ((α0 × α1 × α2 × α3 × α4 × α5 × α6 × α7 × α8 × α9 × α10 × α11) ⊕ χ)} {n : Nat} {a0 : α0} {a1 : α1} {a2 : α2} {a3 : α3} {a4 : α4} {a5 : α5} {a6 : α6} {a7 : α7} {a8 : α8} {a9 : α9} {a10 : α10} {a11 : α11} {x : χ} (h : zl12 B (n + 1) a0 a1 a2 a3 a4 a5 a6 a7 a8 a9 a10 a11 = some x) : ∃ z, B a0 a1 a2 a3 a4 a5 a6 a7 a8 a9 a10 a11 = some z ∧ zq12 B n z = some x := by
  unfold zl12 at h
  split at h
  · cases h
  · rename_i q; first | exact ⟨_, q, h⟩ | (rename_i q2; exact ⟨_, q2, h⟩) | exact ⟨_, rfl, h⟩
  · rename_i q; first | exact ⟨_, q, h⟩ | (rename_i q2; exact ⟨_, q2, h⟩) | exact ⟨_, rfl, h⟩
theorem zl12_b {α0 α1 α2 α3 α4 α5 α6 α7 α8 α9 α10 α11 χ : Type} {B : α0 → α1 → α2 → α3 → α4 → α5 → α6 → α7 → α8 → α9 → α10 → α11 → Option ((α0 × α1 × α2 × α3 × α4 × α5 × α6 × α7 × α8 × α9 × α10 × α11) ⊕ χ)} {n : Nat} {a0 : α0} {a1 : α1} {a2 : α2} {a3 : α3} {a4 : α4} {a5 : α5} {a6 : α6} {a7 : α7} {a8 : α8} {a9 : α9} {a10 : α10} {a11 : α11} {x : Option χ} (h : zl12 B n a0 a1 a2 a3 a4 a5 a6 a7 a8 a9 a10 a11 = x) : ∃ B1, B1 = B ∧ zl12 B1 n a0 a1 a2 a3 a4 a5 a6 a7 a8 a9 a10 a11 = x := ⟨B, rfl, h⟩
def zb13 {α0 α1 α2 α3 α4 α5 α6 α7 α8 α9 α10 α11 α12 β : Type} (x : Option (α0 × α1 × α2 × α3 × α4 × α5 × α6 × α7 × α8 × α9 × α10 × α11 × α12)) (f : α0 → α1 → α2 → α3 → α4 → α5 → α6 → α7 → α8 → α9 → α10 → α11 → α12 → Option β) : Option β := match x with
  | none => none
  | some v => f v.1 v.2.1 v.2.2.1 v.2.2.2.1 v.2.2.2.2.1 v.2.2.2.2.2.1 v.2.2.2.2.2.2.1 v.2.2.2.2.2.2.2.1 v.2.2.2.2.2.2.2.2.1 v.2.2.2.2.2.2.2.2.2.1 v.2.2.2.2.2.2.2.2.2.2.1 v.2.2.2.2.2.2.2.2.2.2.2.1 v.2.2.2.2.2.2.2.2.2.2.2.2
theorem zb13_e {α0 α1 α2 α3 α4 α5 α6 α7 α8 α9 α10 α11 α12 β : Type} {x : Option (α0 × α1 × α2 × α3 × α4 × α5 × α6 × α7 × α8 × α9 × α10 × α11 × α12)} {f : α0 → α1 → α2 → α3 → α4 → α5 → α6 → α7 → α8 → α9 → α10 → α11 → α12 → Option β} {y : β} (h : zb13 x f = some y) : ∃ (a0 : α0) (a1 : α1) (a2 : α2) (a3 : α3) (a4 : α4) (a5 : α5) (a6 : α6) (a7 : α7) (a8 : α8) (a9 : α9) (a10 : α10) (a11 : α11) (a12 : α12), x = some (a0, a1, a2, a3, a4, a5, a6, a7, a8, a9, a10, a11, a12) ∧ f a0 a1 a2 a3 a4 a5 a6 a7 a8 a9 a10 a11 a12 = some y := by
  cases x with
  | none => cases h
  | some v => exact ⟨v.1, v.2.1, v.2.2.1, v.2.2.2.1, v.2.2.2.2.1, v.2.2.2.2.2.1, v.2.2.2.2.2.2.1, v.2.2.2.2.2.2.2.1, v.2.2.2.2.2.2.2.2.1, v.2.2.2.2.2.2.2.2.2.1, v.2.2.2.2.2.2.2.2.2.2.1, v.2.2.2.2.2.2.2.2.2.2.2.1, v.2.2.2.2.2.2.2.2.2.2.2.2, rfl, h⟩
def ze13 {α0 α1 α2 α3 α4 α5 α6 α7 α8 α9 α10 α11 α12 ρ β : Type} (x : Option ((α0 × α1 × α2 × α3 × α4 × α5 × α6 × α7 × α8 × α9 × α10 × α11 × α12) ⊕ ρ)) (j : ρ → Option β) (f : α0 → α1 → α2 → α3 → α4 → α5 → α6 → α7 → α8 → α9 → α10 → α11 → α12 → Option β) : Option β := match x with
  | none => none
  | some (.inr r) => j r
  | some (.inl v) => f v.1 v.2.1 v.2.2.1 v.2.2.2.1 v.2.2.2.2.1 v.2.2.2.2.2.1 v.2.2.2.2.2.2.1 v.2.2.2.2.2.2.2.1 v.2.2.2.2.2.2.2.2.1 v.2.2.2.2.2.2.2.2.2.1 v.2.2.2.2.2.2.2.2.2.2.1 v.2.2.2.2.2.2.2.2.2.2.2.1 v.2.2.2.2.2.2.2.2.2.2.2.2
theorem ze13_e {α0 α1 α2 α3 α4 α5 α6 α7 α8 α9 α10 α11 α12 ρ β : Type} {x : Option ((α0 × α1 × α2 × α3 × α4 × α5 × α6 × α7 × α8 × α9 × α10 × α11 × α12) ⊕ ρ)} {j : ρ → Option β} {f : α0 → α1 → α2 → α3 → α4 → α5 → α6 → α7 → α8 → α9 → α10 → α11 → α12 → Option β} {y : β} (h : ze13 x j f = some y) : ∃ z, x = some z ∧ (∀ (a0 : α0) (a1 : α1) (a2 : α2) (a3 : α3) (a4 : α4) (a5 : α5) (a6 : α6) (a7 : α7) (a8 : α8) (a9 : α9) (a10 : α10) (a11 : α11) (a12 : α12), (z = .inl (a0, a1, a2, a3, a4, a5, a6, a7, a8, a9, a10, a11, a12) → f a0 a1 a2 a3 a4 a5 a6 a7 a8 a9 a10 a11 a12 = some y)) ∧ ∀ r, z = .inr r → j r = some y := by
  cases x with
  | none => cases h
  | some z =>
    refine ⟨z, rfl, fun a0 a1 a2 a3 a4 a5 a6 a7 a8 a9 a10 a11 a12 => fun e => ?_, fun r e => ?_⟩
    · subst e; exact h
    · subst e; exact h
def zl13 {α0 α1 α2 α3 α4 α5 α6 α7 α8 α9 α10 α11 α12 χ : Type} (B : α0 → α1 → α2 → α3 → α4 → α5 → α6 → α7 → α8 → α9 → α10 → α11 → α12 → Option ((α0 × α1 × α2 × α3 × α4 × α5 × α6 × α7 × α8 × α9 × α10 × α11 × α12) ⊕ χ)) : Nat → α0 → α1 → α2 → α3 → α4 → α5 → α6 → α7 → α8 → α9 → α10 → α11 → α12 → Option χ
  | 0, _, _, _, _, _, _, _, _, _, _, _, _, _ => none
  | n + 1, a0, a1, a2, a3, a4, a5, a6, a7, a8, a9, a10, a11, a12 => match B a0 a1 a2 a3 a4 a5 a6 a7 a8 a9 a10 a11 a12 with
    | none => none
    | some (.inr x) => some x
    | some (.inl v) => zl13 B n v.1 v.2.1 v.2.2.1 v.2.2.2.1 v.2.2.2.2.1 v.2.2.2.2.2.1 v.2.2.2.2.2.2.1 v.2.2.2.2.2.2.2.1 v.2.2.2.2.2.2.2.2.1 v.2.2.2.2.2.2.2.2.2.1 v.2.2.2.2.2.2.2.2.2.2.1 v.2.2.2.2.2.2.2.2.2.2.2.1 v.2.2.2.2.2.2.2.2.2.2.2.2
def zq13 {α0 α1 α2 α3 α4 α5 α6 α7 α8 α9 α10 α11 α12 χ : Type} (B : α0 → α1 → α2 → α3 → α4 → α5 → α6 → α7 → α8 → α9 → α10 → α11 → α12 → Option ((α0 × α1 × α2 × α3 × α4 × α5 × α6 × α7 × α8 × α9 × α10 × α11 × α12) ⊕ χ)) (n : Nat) (z : (α0 × α1 × α2 × α3 × α4 × α5 × α6 × α7 × α8 × α9 × α10 × α11 × α12) ⊕ χ) : Option χ := match z with
  | .inr x => some x
  | .inl v => zl13 B n v.1 v.2.1 v.2.2.1 v.2.2.2.1 v.2.2.2.2.1 v.2.2.2.2.2.1 v.2.2.2.2.2.2.1 v.2.2.2.2.2.2.2.1 v.2.2.2.2.2.2.2.2.1 v.2.2.2.2.2.2.2.2.2.1 v.2.2.2.2.2.2.2.2.2.2.1 v.2.2.2.2.2.2.2.2.2.2.2.1 v.2.2.2.2.2.2.2.2.2.2.2.2
theorem zl13_e {α0 α1 α2 α3 α4 α5 α6 α7 α8 α9 α10 α11 α12 χ : Type} {B : α0 → α1 → α2 → α3 → α4 → α5 → α6 → α7 → α8 → α9 → α10 → α11 → α12 → Option ((α0 × α1 × α2 × α3 × α4 × α5 × α6 × α7 × α8 × α9 × α10 × α11 × α12) ⊕ χ)} {n : Nat} {a0 : α0} {a1 : α1} {a2 : α2} {a3 : α3} {a4 : α4} {a5 : α5} {a6 : α6} {a7 : α7} {a8 : α8} {a9 : α9} {a10 : α10} {a11 : α11} {a12 : α12} {x : χ} (h : zl13 B (n + 1) a0 a1 a2 a3 a4 a5 a6 a7 a8 a9 a10 a11 a12 = some x) : ∃ z, B a0 a1 a2 a3 a4 a5 a6 a7 a8 a9 a10 a11 a12 = some z ∧ zq13 B n z = some x := by
  unfold zl13 at h
  split at h
  · cases h
  · rename_i q; first | exact ⟨_, q, h⟩ | (rename_i q2; exact ⟨_, q2, h⟩) | exact ⟨_, rfl, h⟩
  · rename_i q; first | exact ⟨_, q, h⟩ | (rename_i q2; exact ⟨_, q2, h⟩) | exact ⟨_, rfl, h⟩
theorem zl13_b {α0 α1 α2 α3 α4 α5 α6 α7 α8 α9 α10 α11 α12 χ : Type} {B : α0 → α1 → α2 → α3 → α4 → α5 → α6 → α7 → α8 → α9 → α10 → α11 → α12 → Option ((α0 × α1 × α2 × α3 × α4 × α5 × α6 × α7 × α8 × α9 × α10 × α11 × α12) ⊕ χ)} {n : Nat} {a0 : α0} {a1 : α1} {a2 : α2} {a3 : α3} {a4 : α4} {a5 : α5} {a6 : α6} {a7 : α7} {a8 : α8} {a9 : α9} {a10 : α10} {a11 : α11} {a12 : α12} {x : Option χ} (h : zl13 B n a0 a1 a2 a3 a4 a5 a6 a7 a8 a9 a10 a11 a12 = x) : ∃ B1, B1 = B ∧ zl13 B1 n a0 a1 a2 a3 a4 a5 a6 a7 a8 a9 a10 a11 a12 = x := ⟨B, rfl, h⟩
def zb14 {α0 α1 α2 α3 α4 α5 α6 α7 α8 α9 α10 α11 α12 α13 β : Type} (x : Option (α0 × α1 × α2 × α3 × α4 × α5 × α6 × α7 × α8 × α9 × α10 × α11 × α12 × α13)) (f : α0 → α1 → α2 → α3 → α4 → α5 → α6 → α7 → α8 → α9 → α10 → α11 → α12 → α13 → Option β) : Option β := match x with
  | none => none
  | some v => f v.1 v.2.1 v.2.2.1 v.2.2.2.1 v.2.2.2.2.1 v.2.2.2.2.2.1 v.2.2.2.2.2.2.1 v.2.2.2.2.2.2.2.1 v.2.2.2.2.2.2.2.2.1 v.2.2.2.2.2.2.2.2.2.1 v.2.2.2.2.2.2.2.2.2.2.1 v.2.2.2.2.2.2.2.2.2.2.2.1 v.2.2.2.2.2.2.2.2.2.2.2.2.1 v.2.2.2.2.2.2.2.2.2.2.2.2.2
theorem zb14_e {α0 α1 α2 α3 α4 α5 α6 α7 α8 α9 α10 α11 α12 α13 β : Type} {x : Option (α0 × α1 × α2 × α3 × α4 × α5 × α6 × α7 × α8 × α9 × α10 × α11 × α12 × α13)} {f : α0 → α1 → α2 → α3 → α4 → α5 → α6 → α7 → α8 → α9 → α10 → α11 → α12 → α13 → Option β} {y : β} (h : zb14 x f = some y) : ∃ (a0 : α0) (a1 : α1) (a2 : α2) (a3 : α3) (a4 : α4) (a5 : α5) (a6 : α6) (a7 : α7) (a8 : α8) (a9 : α9) (a10 : α10) (a11 : α11) (a12 : α12) (a13 : α13), x = some (a0, a1, a2, a3, a4, a5, a6, a7, a8, a9, a10, a11, a12, a13) ∧ f a0 a1 a2 a3 a4 a5 a6 a7 a8 a9 a10 a11 a12 a13 = some y := by
  cases x with
  | none => cases h
  | some v => exact ⟨v.1, v.2.1, v.2.2.1, v.2.2.2.1, v.2.2.2.2.1, v.2.2.2.2.2.1, v.2.2.2.2.2.2.1, v.2.2.2.2.2.2.2.1, v.2.2.2.2.2.2.2.2.1, v.2.2.2.2.2.2.2.2.2.1, v.2.2.2.2.2.2.2.2.2.2.1, v.2.2.2.2.2.2.2.2.2.2.2.1, v.2.2.2.2.2.2.2.2.2.2.2.2.1, v.2.2.2.2.2.2.2.2.2.2.2.2.2, rfl, h⟩
def ze14 {α0 α1 α2 α3 α4 α5 α6 α7 α8 α9 α10 α11 α12 α13 ρ β : Type} (x : Option ((α0 × α1 × α2 × α3 × α4 × α5 × α6 × α7 × α8 × α9 × α10 × α11 × α12 × α13) ⊕ ρ)) (j : ρ → Option β) (f : α0 → α1 → α2 → α3 → α4 → α5 → α6 → α7 → α8 → α9 → α10 → α11 → α12 → α13 → Option β) : Option β := match x with
  | none => none
  | some (.inr r) => j r
  | some (.inl v) => f v.1 v.2.1 v.2.2.1 v.2.2.2.1 v.2.2.2.2.1 v.2.2.2.2.2.1 v.2.2.2.2.2.2.1 v.2.2.2.2.2.2.2.1 v.2.2.2.2.2.2.2.2.1 v.2.2.2.2.2.2.2.2.2.1 v.2.2.2.2.2.2.2.2.2.2.1 v.2.2.2.2.2.2.2.2.2.2.2.1 v.2.2.2.2.2.2.2.2.2.2.2.2.1 v.2.2.2.2.2.2.2.2.2.2.2.2.2
theorem ze14_e {α0 α1 α2 α3 α4 α5 α6 α7 α8 α9 α10 α11 α12 α13 ρ β : Type} {x : Option ((α0 × α1 × α2 × α3 × α4 × α5 × α6 × α7 × α8 × α9 × α10 × α11 × α12 × α13) ⊕ ρ)} {j : ρ → Option β} {f : α0 → α1 → α2 → α3 → α4 → α5 → α6 → α7 → α8 → α9 → α10 → α11 → α12 → α13 → Option β} {y : β} (h : ze14 x j f = some y) : ∃ z, x = some z ∧ (∀ (a0 : α0) (a1 : α1) (a2 : α2) (a3 : α3) (a4 : α4) (a5 : α5) (a6 : α6) (a7 : α7) (a8 : α8) (a9 : α9) (a10 : α10) (a11 : α11) (a12 : α12) (a13 : α13), (z = .inl (a0, a1, a2, a3, a4, a5, a6, a7, a8, a9, a10, a11, a12, a13) → f a0 a1 a2 a3 a4 a5 a6 a7 a8 a9 a10 a11 a12 a13 = some y)) ∧ ∀ r, z = .inr r → j r = some y := by
  cases x with
  | none => cases h
  | some z =>
    refine ⟨z, rfl, fun a0 a1 a2 a3 a4 a5 a6 a7 a8 a9 a10 a11 a12 a13 => fun e => ?_, fun r e => ?_⟩
    · subst e; exact h
    · subst e; exact h
def zl14 {α0 α1 α2 α3 α4 α5 α6 α7 α8 α9 α10 α11 α12 α13 χ : Type} (B : α0 → α1 → α2 → α3 → α4 → α5 → α6 → α7 → α8 → α9 → α10 → α11 → α12 → α13 → Option ((α0 × α1 × α2 × α3 × α4 × α5 × α6 × α7 × α8 × α9 × α10 × α11 × α12 × α13) ⊕ χ)) : Nat → α0 → α1 → α2 → α3 → α4 → α5 → α6 → α7 → α8 → α9 → α10 → α11 → α12 → α13 → Option χ
  | 0, _, _, _, _, _, _, _, _, _, _, _, _, _, _ => none
  | n + 1, a0, a1, a2, a3, a4, a5, a6, a7, a8, a9, a10, a11, a12, a13 => match B a0 a1 a2 a3 a4 a5 a6 a7 a8 a9 a10 a11 a12 a13 with
    | none => none
    | some (.inr x) => some x
    | some (.inl v) => zl14 B n v.1 v.2.1 v.2.2.1 v.2.2.2.1 v.2.2.2.2.1 v.2.2.2.2.2.1 v.2.2.2.2.2.2.1 v.2.2.2.2.2.2.2.1 v.2.2.2.2.2.2.2.2.1 v.2.2.2.2.2.2.2.2.2.1 v.2.2.2.2.2.2.2.2.2.2.1 v.2.2.2.2.2.2.2.2.2.2.2.1 v.2.2.2.2.2.2.2.2.2.2.2.2.1 v.2.2.2.2.2.2.2.2.2.2.2.2.2
def zq14 {α0 α1 α2 α3 α4 α5 α6 α7 α8 α9 α10 α11 α12 α13 χ : Type} (B : α0 → α1 → α2 → α3 → α4 → α5 → α6 → α7 → α8 → α9 → α10 → α11 → α12 → α13 → Option ((α0 × α1 × α2 × α3 × α4 × α5 × α6 × α7 × α8 × α9 × α10 × α11 × α12 × α13) ⊕ χ)) (n : Nat) (z : (α0 × α1 × α2 × α3 × α4 × α5 × α6 × α7 × α8 × α9 × α10 × α11 × α12 × α13) ⊕ χ) : Option χ := match z with
  | .inr x => some x
  | .inl v => zl14 B n v.1 v.2.1 v.2.2.1 v.2.2.2.1 v.2.2.2.2.1 v.2.2.2.2.2.1 v.2.2.2.2.2.2.1 v.2.2.2.2.2.2.2.1 v.2.2.2.2.2.2.2.2.1 v.2.2.2.2.2.2.2.2.2.1 v.2.2.2.2.2.2.2.2.2.2.1 v.2.2.2.2.2.2.2.2.2.2.2.1 v.2.2.2.2.2.2.2.2.2.2.2.2.1 v.2.2.2.2.2.2.2.2.2.2.2.2.2
theorem zl14_e {α0 α1 α2 α3 α4 α5 α6 α7 α8 α9 α10 α11 α12 α13 χ : Type} {B : α0 → α1 → α2 → α3 → α4 → α5 → α6 → α7 → α8 → α9 → α10 → α11 → α12 → α13 → Option ((α0 × α1 × α2 × α3 × α4 × α5 × α6 × α7 × α8 × α9 × α10 × α11 × α12 × α13) ⊕ χ)} {n : Nat} {a0 : α0} {a1 : α1} {a2 : α2} {a3 : α3} {a4 : α4} {a5 : α5} {a6 : α6} {a7 : α7} {a8 : α8} {a9 : α9} {a10 : α10} {a11 : α11} {a12 : α12} {a13 : α13} {x : χ} (h : zl14 B (n + 1) a0 a1 a2 a3 a4 a5 a6 a7 a8 a9 a10 a11 a12 a13 = some x) : ∃ z, B a0 a1 a2 a3 a4 a5 a6 a7 a8 a9 a10 a11 a12 a13 = some z ∧ zq14 B n z = some x := by
  unfold zl14 at h
  split at h
  · cases h
  · rename_i q; first | exact ⟨_, q, h⟩ | (rename_i q2; exact ⟨_, q2, h⟩) | exact ⟨_, rfl, h⟩
  · rename_i q; first | exact ⟨_, q, h⟩ | (rename_i q2; exact ⟨_, q2, h⟩) | exact ⟨_, rfl, h⟩
theorem zl14_b {α0 α1 α2 α3 α4 α5 α6 α7 α8 α9 α10 α11 α12 α13 χ : Type} {B : α0 → α1 → α2 → α3 → α4 → α5 → α6 → α7 → α8 → α9 → α10 → α11 → α12 → α13 → Option ((α0 × α1 × α2 × α3 × α4 × α5 × α6 × α7 × α8 × α9 × α10 × α11 × α12 × α13) ⊕ χ)} {n : Nat} {a0 : α0} {a1 : α1} {a2 : α2} {a3 : α3} {a4 : α4} {a5 : α5} {a6 : α6} {a7 : α7} {a8 : α8} {a9 : α9} {a10 : α10} {a11 : α11} {a12 : α12} {a13 : α13} {x : Option χ} (h : zl14 B n a0 a1 a2 a3 a4 a5 a6 a7 a8 a9 a10 a11 a12 a13 = x) : ∃ B1, B1 = B ∧ zl14 B1 n a0 a1 a2 a3 a4 a5 a6 a7 a8 a9 a10 a11 a12 a13 = x := ⟨B, rfl, h⟩
theorem ne_t {x y : Int32} (h : ¬ x = y) : x.toInt ≠ y.toInt := fun q => h (Int32.toInt_inj.mp q)
def bk (b0 b1 b2 : Nat) : Nat → Option Nat := fun j => bif Nat.beq j 0 then some b0 else bif Nat.beq j 1 then some b1 else some b2
/-- bits that are a float's, no signalling NaN -/
def gb {β : Type} (v : Int32) (x : Option β) : Option β := if vn_sni2f v = true then none else x
theorem gb_e {β : Type} {v : Int32} {x : Option β} {y : β} (h : gb v x = some y) : vn_sni2f v = false ∧ x = some y := by
  unfold gb at h
  split at h
  · cases h
  · rename_i q; exact ⟨by simpa using q, h⟩
def ZN (Ts : List Cond) (own : String) (index : Nat) (y : MethodName) (C : String) : Prop := Cond.methodLink own index y ∈ Ts ∧ Cond.native y ∈ Ts ∧ Cond.static y ∈ Ts ∧ Cond.initialized C ∈ Ts
/-! the statics and strings that are there at the start -/
def sxK : List Int32 := [114, 111, 111, 109, 0, 114, 117, 108, 101, 0, 105, 116, 101, 109, 0, 97, 103, 97, 105, 110, 111, 110, 99, 101, 0, 114, 101, 110, 116, 0, 104, 101, 97, 116, 0]
def sxI : List Nat := [61, 69, 73, 88, 90, 92, 127]
def sxT : List String := ["room", "rule", "item", "once", "rent", "heat", "again"]
def sxL : List Nat := [4, 4, 4, 4, 4, 4, 5]
def sxB : List (List Int32) := [[114, 111, 111, 109], [114, 117, 108, 101], [105, 116, 101, 109], [111, 110, 99, 101], [114, 101, 110, 116], [104, 101, 97, 116], [97, 103, 97, 105, 110]]
def sx (g : Nat → Nat) (A : Nat → Prop) (U : State) (H : Heap) : Prop :=
  va_Z "TwoTierStoreModel" "KNOWN" "[B" (.ref (g 0)) A U H ∧ va_T .byte (g 0) 35 (fun j => .int (sxK.getD j 0)) A U H ∧ va_Z "java/lang/String" "COMPACT_STRINGS" "Z" (.int 1) A U H ∧ va_Zq "jdk/internal/util/Preconditions" "SIOOBE_FORMATTER" "Ljava/util/function/BiFunction;" A U H ∧ vk_S 7 sxL sxB (fun i => g (1 + i)) (fun i => g (10 + i)) A U H ∧ ∀ i : Nat, i < 7 → vk_R "TwoTierStore$Reader" (sxI.getD i 0) (sxT.getD i "") (g (1 + i)) U
theorem sx.kept {g : Nat → Nat} {A : Nat → Prop} {U : State} {H H1 : Heap} (h : sx g A U H) (hq : ∀ a : Nat, a < H.size → ¬ A a → H1[a]? = H[a]?) : sx g A U H1 := ⟨h.1.kept hq, h.2.1.kept hq, h.2.2.1.kept hq, h.2.2.2.1.kept hq, h.2.2.2.2.1.kept hq, h.2.2.2.2.2⟩
theorem sx.narrow {g : Nat → Nat} {A B : Nat → Prop} {U : State} {H : Heap} (h : sx g A U H) (hAB : ∀ q, B q → A q) : sx g B U H := ⟨h.1.narrow hAB, h.2.1.narrow hAB, h.2.2.1.narrow hAB, h.2.2.2.1.narrow hAB, h.2.2.2.2.1.narrow hAB, h.2.2.2.2.2⟩
theorem sx.warm {g : Nat → Nat} {A : Nat → Prop} {s U : State} {H : Heap} (hW : s.WarmedH U.vm) (h : sx g A s H) : sx g A U H := ⟨h.1.moved hW.alike, h.2.1.moved hW.alike, h.2.2.1.moved hW.alike, h.2.2.2.1.moved hW.alike, h.2.2.2.2.1.moved hW.alike, fun i hi => (h.2.2.2.2.2 i hi).warm hW⟩
theorem sx.same {g : Nat → Nat} {A : Nat → Prop} {u U : State} {H : Heap} (hv : U.vm = u.vm) (h : sx g A u H) : sx g A U H := by
  have ha : u.vm.Alike U.vm := by rw [hv]; exact Vm.Alike.refl u.vm
  exact ⟨h.1.moved ha, h.2.1.moved ha, h.2.2.1.moved ha, h.2.2.2.1.moved ha, h.2.2.2.2.1.moved ha, fun i hi => (h.2.2.2.2.2 i hi).same hv⟩
/-! a method's start and end -/
abbrev tyL (cA : Nat → ClassId) : List (ClassId × FieldType) := [(cA 0, .int), (cA 1, .float), (cA 2, .byte), (cA 3, .boolean), (cA 4, .object RX0), (cA 5, .object RX9)]
def PreW (D : va_G) (cA : Nat → ClassId) (g : Nat → Nat) (sz : Nat) (ws : va_W) (U : State) : Prop := U.heap.size = sz ∧ va_P D vwCl ws U.heap ∧ va_K D vwCl (tyL cA) U ∧ va_D (fun _ => True) ws ∧ sx g (va_A ws sz) U U.heap
def PostW (D : va_G) (cA : Nat → ClassId) (sz : Nat) (ws ws' : va_W) (_ : Unit) (t : State) : Prop := va_P D vwCl ws' t.heap ∧ va_K D vwCl (tyL cA) t ∧ va_D (va_A ws sz) ws'
theorem pre_blind {D : va_G} {cA : Nat → ClassId} {g : Nat → Nat} {sz : Nat} {ws : va_W} {av : List Value} : FrameBlind (va_Pc av (PreW D cA g sz ws)) := fun a U gg mk q => by
  obtain ⟨q0, q1, qP, qK, qD, qX⟩ := q
  exact ⟨q0, q1, qP, va_K.moved (u := U) (U := U.calling gg mk a) (Vm.Alike.refl U.vm) qK, qD, qX.same (u := U) (U := U.calling gg mk a) rfl⟩
def ZC (p : Program) (s : State) (m : MethodId) (args : Array Value) (meth : Method) (c : Code) (cc : ByteArray) (nL : Nat) (own : String) (Ts : List Cond) (D : va_G) (cA : Nat → ClassId) (g : Nat → Nat) (A : Nat → Prop) : Prop :=
  p.tables.exec = Jvm.exec ∧ c.code = cc ∧ c.maxLocals = nL ∧ s.vm.findClass own = some m.cls ∧ (∀ w ∈ Ts, w.before args s = true) ∧ va_K D vwCl (tyL cA) s ∧ (∀ q, s.heap.size ≤ q → A q) ∧ meth.locks = false ∧ sx g A s s.heap
def ZW (p : Program) (l : Launch) (e : Env) (R : Room) (s : State) (m : MethodId) (args : Array Value) (below : List Frame) (meth : Method) (c : Code) (D : va_G) (A : Nat → Prop) (nL cells slots : Nat) (Q : State → Prop) (ws : va_W) (lv : List (Nat × Value)) (pc : Nat) (st : List Value) : Prop :=
  ∀ (H : Heap) (locs : List Loc) (ls : Array Slot), va_P D vwCl ws H → va_D A ws → va_S A s.heap H locs → lv_has ls nL lv → W p l e R s m args below meth c H locs cells slots Q (F0 m pc ls st)
section ZR
variable {p : Program} {l : Launch} {e : Env} {R : Room} {s : State} {m : MethodId} {args : Array Value} {below : List Frame} {meth : Method} {c : Code} {cc : ByteArray} {nL cells slots : Nat} {own : String} {Ts : List Cond} {D : va_G} {cA : Nat → ClassId} {g : Nat → Nat} {A : Nat → Prop} {Q : State → Prop} {ws : va_W} {lv : List (Nat × Value)} {pc : Nat} {st : List Value}
theorem z_start {y : MethodName} {wsy wsy' : List Cond} {rm : Room} {Qc : Nat → Array Value → State → Outcome → State → Prop} {free : Nat → Addr → Prop} {mc ms : Nat} {maxL : Nat} {ret : Option FieldType} {av : List Value} {w0 : va_W} {lv0 : List (Nat × Value)} {sz : Nat}
    (hy : plainName y.cls = true) (hw : wsy = Cond.code y cc maxL ret :: wsy') (hlv : lv_args 0 av = lv0) (hle : (lg_sl av).length ≤ maxL)
    (body : ∀ (p : Program) (e : Env) (R : Room) (s : State) (m : MethodId) (args : Array Value) (below : List Frame) (meth : Method) (c : Code) (A : Nat → Prop) (Q : State → Prop), R = rm → A = va_A w0 s.heap.size → Q = MQ below (Qc s.heap.size) args s mc ms (free s.heap.size) → ZC p s m args meth c cc maxL y.cls wsy D cA g A → meth.sig.returnType = ret → (y.name = "<init>" → meth.name = "<init>") → ZW p l e R s m args below meth c D A maxL 0 0 Q w0 lv0 0 []) :
    Met l y wsy rm (va_Pc av (PreW D cA g sz w0)) (Qc sz) mc ms (free sz) := by
  refine Met.ofW (cc := cc) (maxL := maxL) (ret := ret) hy hw ?_
  intro p e s m args below meth c s₁ B hml hv
  obtain ⟨rfl, hsz, hP, hK, hD0, hX⟩ := hv
  subst hsz
  have hl := lv_entry av (n := maxL) hle
  rw [hlv] at hl
  rw [lg_entry_eq]
  exact body p e _ s m _ below meth c _ _ rfl rfl rfl ⟨B.exec, B.bytes, hml, findClass_of_methodNamed B.named, atoms_spec (ws := wsy) B.pre, hK, fun q h => Or.inr h, B.notSynchronized, hX⟩ B.returns (fun h => by rw [← h]; exact (name_of_methodNamed B.named B.method).1) s.heap [] _ hP hD0.self va_S.rf hl

theorem z_iconst (X : ZC p s m args meth c cc nL own Ts D cA g A) {n : Int} {v : Int32} (hdg : decode cc pc = .ok (.iconst n, 1)) (hv : Int32.ofInt n = v) (k : ZW p l e R s m args below meth c D A nL cells slots Q ws lv (pc + 1) (.int v :: st)) : ZW p l e R s m args below meth c D A nL cells slots Q ws lv pc st := fun H locs ls hP hD hS hl => lv_iconst X.1 X.2.1 hdg hv (k H locs ls hP hD hS hl)
theorem z_bipush (X : ZC p s m args meth c cc nL own Ts D cA g A) {n : Int} {v : Int32} (hdg : decode cc pc = .ok (.bipush n, 2)) (hv : (Int8.ofInt n).toInt32 = v) (k : ZW p l e R s m args below meth c D A nL cells slots Q ws lv (pc + 2) (.int v :: st)) : ZW p l e R s m args below meth c D A nL cells slots Q ws lv pc st := fun H locs ls hP hD hS hl => lv_bipush X.1 X.2.1 hdg hv (k H locs ls hP hD hS hl)
theorem z_sipush (X : ZC p s m args meth c cc nL own Ts D cA g A) {n : Int} {v : Int32} (hdg : decode cc pc = .ok (.sipush n, 3)) (hv : (Int16.ofInt n).toInt32 = v) (k : ZW p l e R s m args below meth c D A nL cells slots Q ws lv (pc + 3) (.int v :: st)) : ZW p l e R s m args below meth c D A nL cells slots Q ws lv pc st := fun H locs ls hP hD hS hl => lv_sipush X.1 X.2.1 hdg hv (k H locs ls hP hD hS hl)
theorem z_iload_n (X : ZC p s m args meth c cc nL own Ts D cA g A) {q : Fin 4} {i : Nat} {x : Int32} (hdg : decode cc pc = .ok (.iload_n q, 1)) (hi : (q : Nat) = i) (j : Nat) (hj : lv[j]? = some (i, .int x)) (k : ZW p l e R s m args below meth c D A nL cells slots Q ws lv (pc + 1) (.int x :: st)) : ZW p l e R s m args below meth c D A nL cells slots Q ws lv pc st := fun H locs ls hP hD hS hl => lv_iload_n X.1 X.2.1 hdg hi (lv_at hl j hj) (k H locs ls hP hD hS hl)
theorem z_iload (X : ZC p s m args meth c cc nL own Ts D cA g A) {i : Nat} {x : Int32} (hdg : decode cc pc = .ok (.iload i, 2)) (j : Nat) (hj : lv[j]? = some (i, .int x)) (k : ZW p l e R s m args below meth c D A nL cells slots Q ws lv (pc + 2) (.int x :: st)) : ZW p l e R s m args below meth c D A nL cells slots Q ws lv pc st := fun H locs ls hP hD hS hl => lv_iload X.1 X.2.1 hdg (lv_at hl j hj) (k H locs ls hP hD hS hl)
theorem z_istore_n (X : ZC p s m args meth c cc nL own Ts D cA g A) {q : Fin 4} {i : Nat} {x : Int32} {lv' : List (Nat × Value)} (hdg : decode cc pc = .ok (.istore_n q, 1)) (hi : (q : Nat) = i) (hn : i < nL) (hl2 : (i, Value.int x) :: lv.filter (fun q => !(q.1 == i) && !(q.1 + 1 == i && q.2.category == 2)) = lv') (k : ZW p l e R s m args below meth c D A nL cells slots Q ws lv' (pc + 1) st) : ZW p l e R s m args below meth c D A nL cells slots Q ws lv pc (.int x :: st) := fun H locs ls hP hD hS hl => lv_istore_n X.1 X.2.1 hdg hi hl hn hl2 (fun ls' hl' => k H locs ls' hP hD hS hl')
theorem z_istore (X : ZC p s m args meth c cc nL own Ts D cA g A) {i : Nat} {x : Int32} {lv' : List (Nat × Value)} (hdg : decode cc pc = .ok (.istore i, 2)) (hn : i < nL) (hl2 : (i, Value.int x) :: lv.filter (fun q => !(q.1 == i) && !(q.1 + 1 == i && q.2.category == 2)) = lv') (k : ZW p l e R s m args below meth c D A nL cells slots Q ws lv' (pc + 2) st) : ZW p l e R s m args below meth c D A nL cells slots Q ws lv pc (.int x :: st) := fun H locs ls hP hD hS hl => lv_istore X.1 X.2.1 hdg hl hn hl2 (fun ls' hl' => k H locs ls' hP hD hS hl')
theorem z_aload_n (X : ZC p s m args meth c cc nL own Ts D cA g A) {q : Fin 4} {i : Nat} {x : Nat} (hdg : decode cc pc = .ok (.aload_n q, 1)) (hi : (q : Nat) = i) (j : Nat) (hj : lv[j]? = some (i, .ref x)) (k : ZW p l e R s m args below meth c D A nL cells slots Q ws lv (pc + 1) (.ref x :: st)) : ZW p l e R s m args below meth c D A nL cells slots Q ws lv pc st := fun H locs ls hP hD hS hl => lv_aload_n X.1 X.2.1 hdg hi (lv_at hl j hj) (k H locs ls hP hD hS hl)
theorem z_aload (X : ZC p s m args meth c cc nL own Ts D cA g A) {i : Nat} {x : Nat} (hdg : decode cc pc = .ok (.aload i, 2)) (j : Nat) (hj : lv[j]? = some (i, .ref x)) (k : ZW p l e R s m args below meth c D A nL cells slots Q ws lv (pc + 2) (.ref x :: st)) : ZW p l e R s m args below meth c D A nL cells slots Q ws lv pc st := fun H locs ls hP hD hS hl => lv_aload X.1 X.2.1 hdg (lv_at hl j hj) (k H locs ls hP hD hS hl)
theorem z_astore_n (X : ZC p s m args meth c cc nL own Ts D cA g A) {q : Fin 4} {i : Nat} {x : Nat} {lv' : List (Nat × Value)} (hdg : decode cc pc = .ok (.astore_n q, 1)) (hi : (q : Nat) = i) (hn : i < nL) (hl2 : (i, Value.ref x) :: lv.filter (fun q => !(q.1 == i) && !(q.1 + 1 == i && q.2.category == 2)) = lv') (k : ZW p l e R s m args below meth c D A nL cells slots Q ws lv' (pc + 1) st) : ZW p l e R s m args below meth c D A nL cells slots Q ws lv pc (.ref x :: st) := fun H locs ls hP hD hS hl => lv_astore_n X.1 X.2.1 hdg hi hl hn hl2 (fun ls' hl' => k H locs ls' hP hD hS hl')
theorem z_astore (X : ZC p s m args meth c cc nL own Ts D cA g A) {i : Nat} {x : Nat} {lv' : List (Nat × Value)} (hdg : decode cc pc = .ok (.astore i, 2)) (hn : i < nL) (hl2 : (i, Value.ref x) :: lv.filter (fun q => !(q.1 == i) && !(q.1 + 1 == i && q.2.category == 2)) = lv') (k : ZW p l e R s m args below meth c D A nL cells slots Q ws lv' (pc + 2) st) : ZW p l e R s m args below meth c D A nL cells slots Q ws lv pc (.ref x :: st) := fun H locs ls hP hD hS hl => lv_astore X.1 X.2.1 hdg hl hn hl2 (fun ls' hl' => k H locs ls' hP hD hS hl')
theorem z_fload_n (X : ZC p s m args meth c cc nL own Ts D cA g A) {q : Fin 4} {i : Nat} {x : UInt32} (hdg : decode cc pc = .ok (.fload_n q, 1)) (hi : (q : Nat) = i) (j : Nat) (hj : lv[j]? = some (i, .float x)) (k : ZW p l e R s m args below meth c D A nL cells slots Q ws lv (pc + 1) (.float x :: st)) : ZW p l e R s m args below meth c D A nL cells slots Q ws lv pc st := fun H locs ls hP hD hS hl => lv_fload_n X.1 X.2.1 hdg hi (lv_at hl j hj) (k H locs ls hP hD hS hl)
theorem z_fload (X : ZC p s m args meth c cc nL own Ts D cA g A) {i : Nat} {x : UInt32} (hdg : decode cc pc = .ok (.fload i, 2)) (j : Nat) (hj : lv[j]? = some (i, .float x)) (k : ZW p l e R s m args below meth c D A nL cells slots Q ws lv (pc + 2) (.float x :: st)) : ZW p l e R s m args below meth c D A nL cells slots Q ws lv pc st := fun H locs ls hP hD hS hl => lv_fload X.1 X.2.1 hdg (lv_at hl j hj) (k H locs ls hP hD hS hl)
theorem z_fstore_n (X : ZC p s m args meth c cc nL own Ts D cA g A) {q : Fin 4} {i : Nat} {x : UInt32} {lv' : List (Nat × Value)} (hdg : decode cc pc = .ok (.fstore_n q, 1)) (hi : (q : Nat) = i) (hn : i < nL) (hl2 : (i, Value.float x) :: lv.filter (fun q => !(q.1 == i) && !(q.1 + 1 == i && q.2.category == 2)) = lv') (k : ZW p l e R s m args below meth c D A nL cells slots Q ws lv' (pc + 1) st) : ZW p l e R s m args below meth c D A nL cells slots Q ws lv pc (.float x :: st) := fun H locs ls hP hD hS hl => lv_fstore_n X.1 X.2.1 hdg hi hl hn hl2 (fun ls' hl' => k H locs ls' hP hD hS hl')
theorem z_fstore (X : ZC p s m args meth c cc nL own Ts D cA g A) {i : Nat} {x : UInt32} {lv' : List (Nat × Value)} (hdg : decode cc pc = .ok (.fstore i, 2)) (hn : i < nL) (hl2 : (i, Value.float x) :: lv.filter (fun q => !(q.1 == i) && !(q.1 + 1 == i && q.2.category == 2)) = lv') (k : ZW p l e R s m args below meth c D A nL cells slots Q ws lv' (pc + 2) st) : ZW p l e R s m args below meth c D A nL cells slots Q ws lv pc (.float x :: st) := fun H locs ls hP hD hS hl => lv_fstore X.1 X.2.1 hdg hl hn hl2 (fun ls' hl' => k H locs ls' hP hD hS hl')
theorem z_iinc (X : ZC p s m args meth c cc nL own Ts D cA g A) {i j : Nat} {n : Int} {x v : Int32} {lv' : List (Nat × Value)} (hdg : decode cc pc = .ok (.iinc i n, 3)) (hk : lv[j]? = some (i, .int x)) (hv : x + Int32.ofInt n = v) (hn : i < nL) (hl2 : (i, Value.int v) :: lv.filter (fun q => !(q.1 == i) && !(q.1 + 1 == i && q.2.category == 2)) = lv') (k : ZW p l e R s m args below meth c D A nL cells slots Q ws lv' (pc + 3) st) : ZW p l e R s m args below meth c D A nL cells slots Q ws lv pc st := fun H locs ls hP hD hS hl => lv_iinc X.1 X.2.1 hdg hl hk hv hn hl2 (fun ls' hl' => k H locs ls' hP hD hS hl')
theorem z_iadd (X : ZC p s m args meth c cc nL own Ts D cA g A) {x y : Int32} (hdg : decode cc pc = .ok (.iadd, 1)) (k : ZW p l e R s m args below meth c D A nL cells slots Q ws lv (pc + 1) (.int (x + y) :: st)) : ZW p l e R s m args below meth c D A nL cells slots Q ws lv pc (.int y :: .int x :: st) := fun H locs ls hP hD hS hl => lv_iadd X.1 X.2.1 hdg (k H locs ls hP hD hS hl)
theorem z_isub (X : ZC p s m args meth c cc nL own Ts D cA g A) {x y : Int32} (hdg : decode cc pc = .ok (.isub, 1)) (k : ZW p l e R s m args below meth c D A nL cells slots Q ws lv (pc + 1) (.int (x - y) :: st)) : ZW p l e R s m args below meth c D A nL cells slots Q ws lv pc (.int y :: .int x :: st) := fun H locs ls hP hD hS hl => lv_isub X.1 X.2.1 hdg (k H locs ls hP hD hS hl)
theorem z_imul (X : ZC p s m args meth c cc nL own Ts D cA g A) {x y : Int32} (hdg : decode cc pc = .ok (.imul, 1)) (k : ZW p l e R s m args below meth c D A nL cells slots Q ws lv (pc + 1) (.int (x * y) :: st)) : ZW p l e R s m args below meth c D A nL cells slots Q ws lv pc (.int y :: .int x :: st) := fun H locs ls hP hD hS hl => lv_imul X.1 X.2.1 hdg (k H locs ls hP hD hS hl)
theorem z_iand (X : ZC p s m args meth c cc nL own Ts D cA g A) {x y : Int32} (hdg : decode cc pc = .ok (.iand, 1)) (k : ZW p l e R s m args below meth c D A nL cells slots Q ws lv (pc + 1) (.int (x &&& y) :: st)) : ZW p l e R s m args below meth c D A nL cells slots Q ws lv pc (.int y :: .int x :: st) := fun H locs ls hP hD hS hl => lv_iand X.1 X.2.1 hdg (k H locs ls hP hD hS hl)
theorem z_ior (X : ZC p s m args meth c cc nL own Ts D cA g A) {x y : Int32} (hdg : decode cc pc = .ok (.ior, 1)) (k : ZW p l e R s m args below meth c D A nL cells slots Q ws lv (pc + 1) (.int (x ||| y) :: st)) : ZW p l e R s m args below meth c D A nL cells slots Q ws lv pc (.int y :: .int x :: st) := fun H locs ls hP hD hS hl => lv_ior X.1 X.2.1 hdg (k H locs ls hP hD hS hl)
theorem z_ixor (X : ZC p s m args meth c cc nL own Ts D cA g A) {x y : Int32} (hdg : decode cc pc = .ok (.ixor, 1)) (k : ZW p l e R s m args below meth c D A nL cells slots Q ws lv (pc + 1) (.int (x ^^^ y) :: st)) : ZW p l e R s m args below meth c D A nL cells slots Q ws lv pc (.int y :: .int x :: st) := fun H locs ls hP hD hS hl => lv_ixor X.1 X.2.1 hdg (k H locs ls hP hD hS hl)
theorem z_ishl (X : ZC p s m args meth c cc nL own Ts D cA g A) {x y : Int32} (hdg : decode cc pc = .ok (.ishl, 1)) (k : ZW p l e R s m args below meth c D A nL cells slots Q ws lv (pc + 1) (.int (x <<< (y &&& 31)) :: st)) : ZW p l e R s m args below meth c D A nL cells slots Q ws lv pc (.int y :: .int x :: st) := fun H locs ls hP hD hS hl => lv_ishl X.1 X.2.1 hdg (k H locs ls hP hD hS hl)
theorem z_ishr (X : ZC p s m args meth c cc nL own Ts D cA g A) {x y : Int32} (hdg : decode cc pc = .ok (.ishr, 1)) (k : ZW p l e R s m args below meth c D A nL cells slots Q ws lv (pc + 1) (.int (x >>> (y &&& 31)) :: st)) : ZW p l e R s m args below meth c D A nL cells slots Q ws lv pc (.int y :: .int x :: st) := fun H locs ls hP hD hS hl => lv_ishr X.1 X.2.1 hdg (k H locs ls hP hD hS hl)
theorem z_iushr (X : ZC p s m args meth c cc nL own Ts D cA g A) {x y : Int32} (hdg : decode cc pc = .ok (.iushr, 1)) (k : ZW p l e R s m args below meth c D A nL cells slots Q ws lv (pc + 1) (.int (x.toUInt32 >>> (y.toUInt32 &&& Int32.toUInt32 31)).toInt32 :: st)) : ZW p l e R s m args below meth c D A nL cells slots Q ws lv pc (.int y :: .int x :: st) := fun H locs ls hP hD hS hl => lv_iushr X.1 X.2.1 hdg rfl (k H locs ls hP hD hS hl)
theorem z_idiv (X : ZC p s m args meth c cc nL own Ts D cA g A) {x y : Int32} (hne : ¬ y = 0) (hdg : decode cc pc = .ok (.idiv, 1)) (k : ZW p l e R s m args below meth c D A nL cells slots Q ws lv (pc + 1) (.int (x / y) :: st)) : ZW p l e R s m args below meth c D A nL cells slots Q ws lv pc (.int y :: .int x :: st) := fun H locs ls hP hD hS hl => lv_idiv X.1 X.2.1 hdg hne (k H locs ls hP hD hS hl)
theorem z_irem (X : ZC p s m args meth c cc nL own Ts D cA g A) {x y : Int32} (hne : ¬ y = 0) (hdg : decode cc pc = .ok (.irem, 1)) (k : ZW p l e R s m args below meth c D A nL cells slots Q ws lv (pc + 1) (.int (x - x / y * y) :: st)) : ZW p l e R s m args below meth c D A nL cells slots Q ws lv pc (.int y :: .int x :: st) := fun H locs ls hP hD hS hl => lv_irem X.1 X.2.1 hdg hne (k H locs ls hP hD hS hl)
theorem z_i2b (X : ZC p s m args meth c cc nL own Ts D cA g A) {x : Int32} (hdg : decode cc pc = .ok (.i2b, 1)) (k : ZW p l e R s m args below meth c D A nL cells slots Q ws lv (pc + 1) (.int x.toInt8.toInt32 :: st)) : ZW p l e R s m args below meth c D A nL cells slots Q ws lv pc (.int x :: st) := fun H locs ls hP hD hS hl => lv_i2b X.1 X.2.1 hdg rfl (k H locs ls hP hD hS hl)
theorem z_i2f (X : ZC p s m args meth c cc nL own Ts D cA g A) {x : Int32} (hdg : decode cc pc = .ok (.i2f, 1)) (k : ZW p l e R s m args below meth c D A nL cells slots Q ws lv (pc + 1) (.float (FP.i2f x) :: st)) : ZW p l e R s m args below meth c D A nL cells slots Q ws lv pc (.int x :: st) := fun H locs ls hP hD hS hl => lv_i2f X.1 X.2.1 hdg (k H locs ls hP hD hS hl)
theorem z_f2i (X : ZC p s m args meth c cc nL own Ts D cA g A) {x : UInt32} (hdg : decode cc pc = .ok (.f2i, 1)) (k : ZW p l e R s m args below meth c D A nL cells slots Q ws lv (pc + 1) (.int (FP.f2i x) :: st)) : ZW p l e R s m args below meth c D A nL cells slots Q ws lv pc (.float x :: st) := fun H locs ls hP hD hS hl => lv_f2i X.1 X.2.1 hdg (k H locs ls hP hD hS hl)
theorem z_fcmp (X : ZC p s m args meth c cc nL own Ts D cA g A) {x y : UInt32} {op : CmpOp} (hdg : decode cc pc = .ok (.fcmp op, 1)) (k : ZW p l e R s m args below meth c D A nL cells slots Q ws lv (pc + 1) (.int (Op.cmpValue (FP.fcmp x y) op) :: st)) : ZW p l e R s m args below meth c D A nL cells slots Q ws lv pc (.float y :: .float x :: st) := fun H locs ls hP hD hS hl => lv_fcmp X.1 X.2.1 hdg (k H locs ls hP hD hS hl)
theorem z_fadd (X : ZC p s m args meth c cc nL own Ts D cA g A) {x y : UInt32} (hne : vf_n32 (FP.fadd x y)) (hdg : decode cc pc = .ok (.fadd, 1)) (k : ZW p l e R s m args below meth c D A nL cells slots Q ws lv (pc + 1) (.float (FP.fadd x y) :: st)) : ZW p l e R s m args below meth c D A nL cells slots Q ws lv pc (.float y :: .float x :: st) := fun H locs ls hP hD hS hl => lv_fadd X.1 X.2.1 hdg hne (k H locs ls hP hD hS hl)
theorem z_fmul (X : ZC p s m args meth c cc nL own Ts D cA g A) {x y : UInt32} (hne : vf_n32 (FP.fmul x y)) (hdg : decode cc pc = .ok (.fmul, 1)) (k : ZW p l e R s m args below meth c D A nL cells slots Q ws lv (pc + 1) (.float (FP.fmul x y) :: st)) : ZW p l e R s m args below meth c D A nL cells slots Q ws lv pc (.float y :: .float x :: st) := fun H locs ls hP hD hS hl => lv_fmul X.1 X.2.1 hdg hne (k H locs ls hP hD hS hl)
theorem z_fdiv (X : ZC p s m args meth c cc nL own Ts D cA g A) {x y : UInt32} (hne : vf_n32 (FP.fdiv x y)) (hdg : decode cc pc = .ok (.fdiv, 1)) (k : ZW p l e R s m args below meth c D A nL cells slots Q ws lv (pc + 1) (.float (FP.fdiv x y) :: st)) : ZW p l e R s m args below meth c D A nL cells slots Q ws lv pc (.float y :: .float x :: st) := fun H locs ls hP hD hS hl => lv_fdiv X.1 X.2.1 hdg hne (k H locs ls hP hD hS hl)
theorem z_fconst0 (X : ZC p s m args meth c cc nL own Ts D cA g A) (hdg : decode cc pc = .ok (.fconst 0, 1)) (k : ZW p l e R s m args below meth c D A nL cells slots Q ws lv (pc + 1) (.float FP.fconst0 :: st)) : ZW p l e R s m args below meth c D A nL cells slots Q ws lv pc st := fun H locs ls hP hD hS hl => lv_fconst0 X.1 X.2.1 hdg (k H locs ls hP hD hS hl)
theorem z_fconst1 (X : ZC p s m args meth c cc nL own Ts D cA g A) (hdg : decode cc pc = .ok (.fconst 1, 1)) (k : ZW p l e R s m args below meth c D A nL cells slots Q ws lv (pc + 1) (.float FP.fconst1 :: st)) : ZW p l e R s m args below meth c D A nL cells slots Q ws lv pc st := fun H locs ls hP hD hS hl => lv_fconst1 X.1 X.2.1 hdg (k H locs ls hP hD hS hl)
theorem z_fconst2 (X : ZC p s m args meth c cc nL own Ts D cA g A) (hdg : decode cc pc = .ok (.fconst 2, 1)) (k : ZW p l e R s m args below meth c D A nL cells slots Q ws lv (pc + 1) (.float FP.fconst2 :: st)) : ZW p l e R s m args below meth c D A nL cells slots Q ws lv pc st := fun H locs ls hP hD hS hl => lv_fconst2 X.1 X.2.1 hdg (k H locs ls hP hD hS hl)
theorem z_dup (X : ZC p s m args meth c cc nL own Ts D cA g A) {va : Value} (hdg : decode cc pc = .ok (.dup, 1)) (hva : va.category = 1) (k : ZW p l e R s m args below meth c D A nL cells slots Q ws lv (pc + 1) (va :: va :: st)) : ZW p l e R s m args below meth c D A nL cells slots Q ws lv pc (va :: st) := fun H locs ls hP hD hS hl => lv_dup X.1 X.2.1 hdg hva (k H locs ls hP hD hS hl)
theorem z_pop (X : ZC p s m args meth c cc nL own Ts D cA g A) {va : Value} (hdg : decode cc pc = .ok (.pop, 1)) (hva : va.category = 1) (k : ZW p l e R s m args below meth c D A nL cells slots Q ws lv (pc + 1) st) : ZW p l e R s m args below meth c D A nL cells slots Q ws lv pc (va :: st) := fun H locs ls hP hD hS hl => lv_pop X.1 X.2.1 hdg hva (k H locs ls hP hD hS hl)
theorem z_dup_x1 (X : ZC p s m args meth c cc nL own Ts D cA g A) {va vb : Value} (hdg : decode cc pc = .ok (.dup_x1, 1)) (hva : va.category = 1) (hvb : vb.category = 1) (k : ZW p l e R s m args below meth c D A nL cells slots Q ws lv (pc + 1) (va :: vb :: va :: st)) : ZW p l e R s m args below meth c D A nL cells slots Q ws lv pc (va :: vb :: st) := fun H locs ls hP hD hS hl => lv_dup_x1 X.1 X.2.1 hdg hva hvb (k H locs ls hP hD hS hl)
theorem z_dup2 (X : ZC p s m args meth c cc nL own Ts D cA g A) {va vb : Value} (hdg : decode cc pc = .ok (.dup2, 1)) (hva : va.category = 1) (hvb : vb.category = 1) (k : ZW p l e R s m args below meth c D A nL cells slots Q ws lv (pc + 1) (va :: vb :: va :: vb :: st)) : ZW p l e R s m args below meth c D A nL cells slots Q ws lv pc (va :: vb :: st) := fun H locs ls hP hD hS hl => lv_dup2_11 X.1 X.2.1 hdg hva hvb (k H locs ls hP hD hS hl)
theorem z_if_eq (X : ZC p s m args meth c cc nL own Ts D cA g A) {x : Int32} {off : Int} {tgt : Nat} (hdg : decode cc pc = .ok (.ifCond .eq off, 3)) (ht : (pc : Int) + off = (tgt : Int)) (kt : x = 0 → ZW p l e R s m args below meth c D A nL cells slots Q ws lv tgt st) (kf : ¬ x = 0 → ZW p l e R s m args below meth c D A nL cells slots Q ws lv (pc + 3) st) : ZW p l e R s m args below meth c D A nL cells slots Q ws lv pc (.int x :: st) := fun H locs ls hP hD hS hl => lv_if_eq X.1 X.2.1 hdg ht (fun q => kt q H locs ls hP hD hS hl) (fun q => kf q H locs ls hP hD hS hl)
theorem z_icmp_eq (X : ZC p s m args meth c cc nL own Ts D cA g A) {x y : Int32} {off : Int} {tgt : Nat} (hdg : decode cc pc = .ok (.if_icmp .eq off, 3)) (ht : (pc : Int) + off = (tgt : Int)) (kt : x = y → ZW p l e R s m args below meth c D A nL cells slots Q ws lv tgt st) (kf : ¬ x = y → ZW p l e R s m args below meth c D A nL cells slots Q ws lv (pc + 3) st) : ZW p l e R s m args below meth c D A nL cells slots Q ws lv pc (.int y :: .int x :: st) := fun H locs ls hP hD hS hl => lv_icmp_eq X.1 X.2.1 hdg ht (fun q => kt q H locs ls hP hD hS hl) (fun q => kf q H locs ls hP hD hS hl)
theorem z_if_ne (X : ZC p s m args meth c cc nL own Ts D cA g A) {x : Int32} {off : Int} {tgt : Nat} (hdg : decode cc pc = .ok (.ifCond .ne off, 3)) (ht : (pc : Int) + off = (tgt : Int)) (kt : ¬ x = 0 → ZW p l e R s m args below meth c D A nL cells slots Q ws lv tgt st) (kf : x = 0 → ZW p l e R s m args below meth c D A nL cells slots Q ws lv (pc + 3) st) : ZW p l e R s m args below meth c D A nL cells slots Q ws lv pc (.int x :: st) := fun H locs ls hP hD hS hl => lv_if_ne X.1 X.2.1 hdg ht (fun q => kt (by first | exact q | simpa using q) H locs ls hP hD hS hl) (fun q => kf (by first | exact q | exact Classical.not_not.mp q | simpa using q) H locs ls hP hD hS hl)
theorem z_icmp_ne (X : ZC p s m args meth c cc nL own Ts D cA g A) {x y : Int32} {off : Int} {tgt : Nat} (hdg : decode cc pc = .ok (.if_icmp .ne off, 3)) (ht : (pc : Int) + off = (tgt : Int)) (kt : ¬ x = y → ZW p l e R s m args below meth c D A nL cells slots Q ws lv tgt st) (kf : x = y → ZW p l e R s m args below meth c D A nL cells slots Q ws lv (pc + 3) st) : ZW p l e R s m args below meth c D A nL cells slots Q ws lv pc (.int y :: .int x :: st) := fun H locs ls hP hD hS hl => lv_icmp_ne X.1 X.2.1 hdg ht (fun q => kt (by first | exact q | simpa using q) H locs ls hP hD hS hl) (fun q => kf (by first | exact q | exact Classical.not_not.mp q | simpa using q) H locs ls hP hD hS hl)
theorem z_if_lt (X : ZC p s m args meth c cc nL own Ts D cA g A) {x : Int32} {off : Int} {tgt : Nat} (hdg : decode cc pc = .ok (.ifCond .lt off, 3)) (ht : (pc : Int) + off = (tgt : Int)) (kt : x < 0 → ZW p l e R s m args below meth c D A nL cells slots Q ws lv tgt st) (kf : ¬ x < 0 → ZW p l e R s m args below meth c D A nL cells slots Q ws lv (pc + 3) st) : ZW p l e R s m args below meth c D A nL cells slots Q ws lv pc (.int x :: st) := fun H locs ls hP hD hS hl => lv_if_lt X.1 X.2.1 hdg ht (fun q => kt q H locs ls hP hD hS hl) (fun q => kf q H locs ls hP hD hS hl)
theorem z_icmp_lt (X : ZC p s m args meth c cc nL own Ts D cA g A) {x y : Int32} {off : Int} {tgt : Nat} (hdg : decode cc pc = .ok (.if_icmp .lt off, 3)) (ht : (pc : Int) + off = (tgt : Int)) (kt : x < y → ZW p l e R s m args below meth c D A nL cells slots Q ws lv tgt st) (kf : ¬ x < y → ZW p l e R s m args below meth c D A nL cells slots Q ws lv (pc + 3) st) : ZW p l e R s m args below meth c D A nL cells slots Q ws lv pc (.int y :: .int x :: st) := fun H locs ls hP hD hS hl => lv_icmp_lt X.1 X.2.1 hdg ht (fun q => kt q H locs ls hP hD hS hl) (fun q => kf q H locs ls hP hD hS hl)
theorem z_if_ge (X : ZC p s m args meth c cc nL own Ts D cA g A) {x : Int32} {off : Int} {tgt : Nat} (hdg : decode cc pc = .ok (.ifCond .ge off, 3)) (ht : (pc : Int) + off = (tgt : Int)) (kt : 0 ≤ x → ZW p l e R s m args below meth c D A nL cells slots Q ws lv tgt st) (kf : ¬ 0 ≤ x → ZW p l e R s m args below meth c D A nL cells slots Q ws lv (pc + 3) st) : ZW p l e R s m args below meth c D A nL cells slots Q ws lv pc (.int x :: st) := fun H locs ls hP hD hS hl => lv_if_ge X.1 X.2.1 hdg ht (fun q => kt q H locs ls hP hD hS hl) (fun q => kf q H locs ls hP hD hS hl)
theorem z_icmp_ge (X : ZC p s m args meth c cc nL own Ts D cA g A) {x y : Int32} {off : Int} {tgt : Nat} (hdg : decode cc pc = .ok (.if_icmp .ge off, 3)) (ht : (pc : Int) + off = (tgt : Int)) (kt : y ≤ x → ZW p l e R s m args below meth c D A nL cells slots Q ws lv tgt st) (kf : ¬ y ≤ x → ZW p l e R s m args below meth c D A nL cells slots Q ws lv (pc + 3) st) : ZW p l e R s m args below meth c D A nL cells slots Q ws lv pc (.int y :: .int x :: st) := fun H locs ls hP hD hS hl => lv_icmp_ge X.1 X.2.1 hdg ht (fun q => kt q H locs ls hP hD hS hl) (fun q => kf q H locs ls hP hD hS hl)
theorem z_if_gt (X : ZC p s m args meth c cc nL own Ts D cA g A) {x : Int32} {off : Int} {tgt : Nat} (hdg : decode cc pc = .ok (.ifCond .gt off, 3)) (ht : (pc : Int) + off = (tgt : Int)) (kt : 0 < x → ZW p l e R s m args below meth c D A nL cells slots Q ws lv tgt st) (kf : ¬ 0 < x → ZW p l e R s m args below meth c D A nL cells slots Q ws lv (pc + 3) st) : ZW p l e R s m args below meth c D A nL cells slots Q ws lv pc (.int x :: st) := fun H locs ls hP hD hS hl => lv_if_gt X.1 X.2.1 hdg ht (fun q => kt q H locs ls hP hD hS hl) (fun q => kf q H locs ls hP hD hS hl)
theorem z_icmp_gt (X : ZC p s m args meth c cc nL own Ts D cA g A) {x y : Int32} {off : Int} {tgt : Nat} (hdg : decode cc pc = .ok (.if_icmp .gt off, 3)) (ht : (pc : Int) + off = (tgt : Int)) (kt : y < x → ZW p l e R s m args below meth c D A nL cells slots Q ws lv tgt st) (kf : ¬ y < x → ZW p l e R s m args below meth c D A nL cells slots Q ws lv (pc + 3) st) : ZW p l e R s m args below meth c D A nL cells slots Q ws lv pc (.int y :: .int x :: st) := fun H locs ls hP hD hS hl => lv_icmp_gt X.1 X.2.1 hdg ht (fun q => kt q H locs ls hP hD hS hl) (fun q => kf q H locs ls hP hD hS hl)
theorem z_if_le (X : ZC p s m args meth c cc nL own Ts D cA g A) {x : Int32} {off : Int} {tgt : Nat} (hdg : decode cc pc = .ok (.ifCond .le off, 3)) (ht : (pc : Int) + off = (tgt : Int)) (kt : x ≤ 0 → ZW p l e R s m args below meth c D A nL cells slots Q ws lv tgt st) (kf : ¬ x ≤ 0 → ZW p l e R s m args below meth c D A nL cells slots Q ws lv (pc + 3) st) : ZW p l e R s m args below meth c D A nL cells slots Q ws lv pc (.int x :: st) := fun H locs ls hP hD hS hl => lv_if_le X.1 X.2.1 hdg ht (fun q => kt q H locs ls hP hD hS hl) (fun q => kf q H locs ls hP hD hS hl)
theorem z_icmp_le (X : ZC p s m args meth c cc nL own Ts D cA g A) {x y : Int32} {off : Int} {tgt : Nat} (hdg : decode cc pc = .ok (.if_icmp .le off, 3)) (ht : (pc : Int) + off = (tgt : Int)) (kt : x ≤ y → ZW p l e R s m args below meth c D A nL cells slots Q ws lv tgt st) (kf : ¬ x ≤ y → ZW p l e R s m args below meth c D A nL cells slots Q ws lv (pc + 3) st) : ZW p l e R s m args below meth c D A nL cells slots Q ws lv pc (.int y :: .int x :: st) := fun H locs ls hP hD hS hl => lv_icmp_le X.1 X.2.1 hdg ht (fun q => kt q H locs ls hP hD hS hl) (fun q => kf q H locs ls hP hD hS hl)
theorem z_goto (X : ZC p s m args meth c cc nL own Ts D cA g A) {off : Int} {tgt : Nat} (hdg : decode cc pc = .ok (.goto off, 3)) (ht : (pc : Int) + off = (tgt : Int)) (k : ZW p l e R s m args below meth c D A nL cells slots Q ws lv tgt st) : ZW p l e R s m args below meth c D A nL cells slots Q ws lv pc st := fun H locs ls hP hD hS hl => lv_goto X.1 X.2.1 hdg ht (k H locs ls hP hD hS hl)
theorem z_tableIn (X : ZC p s m args meth c cc nL own Ts D cA g A) {dflt lo hi : Int} {offs : Array Int} {len : Nat} {x : Int32} {off : Int} {tgt : Nat} (hdg : decode cc pc = .ok (.tableswitch dflt lo hi offs, len)) (h1 : ¬ x.toInt < lo) (h2 : ¬ hi < x.toInt) (ho : offs[(x.toInt - lo).toNat]? = some off) (ht : (pc : Int) + off = (tgt : Int)) (k : ZW p l e R s m args below meth c D A nL cells slots Q ws lv tgt st) : ZW p l e R s m args below meth c D A nL cells slots Q ws lv pc (.int x :: st) := fun H locs ls hP hD hS hl => lv_tableIn X.1 X.2.1 hdg h1 h2 ho ht (k H locs ls hP hD hS hl)
theorem z_tableOut (X : ZC p s m args meth c cc nL own Ts D cA g A) {dflt lo hi : Int} {offs : Array Int} {len : Nat} {x : Int32} {tgt : Nat} (hdg : decode cc pc = .ok (.tableswitch dflt lo hi offs, len)) (h : x.toInt < lo ∨ hi < x.toInt) (ht : (pc : Int) + dflt = (tgt : Int)) (k : ZW p l e R s m args below meth c D A nL cells slots Q ws lv tgt st) : ZW p l e R s m args below meth c D A nL cells slots Q ws lv pc (.int x :: st) := fun H locs ls hP hD hS hl => lv_tableOut X.1 X.2.1 hdg h ht (k H locs ls hP hD hS hl)
theorem z_ldc (X : ZC p s m args meth c cc nL own Ts D cA g A) {index : Nat} {v : Int32} (hc : Cond.constant own index v ∈ Ts) (hdg : decode cc pc = .ok (.ldc index, 2)) (k : ZW p l e R s m args below meth c D A nL cells slots Q ws lv (pc + 2) (.int v :: st)) : ZW p l e R s m args below meth c D A nL cells slots Q ws lv pc st := fun H locs ls hP hD hS hl => lv_ldc X.1 X.2.1 X.2.2.2.1 (X.2.2.2.2.1 _ hc) hdg (k H locs ls hP hD hS hl)
theorem z_ldcw (X : ZC p s m args meth c cc nL own Ts D cA g A) {index : Nat} {v : Int32} (hc : Cond.constant own index v ∈ Ts) (hdg : decode cc pc = .ok (.ldc_w index, 3)) (k : ZW p l e R s m args below meth c D A nL cells slots Q ws lv (pc + 3) (.int v :: st)) : ZW p l e R s m args below meth c D A nL cells slots Q ws lv pc st := fun H locs ls hP hD hS hl => lv_ldcw X.1 X.2.1 X.2.2.2.1 (X.2.2.2.2.1 _ hc) hdg (k H locs ls hP hD hS hl)
theorem z_ldcf (X : ZC p s m args meth c cc nL own Ts D cA g A) {index : Nat} {v : UInt32} (hc : Cond.constantFloat own index v ∈ Ts) (hdg : decode cc pc = .ok (.ldc index, 2)) (k : ZW p l e R s m args below meth c D A nL cells slots Q ws lv (pc + 2) (.float v :: st)) : ZW p l e R s m args below meth c D A nL cells slots Q ws lv pc st := fun H locs ls hP hD hS hl => lv_ldcf X.1 X.2.1 X.2.2.2.1 (X.2.2.2.2.1 _ hc) hdg (k H locs ls hP hD hS hl)
theorem z_lv (ks : List Nat) {lv' : List (Nat × Value)} (hk : lv_pick lv ks = lv') (k : ZW p l e R s m args below meth c D A nL cells slots Q ws lv' pc st) : ZW p l e R s m args below meth c D A nL cells slots Q ws lv pc st := fun H locs ls hP hD hS hl => k H locs ls hP hD hS (lv_sub hl ks hk)
theorem z_nm {x y : Int32} (h : y = x) (k : ZW p l e R s m args below meth c D A nL cells slots Q ws lv pc (.int y :: st)) : ZW p l e R s m args below meth c D A nL cells slots Q ws lv pc (.int x :: st) := by subst h; exact k
theorem z_nmf {x y : UInt32} (h : y = x) (k : ZW p l e R s m args below meth c D A nL cells slots Q ws lv pc (.float y :: st)) : ZW p l e R s m args below meth c D A nL cells slots Q ws lv pc (.float x :: st) := by subst h; exact k
theorem z_ws {ws' : va_W} (h : ws = ws') (k : ZW p l e R s m args below meth c D A nL cells slots Q ws' lv pc st) : ZW p l e R s m args below meth c D A nL cells slots Q ws lv pc st := by subst h; exact k
def ZF (Ts : List Cond) (own : String) (index ci k : Nat) (C : String) (T : u_T) (N : Nat) : Prop := vwCl[ci]? = some (C, T, N) ∧ k < N ∧ (∀ w ∈ u_ws C T N, w ∈ Ts) ∧ Cond.fieldLink own index (T k).1 (T k).2.1 (T k).2.2.1 ∈ Ts
theorem z_get (X : ZC p s m args meth c cc nL own Ts D cA g A) {index ci j N a : Nat} {C : String} {T : u_T} {fs : List Value} {v : Value} (F : ZF Ts own index ci j C T N) (q0 : Nat) (he : ws[q0]? = some (a, .inr (ci, fs))) (hv : fs[j]? = some v) (hdg : decode cc pc = .ok (.getfield index, 3)) (k : ZW p l e R s m args below meth c D A nL cells slots Q ws lv (pc + 3) (v :: st)) : ZW p l e R s m args below meth c D A nL cells slots Q ws lv pc (.ref a :: st) := fun H locs ls hP hD hS hl => va_get X.1 X.2.1 X.2.2.2.2.1 F.2.2.1 X.2.2.2.1 X.2.2.2.2.2.1 hP q0 he F.1 j F.2.1 (X.2.2.2.2.1 _ F.2.2.2) (fun _ h => h) hv hdg (k H locs ls hP hD hS hl)
theorem z_put (X : ZC p s m args meth c cc nL own Ts D cA g A) {index ci j N a : Nat} {C : String} {T : u_T} {fs : List Value} {x : Int32} {ws' : va_W} (F : ZF Ts own index ci j C T N) (ty0 : Nat → FieldType) (hty : ∀ k, k < N → parseFieldDescriptor (T k).2.2.1 = some (ty0 k)) (hnm : ∀ a, a < N → ∀ b, b < N → a ≠ b → (T a).2.1 ≠ (T b).2.1) (hfin : (T j).2.2.2 = false) (hi : ty0 j = .int) (q0 : Nat) (he : ws[q0]? = some (a, .inr (ci, fs))) (hlen : j < fs.length) (hw : ws.set q0 (a, .inr (ci, fs.set j (.int x))) = ws') (hdg : decode cc pc = .ok (.putfield index, 3)) (k : ZW p l e R s m args below meth c D A nL cells slots Q ws' lv (pc + 3) st) : ZW p l e R s m args below meth c D A nL cells slots Q ws lv pc (.int x :: .ref a :: st) := fun H locs ls hP hD hS hl => va_put X.1 X.2.1 X.2.2.2.2.1 F.2.2.1 ty0 hty hnm X.2.2.2.1 X.2.2.2.2.2.1 hP hD hS q0 he F.1 j F.2.1 (X.2.2.2.2.1 _ F.2.2.2) (fun _ h => h) hfin (by rw [hty j F.2.1, hi]) rfl rfl hlen hdg (fun H1 locs1 h1 h2 h3 => k H1 locs1 ls (hw ▸ h1) (hw ▸ h2) h3 hl)
theorem z_putZ (X : ZC p s m args meth c cc nL own Ts D cA g A) {index ci j N a : Nat} {C : String} {T : u_T} {fs : List Value} {x : Int32} {ws' : va_W} (F : ZF Ts own index ci j C T N) (ty0 : Nat → FieldType) (hty : ∀ k, k < N → parseFieldDescriptor (T k).2.2.1 = some (ty0 k)) (hnm : ∀ a, a < N → ∀ b, b < N → a ≠ b → (T a).2.1 ≠ (T b).2.1) (hfin : (T j).2.2.2 = false) (hi : ty0 j = .boolean) (q0 : Nat) (he : ws[q0]? = some (a, .inr (ci, fs))) (hlen : j < fs.length) (hw : ws.set q0 (a, .inr (ci, fs.set j (.int x))) = ws') (h01 : x = 0 ∨ x = 1) (hdg : decode cc pc = .ok (.putfield index, 3)) (k : ZW p l e R s m args below meth c D A nL cells slots Q ws' lv (pc + 3) st) : ZW p l e R s m args below meth c D A nL cells slots Q ws lv pc (.int x :: .ref a :: st) := fun H locs ls hP hD hS hl => va_put X.1 X.2.1 X.2.2.2.2.1 F.2.2.1 ty0 hty hnm X.2.2.2.1 X.2.2.2.2.2.1 hP hD hS q0 he F.1 j F.2.1 (X.2.2.2.2.1 _ F.2.2.2) (fun _ h => h) hfin (by rw [hty j F.2.1, hi]) (by rcases h01 with h | h <;> subst h <;> rfl) (by rcases h01 with h | h <;> subst h <;> rfl) hlen hdg (fun H1 locs1 h1 h2 h3 => k H1 locs1 ls (hw ▸ h1) (hw ▸ h2) h3 hl)
theorem z_iald (X : ZC p s m args meth c cc nL own Ts D cA g A) {a n : Nat} {f : Nat → Int32} {i : Int32} (q0 : Nat) (ha : ws[q0]? = some (a, .inl (cA 0, n, .inl f))) (hin : vp_in i n) (hdg : decode cc pc = .ok (.iaload, 1)) (k : ZW p l e R s m args below meth c D A nL cells slots Q ws lv (pc + 1) (.int (f i.toNatClampNeg) :: st)) : ZW p l e R s m args below meth c D A nL cells slots Q ws lv pc (.int i :: .ref a :: st) := fun H locs ls hP hD hS hl => va_iald X.1 X.2.1 X.2.2.2.2.2.1 hP q0 0 ha rfl hin hdg (k H locs ls hP hD hS hl)
theorem z_bald (X : ZC p s m args meth c cc nL own Ts D cA g A) {a n : Nat} {f : Nat → Int32} {i : Int32} (q0 : Nat) (ha : ws[q0]? = some (a, .inl (cA 2, n, .inl f))) (hin : vp_in i n) (hdg : decode cc pc = .ok (.baload, 1)) (k : ZW p l e R s m args below meth c D A nL cells slots Q ws lv (pc + 1) (.int (f i.toNatClampNeg) :: st)) : ZW p l e R s m args below meth c D A nL cells slots Q ws lv pc (.int i :: .ref a :: st) := fun H locs ls hP hD hS hl => va_bald X.1 X.2.1 X.2.2.2.2.2.1 hP q0 2 ha rfl hin hdg (k H locs ls hP hD hS hl)
theorem z_zald (X : ZC p s m args meth c cc nL own Ts D cA g A) {a n : Nat} {f : Nat → Int32} {i : Int32} (q0 : Nat) (ha : ws[q0]? = some (a, .inl (cA 3, n, .inl f))) (hin : vp_in i n) (hdg : decode cc pc = .ok (.baload, 1)) (k : ZW p l e R s m args below meth c D A nL cells slots Q ws lv (pc + 1) (.int (f i.toNatClampNeg) :: st)) : ZW p l e R s m args below meth c D A nL cells slots Q ws lv pc (.int i :: .ref a :: st) := fun H locs ls hP hD hS hl => va_zald X.1 X.2.1 X.2.2.2.2.2.1 hP q0 3 ha rfl hin hdg (k H locs ls hP hD hS hl)
theorem z_iast (X : ZC p s m args meth c cc nL own Ts D cA g A) {a n : Nat} {f : Nat → Int32} {i x : Int32} {ws' : va_W} (q0 : Nat) (ha : ws[q0]? = some (a, .inl (cA 0, n, .inl f))) (hin : vp_in i n) (hw : ws.set q0 (a, .inl (cA 0, n, .inl (upd f i.toNatClampNeg x))) = ws') (hdg : decode cc pc = .ok (.iastore, 1)) (k : ZW p l e R s m args below meth c D A nL cells slots Q ws' lv (pc + 1) st) : ZW p l e R s m args below meth c D A nL cells slots Q ws lv pc (.int x :: .int i :: .ref a :: st) := fun H locs ls hP hD hS hl => va_iast X.1 X.2.1 X.2.2.2.2.2.1 hP hD hS q0 0 ha rfl hin hdg (fun H1 locs1 h1 h2 h3 => k H1 locs1 ls (hw ▸ h1) (hw ▸ h2) h3 hl)
theorem z_bast (X : ZC p s m args meth c cc nL own Ts D cA g A) {a n : Nat} {f : Nat → Int32} {i x : Int32} {ws' : va_W} (q0 : Nat) (ha : ws[q0]? = some (a, .inl (cA 2, n, .inl f))) (hin : vp_in i n) (hw : ws.set q0 (a, .inl (cA 2, n, .inl (upd f i.toNatClampNeg (vp_nar .byte x)))) = ws') (hdg : decode cc pc = .ok (.bastore, 1)) (k : ZW p l e R s m args below meth c D A nL cells slots Q ws' lv (pc + 1) st) : ZW p l e R s m args below meth c D A nL cells slots Q ws lv pc (.int x :: .int i :: .ref a :: st) := fun H locs ls hP hD hS hl => va_bast X.1 X.2.1 X.2.2.2.2.2.1 hP hD hS q0 2 ha rfl hin hdg (fun H1 locs1 h1 h2 h3 => k H1 locs1 ls (hw ▸ h1) (hw ▸ h2) h3 hl)
theorem z_zast (X : ZC p s m args meth c cc nL own Ts D cA g A) {a n : Nat} {f : Nat → Int32} {i x : Int32} {ws' : va_W} (q0 : Nat) (ha : ws[q0]? = some (a, .inl (cA 3, n, .inl f))) (hin : vp_in i n) (hw : ws.set q0 (a, .inl (cA 3, n, .inl (upd f i.toNatClampNeg (vp_nar .boolean x)))) = ws') (hdg : decode cc pc = .ok (.bastore, 1)) (k : ZW p l e R s m args below meth c D A nL cells slots Q ws' lv (pc + 1) st) : ZW p l e R s m args below meth c D A nL cells slots Q ws lv pc (.int x :: .int i :: .ref a :: st) := fun H locs ls hP hD hS hl => va_zast X.1 X.2.1 X.2.2.2.2.2.1 hP hD hS q0 3 ha rfl hin hdg (fun H1 locs1 h1 h2 h3 => k H1 locs1 ls (hw ▸ h1) (hw ▸ h2) h3 hl)
theorem z_fald (X : ZC p s m args meth c cc nL own Ts D cA g A) {a n : Nat} {f : Nat → UInt32} {i : Int32} (q0 : Nat) (ha : ws[q0]? = some (a, .inl (cA 1, n, .inr (.inr (.inl f))))) (hin : vp_in i n) (hdg : decode cc pc = .ok (.faload, 1)) (k : ZW p l e R s m args below meth c D A nL cells slots Q ws lv (pc + 1) (.float (f i.toNatClampNeg) :: st)) : ZW p l e R s m args below meth c D A nL cells slots Q ws lv pc (.int i :: .ref a :: st) := fun H locs ls hP hD hS hl => va_fald X.1 X.2.1 X.2.2.2.2.2.1 hP q0 1 ha rfl hin hdg (k H locs ls hP hD hS hl)
theorem z_updf (f : Nat → Int32) (i : Nat) (x : UInt32) : vf_upd (fun j => (f j).toUInt32) i x = fun j => (upd f i x.toInt32 j).toUInt32 := by
  funext j
  by_cases h : j = i
  · subst h; simp [vf_upd, upd]
  · simp [vf_upd, upd, h]
theorem z_fast (X : ZC p s m args meth c cc nL own Ts D cA g A) {a n : Nat} {f : Nat → Int32} {i : Int32} {x : UInt32} {ws' : va_W} (q0 : Nat) (ha : ws[q0]? = some (a, .inl (cA 1, n, .inr (.inr (.inl (fun j => (f j).toUInt32)))))) (hin : vp_in i n) (hw : ws.set q0 (a, .inl (cA 1, n, .inr (.inr (.inl (fun j => (upd f i.toNatClampNeg x.toInt32 j).toUInt32))))) = ws') (hdg : decode cc pc = .ok (.fastore, 1)) (k : ZW p l e R s m args below meth c D A nL cells slots Q ws' lv (pc + 1) st) : ZW p l e R s m args below meth c D A nL cells slots Q ws lv pc (.float x :: .int i :: .ref a :: st) := fun H locs ls hP hD hS hl => va_fast X.1 X.2.1 X.2.2.2.2.2.1 hP hD hS q0 1 ha rfl hin hdg (fun H1 locs1 h1 h2 h3 => k H1 locs1 ls (by rw [z_updf] at h1; exact hw ▸ h1) (by rw [z_updf] at h2; exact hw ▸ h2) h3 hl)
theorem z_iret {w0 : va_W} {mc ms : Nat} {v rv : Int32} (X : ZC p s m args meth c cc nL own Ts D cA g A) (hA : A = va_A w0 s.heap.size) (hQ : Q = MQ below (va_Qi (fun (r : Int32) (_ : Unit) => r = rv) (PostW D cA s.heap.size w0 ws) (va_A w0 s.heap.size)) args s mc ms (va_A w0 s.heap.size)) (hr : meth.sig.returnType = some .int)  (hv : v = rv) (hdg : decode cc pc = .ok (.ireturn, 1)) (hc : cells ≤ mc) (hs : slots ≤ ms) : ZW p l e R s m args below meth c D A nL cells slots Q ws lv pc [.int v] := by
  subst hA
  subst hQ
  exact fun H locs ls hP hD hS hl => W.widen hc hs (W.iret X.1 X.2.1 hr  (fun t ht hW => ⟨⟨v, (), rfl, hv, by rw [ht]; exact hP, va_K.moved hW.alike X.2.2.2.2.2.1, hD⟩, hS.F ht⟩) hS.2.2 hdg (hlocks := X.2.2.2.2.2.2.2.1))
theorem z_zret {w0 : va_W} {mc ms : Nat} {v rv : Int32} (X : ZC p s m args meth c cc nL own Ts D cA g A) (hA : A = va_A w0 s.heap.size) (hQ : Q = MQ below (va_Qi (fun (r : Int32) (_ : Unit) => r = rv) (PostW D cA s.heap.size w0 ws) (va_A w0 s.heap.size)) args s mc ms (va_A w0 s.heap.size)) (hr : meth.sig.returnType = some .boolean) (h01 : v = 0 ∨ v = 1) (hv : v = rv) (hdg : decode cc pc = .ok (.ireturn, 1)) (hc : cells ≤ mc) (hs : slots ≤ ms) : ZW p l e R s m args below meth c D A nL cells slots Q ws lv pc [.int v] := by
  subst hA
  subst hQ
  exact fun H locs ls hP hD hS hl => W.widen hc hs (W.zret X.1 X.2.1 hr (by rcases h01 with h | h <;> subst h <;> rfl) (fun t ht hW => ⟨⟨v, (), rfl, hv, by rw [ht]; exact hP, va_K.moved hW.alike X.2.2.2.2.2.1, hD⟩, hS.F ht⟩) hS.2.2 hdg (hlocks := X.2.2.2.2.2.2.2.1))
theorem z_vret {w0 : va_W} {mc ms : Nat} (X : ZC p s m args meth c cc nL own Ts D cA g A) (hA : A = va_A w0 s.heap.size) (hQ : Q = MQ below (va_Qv (fun (_ : Unit) => True) (PostW D cA s.heap.size w0 ws) (va_A w0 s.heap.size)) args s mc ms (va_A w0 s.heap.size)) (hr : meth.sig.returnType = none) (hdg : decode cc pc = .ok (.return_, 1)) (hc : cells ≤ mc) (hs : slots ≤ ms) : ZW p l e R s m args below meth c D A nL cells slots Q ws lv pc [] := by
  subst hA
  subst hQ
  exact fun H locs ls hP hD hS hl => W.widen hc hs (W.vret X.1 X.2.1 hr (fun t ht hW => ⟨⟨(), rfl, trivial, by rw [ht]; exact hP, va_K.moved hW.alike X.2.2.2.2.2.1, hD⟩, hS.F ht⟩) hS.2.2 hdg (hlocks := X.2.2.2.2.2.2.2.1))
def zs (ws wc : va_W) (i : Nat) : Option (Nat × va_E) := bif Nat.ble 1000 i then wc[i - 1000]? else ws[i]?
theorem z_frame {ws wc wc' ws' : va_W} {H H1 : Heap} (hP : va_P D vwCl ws H) (hD : va_D A ws) (isC src : List Nat) (hC : isC.map (fun i => ws[i]?) = wc.map some) (hs : src.map (zs ws wc') = ws'.map some) (hdj : (src.all fun i => Nat.ble 1000 i || !isC.contains i) = true) (had : ws'.map (fun q => q.1) = ws.map (fun q => q.1))
    (hk : ∀ q : Nat, q < H.size → ¬ va_A wc H.size q → H1[q]? = H[q]?) (hP1 : va_P D vwCl wc' H1) : va_P D vwCl ws' H1 ∧ va_D A ws' := by
  refine ⟨fun k q hq => ?_, fun i j x y hx hy hxy => ?_, fun k q hq => ?_⟩
  · have h1 : (src.map (zs ws wc'))[k]? = some (some q) := by rw [hs, List.getElem?_map, hq]; rfl
    rw [List.getElem?_map] at h1
    cases hi : src[k]? with
    | none => rw [hi] at h1; cases h1
    | some i =>
      rw [hi] at h1
      have h2 : zs ws wc' i = some q := Option.some.inj h1
      have h3 := List.all_eq_true.mp hdj i (List.mem_of_getElem? hi)
      unfold zs at h2
      cases hb : Nat.ble 1000 i with
      | true => rw [hb] at h2; exact hP1 _ q h2
      | false =>
        rw [hb] at h2 h3
        have h4 : ws[i]? = some q := h2
        have hat := hP i q h4
        refine hat.kept (hk q.1 hat.lt (fun ha => ?_))
        rcases ha with ⟨k2, e2, h5⟩ | h5
        · obtain ⟨j, h6, h7⟩ := va_in_of isC hC h5
          have := hD.1 i j q (q.1, e2) h4 h7 rfl
          subst this
          have h8 := List.mem_of_getElem? h6
          simp [h8] at h3
        · exact absurd hat.lt (Nat.not_lt.mpr h5)
  · have e : ∀ (k : Nat) (z : Nat × va_E), ws'[k]? = some z → ∃ z2, ws[k]? = some z2 ∧ z2.1 = z.1 := by
      intro k z hz
      have h1 : (ws'.map (fun q => q.1))[k]? = some z.1 := by rw [List.getElem?_map, hz]; rfl
      rw [had, List.getElem?_map] at h1
      cases hw : ws[k]? with
      | none => rw [hw] at h1; cases h1
      | some z2 => rw [hw] at h1; exact ⟨z2, rfl, Option.some.inj h1⟩
    obtain ⟨x2, hx2, ex⟩ := e i x hx
    obtain ⟨y2, hy2, ey⟩ := e j y hy
    exact hD.1 i j x2 y2 hx2 hy2 (by rw [ex, ey, hxy])
  · have h1 : (ws'.map (fun q => q.1))[k]? = some q.1 := by rw [List.getElem?_map, hq]; rfl
    rw [had, List.getElem?_map] at h1
    cases hw : ws[k]? with
    | none => rw [hw] at h1; cases h1
    | some z2 =>
      rw [hw] at h1
      have h2 : z2.1 = q.1 := Option.some.inj h1
      rw [← h2]
      exact hD.2 k z2 hw
theorem z_P {ws wc : va_W} {H : Heap} (hP : va_P D vwCl ws H) (isC : List Nat) (hC : isC.map (fun i => ws[i]?) = wc.map some) : va_P D vwCl wc H := fun k q hk => by
  obtain ⟨i, -, h2⟩ := va_in_of isC hC hk
  exact hP i q h2
theorem z_Vi {y : MethodName} {bytes : ByteArray} {maxL n index mc ms : Nat} {ret : Option FieldType} {wsy : List Cond} {rm : Room} {As rest st0 : List Value} {wc wc' ws' : va_W} {rv : Int32} {C : String} {b : Nat} {ci : Nat} {q : vw_C} {fs : List Value} (X : ZC p s m args meth c cc nL own Ts D cA g A) (cw : CallW R s args own C index y bytes maxL ret wsy rm mc ms n) (hM : ∀ sz, Met l y wsy rm (va_Pc (.ref b :: As) (PreW D cA g sz wc)) (va_Qi (fun (r : Int32) (_ : Unit) => r = rv) (PostW D cA sz wc wc') (va_A wc sz)) mc ms (va_A wc sz)) (isC src : List Nat) (hC : isC.map (fun i => ws[i]?) = wc.map some) (hnd : va_nd isC = true) (hs : src.map (zs ws wc') = ws'.map some) (hdj : (src.all fun i => Nat.ble 1000 i || !isC.contains i) = true) (had : ws'.map (fun q => q.1) = ws.map (fun q => q.1)) (hcl : vwCl[ci]? = some q) (hq : q.1 = C) (hb0 : wc[0]? = some (b, .inr (ci, fs))) (hn : As.length = n) (hst : st0 = As.reverse ++ .ref b :: rest) (hroom : (rest.map fun v => v.category).sum ≤ 8) (hdg : decode cc pc = .ok (.invokevirtual index, 3)) (hf : cells + mc ≤ R.cells ∧ slots + ms ≤ R.slots) (kk : ZW p l e R s m args below meth c D A nL (cells + mc) (slots + ms) Q ws' lv (pc + 3) (.int rv :: rest)) : ZW p l e R s m args below meth c D A nL cells slots Q ws lv pc st0 := by
  intro H locs ls hP hD hS hl
  subst hst
  have hPc := z_P hP isC hC
  have hDc := hD.sub isC hnd hC
  have hFc := va_free hD hS X.2.2.2.2.2.2.1 isC hC
  have hXc := (X.2.2.2.2.2.2.2.2.kept hS.2.1).narrow hFc
  refine va_calli (va_runV (As := As) (rest := rest) ⟨X.1, X.2.1, X.2.2.1, X.2.2.2.1, X.2.2.2.2.1⟩ (hM H.size) cw ⟨pre_blind, by rw [← hq]; exact va_recv X.2.2.2.2.2.1 hPc hcl hb0, fun U hU hW => ⟨rfl, by rw [hU], by rw [hU]; exact hPc, va_K.moved hW.alike X.2.2.2.2.2.1, hDc.weaken (fun _ _ _ _ => trivial), by rw [hU]; exact hXc.warm hW⟩⟩ rfl hn hl.1 rfl (lv_room hroom) hdg hf) hS (fun q _ h => hFc q h) hFc (fun r u t H1 locs1 ht hvm hw hB hz1 hk1 hS1 => ?_)
  obtain ⟨hP1, -, -⟩ := hB
  rw [ht] at hP1
  obtain ⟨hP2, hD2⟩ := z_frame hP hD isC src hC hs hdj had hk1 hP1
  subst hw
  exact kk H1 locs1 ls hP2 hD2 hS1 hl
theorem z_Vv {y : MethodName} {bytes : ByteArray} {maxL n index mc ms : Nat} {ret : Option FieldType} {wsy : List Cond} {rm : Room} {As rest st0 : List Value} {wc wc' ws' : va_W}  {C : String} {b : Nat} {ci : Nat} {q : vw_C} {fs : List Value} (X : ZC p s m args meth c cc nL own Ts D cA g A) (cw : CallW R s args own C index y bytes maxL ret wsy rm mc ms n) (hM : ∀ sz, Met l y wsy rm (va_Pc (.ref b :: As) (PreW D cA g sz wc)) (va_Qv (fun (_ : Unit) => True) (PostW D cA sz wc wc') (va_A wc sz)) mc ms (va_A wc sz)) (isC src : List Nat) (hC : isC.map (fun i => ws[i]?) = wc.map some) (hnd : va_nd isC = true) (hs : src.map (zs ws wc') = ws'.map some) (hdj : (src.all fun i => Nat.ble 1000 i || !isC.contains i) = true) (had : ws'.map (fun q => q.1) = ws.map (fun q => q.1)) (hcl : vwCl[ci]? = some q) (hq : q.1 = C) (hb0 : wc[0]? = some (b, .inr (ci, fs))) (hn : As.length = n) (hst : st0 = As.reverse ++ .ref b :: rest) (hroom : (rest.map fun v => v.category).sum ≤ 8) (hdg : decode cc pc = .ok (.invokevirtual index, 3)) (hf : cells + mc ≤ R.cells ∧ slots + ms ≤ R.slots) (kk : ZW p l e R s m args below meth c D A nL (cells + mc) (slots + ms) Q ws' lv (pc + 3) rest) : ZW p l e R s m args below meth c D A nL cells slots Q ws lv pc st0 := by
  intro H locs ls hP hD hS hl
  subst hst
  have hPc := z_P hP isC hC
  have hDc := hD.sub isC hnd hC
  have hFc := va_free hD hS X.2.2.2.2.2.2.1 isC hC
  have hXc := (X.2.2.2.2.2.2.2.2.kept hS.2.1).narrow hFc
  refine va_callv (va_runV (As := As) (rest := rest) ⟨X.1, X.2.1, X.2.2.1, X.2.2.2.1, X.2.2.2.2.1⟩ (hM H.size) cw ⟨pre_blind, by rw [← hq]; exact va_recv X.2.2.2.2.2.1 hPc hcl hb0, fun U hU hW => ⟨rfl, by rw [hU], by rw [hU]; exact hPc, va_K.moved hW.alike X.2.2.2.2.2.1, hDc.weaken (fun _ _ _ _ => trivial), by rw [hU]; exact hXc.warm hW⟩⟩ rfl hn hl.1 rfl (lv_room hroom) hdg hf) hS (fun q _ h => hFc q h) hFc (fun u t H1 locs1 ht hvm hw hB hz1 hk1 hS1 => ?_)
  obtain ⟨hP1, -, -⟩ := hB
  rw [ht] at hP1
  obtain ⟨hP2, hD2⟩ := z_frame hP hD isC src hC hs hdj had hk1 hP1
  exact kk H1 locs1 ls hP2 hD2 hS1 hl
theorem z_Si {y : MethodName} {bytes : ByteArray} {maxL n index mc ms : Nat} {ret : Option FieldType} {wsy : List Cond} {rm : Room} {As rest st0 : List Value} {wc wc' ws' : va_W} {rv : Int32}  (X : ZC p s m args meth c cc nL own Ts D cA g A) (cw : CallB R s args own index y bytes maxL ret wsy rm mc ms n ∧ (Cond.static y).before args s = true) (hM : ∀ sz, Met l y wsy rm (va_Pc As (PreW D cA g sz wc)) (va_Qi (fun (r : Int32) (_ : Unit) => r = rv) (PostW D cA sz wc wc') (va_A wc sz)) mc ms (va_A wc sz)) (isC src : List Nat) (hC : isC.map (fun i => ws[i]?) = wc.map some) (hnd : va_nd isC = true) (hs : src.map (zs ws wc') = ws'.map some) (hdj : (src.all fun i => Nat.ble 1000 i || !isC.contains i) = true) (had : ws'.map (fun q => q.1) = ws.map (fun q => q.1))  (hn : As.length = n) (hst : st0 = As.reverse ++ rest) (hroom : (rest.map fun v => v.category).sum ≤ 8) (hdg : decode cc pc = .ok (.invokestatic index, 3)) (hf : cells + mc ≤ R.cells ∧ slots + ms ≤ R.slots) (kk : ZW p l e R s m args below meth c D A nL (cells + mc) (slots + ms) Q ws' lv (pc + 3) (.int rv :: rest)) : ZW p l e R s m args below meth c D A nL cells slots Q ws lv pc st0 := by
  intro H locs ls hP hD hS hl
  subst hst
  have hPc := z_P hP isC hC
  have hDc := hD.sub isC hnd hC
  have hFc := va_free hD hS X.2.2.2.2.2.2.1 isC hC
  have hXc := (X.2.2.2.2.2.2.2.2.kept hS.2.1).narrow hFc
  refine va_calli (va_runS (As := As) (rest := rest) ⟨X.1, X.2.1, X.2.2.1, X.2.2.2.1, X.2.2.2.2.1⟩ (hM H.size) cw ⟨pre_blind, fun U hU hW => ⟨rfl, by rw [hU], by rw [hU]; exact hPc, va_K.moved hW.alike X.2.2.2.2.2.1, hDc.weaken (fun _ _ _ _ => trivial), by rw [hU]; exact hXc.warm hW⟩⟩ rfl hn hl.1 rfl (lv_room hroom) hdg hf) hS (fun q _ h => hFc q h) hFc (fun r u t H1 locs1 ht hvm hw hB hz1 hk1 hS1 => ?_)
  obtain ⟨hP1, -, -⟩ := hB
  rw [ht] at hP1
  obtain ⟨hP2, hD2⟩ := z_frame hP hD isC src hC hs hdj had hk1 hP1
  subst hw
  exact kk H1 locs1 ls hP2 hD2 hS1 hl
theorem z_Sv {y : MethodName} {bytes : ByteArray} {maxL n index mc ms : Nat} {ret : Option FieldType} {wsy : List Cond} {rm : Room} {As rest st0 : List Value} {wc wc' ws' : va_W}   (X : ZC p s m args meth c cc nL own Ts D cA g A) (cw : CallB R s args own index y bytes maxL ret wsy rm mc ms n ∧ (Cond.static y).before args s = true) (hM : ∀ sz, Met l y wsy rm (va_Pc As (PreW D cA g sz wc)) (va_Qv (fun (_ : Unit) => True) (PostW D cA sz wc wc') (va_A wc sz)) mc ms (va_A wc sz)) (isC src : List Nat) (hC : isC.map (fun i => ws[i]?) = wc.map some) (hnd : va_nd isC = true) (hs : src.map (zs ws wc') = ws'.map some) (hdj : (src.all fun i => Nat.ble 1000 i || !isC.contains i) = true) (had : ws'.map (fun q => q.1) = ws.map (fun q => q.1))  (hn : As.length = n) (hst : st0 = As.reverse ++ rest) (hroom : (rest.map fun v => v.category).sum ≤ 8) (hdg : decode cc pc = .ok (.invokestatic index, 3)) (hf : cells + mc ≤ R.cells ∧ slots + ms ≤ R.slots) (kk : ZW p l e R s m args below meth c D A nL (cells + mc) (slots + ms) Q ws' lv (pc + 3) rest) : ZW p l e R s m args below meth c D A nL cells slots Q ws lv pc st0 := by
  intro H locs ls hP hD hS hl
  subst hst
  have hPc := z_P hP isC hC
  have hDc := hD.sub isC hnd hC
  have hFc := va_free hD hS X.2.2.2.2.2.2.1 isC hC
  have hXc := (X.2.2.2.2.2.2.2.2.kept hS.2.1).narrow hFc
  refine va_callv (va_runS (As := As) (rest := rest) ⟨X.1, X.2.1, X.2.2.1, X.2.2.2.1, X.2.2.2.2.1⟩ (hM H.size) cw ⟨pre_blind, fun U hU hW => ⟨rfl, by rw [hU], by rw [hU]; exact hPc, va_K.moved hW.alike X.2.2.2.2.2.1, hDc.weaken (fun _ _ _ _ => trivial), by rw [hU]; exact hXc.warm hW⟩⟩ rfl hn hl.1 rfl (lv_room hroom) hdg hf) hS (fun q _ h => hFc q h) hFc (fun u t H1 locs1 ht hvm hw hB hz1 hk1 hS1 => ?_)
  obtain ⟨hP1, -, -⟩ := hB
  rw [ht] at hP1
  obtain ⟨hP2, hD2⟩ := z_frame hP hD isC src hC hs hdj had hk1 hP1
  exact kk H1 locs1 ls hP2 hD2 hS1 hl
theorem z_bk0 {a b0 b1 b2 : Nat} {i : Int32} (X : ZC p s m args meth c cc nL own Ts D cA g A) (q0 : Nat) (ha : ws[q0]? = some (a, .inl (cA 4, 3, .inr (.inr (.inr (.inr (bk b0 b1 b2))))))) (hi : i = 0) (hdg : decode cc pc = .ok (.aaload, 1)) (k : ZW p l e R s m args below meth c D A nL cells slots Q ws lv (pc + 1) (.ref b0 :: st)) : ZW p l e R s m args below meth c D A nL cells slots Q ws lv pc (.int i :: .ref a :: st) := by
  subst hi
  exact fun H locs ls hP hD hS hl => va_aldq X.1 X.2.1 X.2.2.2.2.2.1 hP q0 4 ha rfl (by unfold vp_in; decide) hdg (k H locs ls hP hD hS hl)
theorem z_bk1 {a b0 b1 b2 : Nat} {i : Int32} (X : ZC p s m args meth c cc nL own Ts D cA g A) (q0 : Nat) (ha : ws[q0]? = some (a, .inl (cA 4, 3, .inr (.inr (.inr (.inr (bk b0 b1 b2))))))) (hi : i = 1) (hdg : decode cc pc = .ok (.aaload, 1)) (k : ZW p l e R s m args below meth c D A nL cells slots Q ws lv (pc + 1) (.ref b1 :: st)) : ZW p l e R s m args below meth c D A nL cells slots Q ws lv pc (.int i :: .ref a :: st) := by
  subst hi
  exact fun H locs ls hP hD hS hl => va_aldq X.1 X.2.1 X.2.2.2.2.2.1 hP q0 4 ha rfl (by unfold vp_in; decide) hdg (k H locs ls hP hD hS hl)
theorem z_bk2 {a b0 b1 b2 : Nat} {i : Int32} (X : ZC p s m args meth c cc nL own Ts D cA g A) (q0 : Nat) (ha : ws[q0]? = some (a, .inl (cA 4, 3, .inr (.inr (.inr (.inr (bk b0 b1 b2))))))) (hi : i = 2) (hdg : decode cc pc = .ok (.aaload, 1)) (k : ZW p l e R s m args below meth c D A nL cells slots Q ws lv (pc + 1) (.ref b2 :: st)) : ZW p l e R s m args below meth c D A nL cells slots Q ws lv pc (.int i :: .ref a :: st) := by
  subst hi
  exact fun H locs ls hP hD hS hl => va_aldq X.1 X.2.1 X.2.2.2.2.2.1 hP q0 4 ha rfl (by unfold vp_in; decide) hdg (k H locs ls hP hD hS hl)
theorem bk_2 {i : Int32} (h : vp_in i 3) (h0 : ¬ i = 0) (h1 : ¬ i = 1) : i = 2 := by
  have h := vp_in_iff.mp h
  have e0 : i.toInt ≠ 0 := ne_t h0
  have e1 : i.toInt ≠ 1 := ne_t h1
  have e2 : i.toInt = 2 := by omega
  exact Int32.toInt_inj.mp e2
theorem z_bk {a b0 b1 b2 : Nat} {i : Int32} (X : ZC p s m args meth c cc nL own Ts D cA g A) (q0 : Nat) (ha : ws[q0]? = some (a, .inl (cA 4, 3, .inr (.inr (.inr (.inr (bk b0 b1 b2))))))) (hin : vp_in i 3) (hdg : decode cc pc = .ok (.aaload, 1)) (k0 : i = 0 → ZW p l e R s m args below meth c D A nL cells slots Q ws lv (pc + 1) (.ref b0 :: st)) (k1 : ¬ i = 0 → i = 1 → ZW p l e R s m args below meth c D A nL cells slots Q ws lv (pc + 1) (.ref b1 :: st)) (k2 : ¬ i = 0 → ¬ i = 1 → i = 2 → ZW p l e R s m args below meth c D A nL cells slots Q ws lv (pc + 1) (.ref b2 :: st)) : ZW p l e R s m args below meth c D A nL cells slots Q ws lv pc (.int i :: .ref a :: st) := by
  by_cases h0 : i = 0
  · exact z_bk0 X q0 ha h0 hdg (k0 h0)
  · by_cases h1 : i = 1
    · exact z_bk1 X q0 ha h1 hdg (k1 h0 h1)
    · exact z_bk2 X q0 ha (bk_2 hin h0 h1) hdg (k2 h0 h1 (bk_2 hin h0 h1))
theorem z_copyi {a0 a index n0 n1 : Nat} {f h : Nat → Int32} {sp dp n : Int32} {ws' : va_W} (X : ZC p s m args meth c cc nL own Ts D cA g A) (N : ZN Ts own index arraycopyName "java/lang/System") (q0 q1 : Nat) (ha0 : ws[q0]? = some (a0, .inl (cA 0, n0, .inl f))) (ha1 : ws[q1]? = some (a, .inl (cA 0, n1, .inl h))) (g1 : ¬ sp < 0 ∧ ¬ dp < 0 ∧ ¬ n < 0) (g2 : sp.toNatClampNeg + n.toNatClampNeg ≤ n0 ∧ dp.toNatClampNeg + n.toNatClampNeg ≤ n1) (hw : ws.set q1 (a, .inl (cA 0, n1, .inl (va_cpy f h sp.toNatClampNeg dp.toNatClampNeg n.toNatClampNeg))) = ws') (hfr : 1 ≤ R.frames) (hlo : (st.map fun v => v.category).sum + (nativeFrameWords "java/lang/System" "arraycopy" 5 + 11) ≤ R.locals) (hdg : decode cc pc = .ok (.invokestatic index, 3)) (k : ZW p l e R s m args below meth c D A nL cells slots Q ws' lv (pc + 3) st) : ZW p l e R s m args below meth c D A nL cells slots Q ws lv pc (.int n :: .int dp :: .ref a :: .int sp :: .ref a0 :: st) := fun H locs ls hP hD hS hl => va_copyi X.1 X.2.1 (by rw [X.2.2.1, hl.1]) X.2.2.2.1 (X.2.2.2.2.1 _ N.1) (X.2.2.2.2.1 _ N.2.1) (X.2.2.2.2.1 _ N.2.2.1) (X.2.2.2.2.1 _ N.2.2.2) X.2.2.2.2.2.1 hP hD hS q0 q1 0 0 ha0 ha1 rfl rfl rfl g1.1 g1.2.1 g1.2.2 g2.1 g2.2 (fun i _ => rfl) hfr hlo hdg (fun H1 locs1 h1 h2 h3 => k H1 locs1 ls (hw ▸ h1) (hw ▸ h2) h3 hl)
theorem z_kn (X : ZC p s m args meth c cc nL own Ts D cA g A) {index : Nat} (hk : Cond.fieldLink own index "TwoTierStoreModel" "KNOWN" "[B" ∈ Ts) (hdg : decode cc pc = .ok (.getstatic index, 3)) (k : ZW p l e R s m args below meth c D A nL cells slots Q ws lv (pc + 3) (.ref (g 0) :: st)) : ZW p l e R s m args below meth c D A nL cells slots Q ws lv pc st := fun H locs ls hP hD hS hl => va_gets X.1 X.2.1 X.2.2.2.2.2.2.2.2.1 hS X.2.2.2.1 (X.2.2.2.2.1 _ hk) (fun _ h => h) hdg (k H locs ls hP hD hS hl)
theorem z_knb (X : ZC p s m args meth c cc nL own Ts D cA g A) {i : Int32} (hin : vp_in i 35) (hdg : decode cc pc = .ok (.baload, 1)) (k : ZW p l e R s m args below meth c D A nL cells slots Q ws lv (pc + 1) (.int (sxK.getD i.toNatClampNeg 0) :: st)) : ZW p l e R s m args below meth c D A nL cells slots Q ws lv pc (.int i :: .ref (g 0) :: st) := fun H locs ls hP hD hS hl => va_tb X.1 X.2.1 X.2.2.2.2.2.2.2.2.2.1 hS hin rfl hdg (k H locs ls hP hD hS hl)
theorem z_lookup (X : ZC p s m args meth c cc nL own Ts D cA g A) {dflt : Int} {ps : Array (Int × Int)} {len : Nat} {x : Int32} {off : Int} {tgt : Nat} (hdg : decode cc pc = .ok (.lookupswitch dflt ps, len)) (hp : (ps.toList.zip (ps.toList.drop 1)).all (fun (a, next) => a.1 < next.1) = true) (ho : Op.lookupswitch.offset ps.toList dflt x.toInt = off) (ht : (pc : Int) + off = (tgt : Int)) (k : ZW p l e R s m args below meth c D A nL cells slots Q ws lv tgt st) : ZW p l e R s m args below meth c D A nL cells slots Q ws lv pc (.int x :: st) := fun H locs ls hP hD hS hl => lv_lookup X.1 X.2.1 hdg hp ho ht (k H locs ls hP hD hS hl)
theorem z_cpyf (f h : Nat → Int32) (a b n : Nat) : va_cpy (fun j => (f j).toUInt32) (fun j => (h j).toUInt32) a b n = fun j => (va_cpy f h a b n j).toUInt32 := by
  funext j
  unfold va_cpy
  split <;> rfl
theorem z_copyf {a0 a index n0 n1 : Nat} {f h : Nat → Int32} {sp dp n : Int32} {ws' : va_W} (X : ZC p s m args meth c cc nL own Ts D cA g A) (N : ZN Ts own index arraycopyName "java/lang/System") (q0 q1 : Nat) (ha0 : ws[q0]? = some (a0, .inl (cA 1, n0, .inr (.inr (.inl (fun j => (f j).toUInt32)))))) (ha1 : ws[q1]? = some (a, .inl (cA 1, n1, .inr (.inr (.inl (fun j => (h j).toUInt32)))))) (g1 : ¬ sp < 0 ∧ ¬ dp < 0 ∧ ¬ n < 0) (g2 : sp.toNatClampNeg + n.toNatClampNeg ≤ n0 ∧ dp.toNatClampNeg + n.toNatClampNeg ≤ n1) (hw : ws.set q1 (a, .inl (cA 1, n1, .inr (.inr (.inl (fun j => (va_cpy f h sp.toNatClampNeg dp.toNatClampNeg n.toNatClampNeg j).toUInt32))))) = ws') (hfr : 1 ≤ R.frames) (hlo : (st.map fun v => v.category).sum + (nativeFrameWords "java/lang/System" "arraycopy" 5 + 11) ≤ R.locals) (hdg : decode cc pc = .ok (.invokestatic index, 3)) (k : ZW p l e R s m args below meth c D A nL cells slots Q ws' lv (pc + 3) st) : ZW p l e R s m args below meth c D A nL cells slots Q ws lv pc (.int n :: .int dp :: .ref a :: .int sp :: .ref a0 :: st) := fun H locs ls hP hD hS hl => va_copyf X.1 X.2.1 (by rw [X.2.2.1, hl.1]) X.2.2.2.1 (X.2.2.2.2.1 _ N.1) (X.2.2.2.2.1 _ N.2.1) (X.2.2.2.2.1 _ N.2.2.1) (X.2.2.2.2.1 _ N.2.2.2) X.2.2.2.2.2.1 hP hD hS q0 q1 1 1 ha0 ha1 rfl rfl rfl g1.1 g1.2.1 g1.2.2 g2.1 g2.2 (fun i _ => rfl) hfr hlo hdg (fun H1 locs1 h1 h2 h3 => k H1 locs1 ls (by rw [z_cpyf] at h1; exact hw ▸ h1) (by rw [z_cpyf] at h2; exact hw ▸ h2) h3 hl)
theorem z_i2fb (X : ZC p s m args meth c cc nL own Ts D cA g A) {index : Nat} {b : Int32} (N : ZN Ts own index ⟨"java/lang/Float", "intBitsToFloat", "(I)F"⟩ "java/lang/Float") (hv : vn_sni2f b = false) (hfr : 1 ≤ R.frames) (hlo : (st.map fun v => v.category).sum + 15 ≤ R.locals) (hdg : decode cc pc = .ok (.invokestatic index, 3)) (k : ZW p l e R s m args below meth c D A nL cells slots Q ws lv (pc + 3) (.float b.toUInt32 :: st)) : ZW p l e R s m args below meth c D A nL cells slots Q ws lv pc (.int b :: st) := fun H locs ls hP hD hS hl => vn_i2f X.1 X.2.1 (by rw [X.2.2.1, hl.1]) X.2.2.2.1 (X.2.2.2.2.1 _ N.1) (X.2.2.2.2.1 _ N.2.1) (X.2.2.2.2.1 _ N.2.2.1) (X.2.2.2.2.1 _ N.2.2.2) hv hfr hlo hdg (k H locs ls hP hD hS hl)
theorem z_f2ib (X : ZC p s m args meth c cc nL own Ts D cA g A) {index : Nat} {b : UInt32} (N : ZN Ts own index ⟨"java/lang/Float", "floatToRawIntBits", "(F)I"⟩ "java/lang/Float") (hfr : 1 ≤ R.frames) (hlo : (st.map fun v => v.category).sum + 15 ≤ R.locals) (hdg : decode cc pc = .ok (.invokestatic index, 3)) (k : ZW p l e R s m args below meth c D A nL cells slots Q ws lv (pc + 3) (.int b.toInt32 :: st)) : ZW p l e R s m args below meth c D A nL cells slots Q ws lv pc (.float b :: st) := fun H locs ls hP hD hS hl => vn_f2i X.1 X.2.1 (by rw [X.2.2.1, hl.1]) X.2.2.2.1 (X.2.2.2.2.1 _ N.1) (X.2.2.2.2.1 _ N.2.1) (X.2.2.2.2.1 _ N.2.2.1) (X.2.2.2.2.1 _ N.2.2.2) hfr hlo hdg (k H locs ls hP hD hS hl)
end ZR
