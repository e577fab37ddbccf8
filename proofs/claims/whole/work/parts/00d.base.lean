/-! ===== pure layer: results of pictures ===== -/
def Ok {α : Type} (x : Option α) (Q : α → Prop) : Prop := ∃ y, x = some y ∧ Q y
theorem ok_mono {α : Type} {x : Option α} {Q R : α → Prop} (h : Ok x Q) (g : ∀ y, Q y → R y) : Ok x R := by
  obtain ⟨y, e, q⟩ := h
  exact ⟨y, e, g y q⟩
theorem ok_some {α : Type} {y : α} {Q : α → Prop} : Ok (some y) Q ↔ Q y := by
  constructor
  · rintro ⟨z, e, q⟩
    cases e
    exact q
  · intro q
    exact ⟨y, rfl, q⟩
theorem ok_eq {α : Type} {x : Option α} {y : α} {Q : α → Prop} (e : x = some y) (q : Q y) : Ok x Q := ⟨y, e, q⟩
theorem ok_nx {α β : Type} {a : α} {f : α → Option β} {Q : β → Prop} : Ok (nx a f) Q ↔ Ok (f a) Q := Iff.rfl
theorem nx_eq {α β : Type} (a : α) (f : α → β) : nx a f = f a := rfl
/-- what a loop's body leads to -/
def Lp {α χ : Type} (I : α → Prop) (Q : χ → Prop) : α ⊕ χ → Prop
  | .inl a => I a
  | .inr x => Q x
theorem Lp_l {α χ : Type} {I : α → Prop} {Q : χ → Prop} {a : α} : Lp I Q (.inl a) ↔ I a := Iff.rfl
theorem Lp_r {α χ : Type} {I : α → Prop} {Q : χ → Prop} {x : χ} : Lp I Q (.inr x) ↔ Q x := Iff.rfl
theorem ok_ite {α : Type} {c : Prop} {_ : Decidable c} {x y : Option α} {Q : α → Prop} (h1 : c → Ok x Q) (h2 : ¬ c → Ok y Q) : Ok (if c then x else y) Q := by
  by_cases h : c
  · rw [if_pos h]; exact h1 h
  · rw [if_neg h]; exact h2 h

theorem ok_zb0 {β : Type} {x : Option Unit} {f : Option β} {Q : β → Prop} : Ok (zb0 x f) Q ↔ Ok x (fun _ => Ok f Q) := by
  cases x with
  | none => exact ⟨fun ⟨_, e, _⟩ => (by cases e), fun ⟨_, e, _⟩ => (by cases e)⟩
  | some v => exact ⟨fun h => ⟨v, rfl, h⟩, fun ⟨_, _, h⟩ => h⟩
theorem zb0_s {β : Type} (f : Option β) : zb0 (some ()) f = f := rfl
theorem ok_ze0 {ρ β : Type} {x : Option (Unit ⊕ ρ)} {j : ρ → Option β} {f : Option β} {Q : β → Prop} : Ok (ze0 x j f) Q ↔ Ok x (Lp (fun _ => Ok f Q) (fun r => Ok (j r) Q)) := by
  cases x with
  | none => exact ⟨fun ⟨_, e, _⟩ => (by cases e), fun ⟨_, e, _⟩ => (by cases e)⟩
  | some v =>
    cases v with
    | inl v => exact ⟨fun h => ⟨_, rfl, h⟩, fun ⟨_, e, h⟩ => by cases e; exact h⟩
    | inr v => exact ⟨fun h => ⟨_, rfl, h⟩, fun ⟨_, e, h⟩ => by cases e; exact h⟩
theorem ze0_l {ρ β : Type} {j : ρ → Option β} {f : Option β} : ze0 (some (.inl ())) j f = f := rfl
theorem ze0_r {ρ β : Type} {r : ρ} {j : ρ → Option β} {f : Option β} : ze0 (some (.inr r)) j f = j r := rfl

theorem zb1_s {α0 β : Type} (a0 : α0) (f : α0 → Option β) : zb1 (some a0) f = f a0 := rfl
theorem ok_zb1 {α0 β : Type} {x : Option (α0)} {f : α0 → Option β} {Q : β → Prop} : Ok (zb1 x f) Q ↔ Ok x (fun p => Ok (f p) Q) := by
  cases x with
  | none => exact ⟨fun ⟨_, e, _⟩ => (by cases e), fun ⟨_, e, _⟩ => (by cases e)⟩
  | some v => exact ⟨fun h => ⟨v, rfl, h⟩, fun ⟨_, e, h⟩ => by cases e; exact h⟩
theorem zb2_s {α0 α1 β : Type} (a0 : α0) (a1 : α1) (f : α0 → α1 → Option β) : zb2 (some (a0, a1)) f = f a0 a1 := rfl
theorem ok_zb2 {α0 α1 β : Type} {x : Option (α0 × α1)} {f : α0 → α1 → Option β} {Q : β → Prop} : Ok (zb2 x f) Q ↔ Ok x (fun p => Ok (f p.1 p.2) Q) := by
  cases x with
  | none => exact ⟨fun ⟨_, e, _⟩ => (by cases e), fun ⟨_, e, _⟩ => (by cases e)⟩
  | some v => exact ⟨fun h => ⟨v, rfl, h⟩, fun ⟨_, e, h⟩ => by cases e; exact h⟩
theorem zb3_s {α0 α1 α2 β : Type} (a0 : α0) (a1 : α1) (a2 : α2) (f : α0 → α1 → α2 → Option β) : zb3 (some (a0, a1, a2)) f = f a0 a1 a2 := rfl
theorem ok_zb3 {α0 α1 α2 β : Type} {x : Option (α0 × α1 × α2)} {f : α0 → α1 → α2 → Option β} {Q : β → Prop} : Ok (zb3 x f) Q ↔ Ok x (fun p => Ok (f p.1 p.2.1 p.2.2) Q) := by
  cases x with
  | none => exact ⟨fun ⟨_, e, _⟩ => (by cases e), fun ⟨_, e, _⟩ => (by cases e)⟩
  | some v => exact ⟨fun h => ⟨v, rfl, h⟩, fun ⟨_, e, h⟩ => by cases e; exact h⟩
theorem zb4_s {α0 α1 α2 α3 β : Type} (a0 : α0) (a1 : α1) (a2 : α2) (a3 : α3) (f : α0 → α1 → α2 → α3 → Option β) : zb4 (some (a0, a1, a2, a3)) f = f a0 a1 a2 a3 := rfl
theorem ok_zb4 {α0 α1 α2 α3 β : Type} {x : Option (α0 × α1 × α2 × α3)} {f : α0 → α1 → α2 → α3 → Option β} {Q : β → Prop} : Ok (zb4 x f) Q ↔ Ok x (fun p => Ok (f p.1 p.2.1 p.2.2.1 p.2.2.2) Q) := by
  cases x with
  | none => exact ⟨fun ⟨_, e, _⟩ => (by cases e), fun ⟨_, e, _⟩ => (by cases e)⟩
  | some v => exact ⟨fun h => ⟨v, rfl, h⟩, fun ⟨_, e, h⟩ => by cases e; exact h⟩
theorem zb5_s {α0 α1 α2 α3 α4 β : Type} (a0 : α0) (a1 : α1) (a2 : α2) (a3 : α3) (a4 : α4) (f : α0 → α1 → α2 → α3 → α4 → Option β) : zb5 (some (a0, a1, a2, a3, a4)) f = f a0 a1 a2 a3 a4 := rfl
theorem ok_zb5 {α0 α1 α2 α3 α4 β : Type} {x : Option (α0 × α1 × α2 × α3 × α4)} {f : α0 → α1 → α2 → α3 → α4 → Option β} {Q : β → Prop} : Ok (zb5 x f) Q ↔ Ok x (fun p => Ok (f p.1 p.2.1 p.2.2.1 p.2.2.2.1 p.2.2.2.2) Q) := by
  cases x with
  | none => exact ⟨fun ⟨_, e, _⟩ => (by cases e), fun ⟨_, e, _⟩ => (by cases e)⟩
  | some v => exact ⟨fun h => ⟨v, rfl, h⟩, fun ⟨_, e, h⟩ => by cases e; exact h⟩
theorem zb6_s {α0 α1 α2 α3 α4 α5 β : Type} (a0 : α0) (a1 : α1) (a2 : α2) (a3 : α3) (a4 : α4) (a5 : α5) (f : α0 → α1 → α2 → α3 → α4 → α5 → Option β) : zb6 (some (a0, a1, a2, a3, a4, a5)) f = f a0 a1 a2 a3 a4 a5 := rfl
theorem ok_zb6 {α0 α1 α2 α3 α4 α5 β : Type} {x : Option (α0 × α1 × α2 × α3 × α4 × α5)} {f : α0 → α1 → α2 → α3 → α4 → α5 → Option β} {Q : β → Prop} : Ok (zb6 x f) Q ↔ Ok x (fun p => Ok (f p.1 p.2.1 p.2.2.1 p.2.2.2.1 p.2.2.2.2.1 p.2.2.2.2.2) Q) := by
  cases x with
  | none => exact ⟨fun ⟨_, e, _⟩ => (by cases e), fun ⟨_, e, _⟩ => (by cases e)⟩
  | some v => exact ⟨fun h => ⟨v, rfl, h⟩, fun ⟨_, e, h⟩ => by cases e; exact h⟩
theorem zb7_s {α0 α1 α2 α3 α4 α5 α6 β : Type} (a0 : α0) (a1 : α1) (a2 : α2) (a3 : α3) (a4 : α4) (a5 : α5) (a6 : α6) (f : α0 → α1 → α2 → α3 → α4 → α5 → α6 → Option β) : zb7 (some (a0, a1, a2, a3, a4, a5, a6)) f = f a0 a1 a2 a3 a4 a5 a6 := rfl
theorem ok_zb7 {α0 α1 α2 α3 α4 α5 α6 β : Type} {x : Option (α0 × α1 × α2 × α3 × α4 × α5 × α6)} {f : α0 → α1 → α2 → α3 → α4 → α5 → α6 → Option β} {Q : β → Prop} : Ok (zb7 x f) Q ↔ Ok x (fun p => Ok (f p.1 p.2.1 p.2.2.1 p.2.2.2.1 p.2.2.2.2.1 p.2.2.2.2.2.1 p.2.2.2.2.2.2) Q) := by
  cases x with
  | none => exact ⟨fun ⟨_, e, _⟩ => (by cases e), fun ⟨_, e, _⟩ => (by cases e)⟩
  | some v => exact ⟨fun h => ⟨v, rfl, h⟩, fun ⟨_, e, h⟩ => by cases e; exact h⟩
theorem zb8_s {α0 α1 α2 α3 α4 α5 α6 α7 β : Type} (a0 : α0) (a1 : α1) (a2 : α2) (a3 : α3) (a4 : α4) (a5 : α5) (a6 : α6) (a7 : α7) (f : α0 → α1 → α2 → α3 → α4 → α5 → α6 → α7 → Option β) : zb8 (some (a0, a1, a2, a3, a4, a5, a6, a7)) f = f a0 a1 a2 a3 a4 a5 a6 a7 := rfl
theorem ok_zb8 {α0 α1 α2 α3 α4 α5 α6 α7 β : Type} {x : Option (α0 × α1 × α2 × α3 × α4 × α5 × α6 × α7)} {f : α0 → α1 → α2 → α3 → α4 → α5 → α6 → α7 → Option β} {Q : β → Prop} : Ok (zb8 x f) Q ↔ Ok x (fun p => Ok (f p.1 p.2.1 p.2.2.1 p.2.2.2.1 p.2.2.2.2.1 p.2.2.2.2.2.1 p.2.2.2.2.2.2.1 p.2.2.2.2.2.2.2) Q) := by
  cases x with
  | none => exact ⟨fun ⟨_, e, _⟩ => (by cases e), fun ⟨_, e, _⟩ => (by cases e)⟩
  | some v => exact ⟨fun h => ⟨v, rfl, h⟩, fun ⟨_, e, h⟩ => by cases e; exact h⟩
theorem zb9_s {α0 α1 α2 α3 α4 α5 α6 α7 α8 β : Type} (a0 : α0) (a1 : α1) (a2 : α2) (a3 : α3) (a4 : α4) (a5 : α5) (a6 : α6) (a7 : α7) (a8 : α8) (f : α0 → α1 → α2 → α3 → α4 → α5 → α6 → α7 → α8 → Option β) : zb9 (some (a0, a1, a2, a3, a4, a5, a6, a7, a8)) f = f a0 a1 a2 a3 a4 a5 a6 a7 a8 := rfl
theorem ok_zb9 {α0 α1 α2 α3 α4 α5 α6 α7 α8 β : Type} {x : Option (α0 × α1 × α2 × α3 × α4 × α5 × α6 × α7 × α8)} {f : α0 → α1 → α2 → α3 → α4 → α5 → α6 → α7 → α8 → Option β} {Q : β → Prop} : Ok (zb9 x f) Q ↔ Ok x (fun p => Ok (f p.1 p.2.1 p.2.2.1 p.2.2.2.1 p.2.2.2.2.1 p.2.2.2.2.2.1 p.2.2.2.2.2.2.1 p.2.2.2.2.2.2.2.1 p.2.2.2.2.2.2.2.2) Q) := by
  cases x with
  | none => exact ⟨fun ⟨_, e, _⟩ => (by cases e), fun ⟨_, e, _⟩ => (by cases e)⟩
  | some v => exact ⟨fun h => ⟨v, rfl, h⟩, fun ⟨_, e, h⟩ => by cases e; exact h⟩
theorem zb10_s {α0 α1 α2 α3 α4 α5 α6 α7 α8 α9 β : Type} (a0 : α0) (a1 : α1) (a2 : α2) (a3 : α3) (a4 : α4) (a5 : α5) (a6 : α6) (a7 : α7) (a8 : α8) (a9 : α9) (f : α0 → α1 → α2 → α3 → α4 → α5 → α6 → α7 → α8 → α9 → Option β) : zb10 (some (a0, a1, a2, a3, a4, a5, a6, a7, a8, a9)) f = f a0 a1 a2 a3 a4 a5 a6 a7 a8 a9 := rfl
theorem ok_zb10 {α0 α1 α2 α3 α4 α5 α6 α7 α8 α9 β : Type} {x : Option (α0 × α1 × α2 × α3 × α4 × α5 × α6 × α7 × α8 × α9)} {f : α0 → α1 → α2 → α3 → α4 → α5 → α6 → α7 → α8 → α9 → Option β} {Q : β → Prop} : Ok (zb10 x f) Q ↔ Ok x (fun p => Ok (f p.1 p.2.1 p.2.2.1 p.2.2.2.1 p.2.2.2.2.1 p.2.2.2.2.2.1 p.2.2.2.2.2.2.1 p.2.2.2.2.2.2.2.1 p.2.2.2.2.2.2.2.2.1 p.2.2.2.2.2.2.2.2.2) Q) := by
  cases x with
  | none => exact ⟨fun ⟨_, e, _⟩ => (by cases e), fun ⟨_, e, _⟩ => (by cases e)⟩
  | some v => exact ⟨fun h => ⟨v, rfl, h⟩, fun ⟨_, e, h⟩ => by cases e; exact h⟩
theorem zb11_s {α0 α1 α2 α3 α4 α5 α6 α7 α8 α9 α10 β : Type} (a0 : α0) (a1 : α1) (a2 : α2) (a3 : α3) (a4 : α4) (a5 : α5) (a6 : α6) (a7 : α7) (a8 : α8) (a9 : α9) (a10 : α10) (f : α0 → α1 → α2 → α3 → α4 → α5 → α6 → α7 → α8 → α9 → α10 → Option β) : zb11 (some (a0, a1, a2, a3, a4, a5, a6, a7, a8, a9, a10)) f = f a0 a1 a2 a3 a4 a5 a6 a7 a8 a9 a10 := rfl
theorem ok_zb11 {α0 α1 α2 α3 α4 α5 α6 α7 α8 α9 α10 β : Type} {x : Option (α0 × α1 × α2 × α3 × α4 × α5 × α6 × α7 × α8 × α9 × α10)} {f : α0 → α1 → α2 → α3 → α4 → α5 → α6 → α7 → α8 → α9 → α10 → Option β} {Q : β → Prop} : Ok (zb11 x f) Q ↔ Ok x (fun p => Ok (f p.1 p.2.1 p.2.2.1 p.2.2.2.1 p.2.2.2.2.1 p.2.2.2.2.2.1 p.2.2.2.2.2.2.1 p.2.2.2.2.2.2.2.1 p.2.2.2.2.2.2.2.2.1 p.2.2.2.2.2.2.2.2.2.1 p.2.2.2.2.2.2.2.2.2.2) Q) := by
  cases x with
  | none => exact ⟨fun ⟨_, e, _⟩ => (by cases e), fun ⟨_, e, _⟩ => (by cases e)⟩
  | some v => exact ⟨fun h => ⟨v, rfl, h⟩, fun ⟨_, e, h⟩ => by cases e; exact h⟩
theorem zb12_s {α0 α1 α2 α3 α4 α5 α6 α7 α8 α9 α10 α11 β : Type} (a0 : α0) (a1 : α1) (a2 : α2) (a3 : α3) (a4 : α4) (a5 : α5) (a6 : α6) (a7 : α7) (a8 : α8) (a9 : α9) (a10 : α10) (a11 : α11) (f : α0 → α1 → α2 → α3 → α4 → α5 → α6 → α7 → α8 → α9 → α10 → α11 → Option β) : zb12 (some (a0, a1, a2, a3, a4, a5, a6, a7, a8, a9, a10, a11)) f = f a0 a1 a2 a3 a4 a5 a6 a7 a8 a9 a10 a11 := rfl
theorem ok_zb12 {α0 α1 α2 α3 α4 α5 α6 α7 α8 α9 α10 α11 β : Type} {x : Option (α0 × α1 × α2 × α3 × α4 × α5 × α6 × α7 × α8 × α9 × α10 × α11)} {f : α0 → α1 → α2 → α3 → α4 → α5 → α6 → α7 → α8 → α9 → α10 → α11 → Option β} {Q : β → Prop} : Ok (zb12 x f) Q ↔ Ok x (fun p => Ok (f p.1 p.2.1 p.2.2.1 p.2.2.2.1 p.2.2.2.2.1 p.2.2.2.2.2.1 p.2.2.2.2.2.2.1 p.2.2.2.2.2.2.2.1 p.2.2.2.2.2.2.2.2.1 p.2.2.2.2.2.2.2.2.2.1 p.2.2.2.2.2.2.2.2.2.2.1 p.2.2.2.2.2.2.2.2.2.2.2) Q) := by
  cases x with
  | none => exact ⟨fun ⟨_, e, _⟩ => (by cases e), fun ⟨_, e, _⟩ => (by cases e)⟩
  | some v => exact ⟨fun h => ⟨v, rfl, h⟩, fun ⟨_, e, h⟩ => by cases e; exact h⟩
theorem zb13_s {α0 α1 α2 α3 α4 α5 α6 α7 α8 α9 α10 α11 α12 β : Type} (a0 : α0) (a1 : α1) (a2 : α2) (a3 : α3) (a4 : α4) (a5 : α5) (a6 : α6) (a7 : α7) (a8 : α8) (a9 : α9) (a10 : α10) (a11 : α11) (a12 : α12) (f : α0 → α1 → α2 → α3 → α4 → α5 → α6 → α7 → α8 → α9 → α10 → α11 → α12 → Option β) : zb13 (some (a0, a1, a2, a3, a4, a5, a6, a7, a8, a9, a10, a11, a12)) f = f a0 a1 a2 a3 a4 a5 a6 a7 a8 a9 a10 a11 a12 := rfl
theorem ok_zb13 {α0 α1 α2 α3 α4 α5 α6 α7 α8 α9 α10 α11 α12 β : Type} {x : Option (α0 × α1 × α2 × α3 × α4 × α5 × α6 × α7 × α8 × α9 × α10 × α11 × α12)} {f : α0 → α1 → α2 → α3 → α4 → α5 → α6 → α7 → α8 → α9 → α10 → α11 → α12 → Option β} {Q : β → Prop} : Ok (zb13 x f) Q ↔ Ok x (fun p => Ok (f p.1 p.2.1 p.2.2.1 p.2.2.2.1 p.2.2.2.2.1 p.2.2.2.2.2.1 p.2.2.2.2.2.2.1 p.2.2.2.2.2.2.2.1 p.2.2.2.2.2.2.2.2.1 p.2.2.2.2.2.2.2.2.2.1 p.2.2.2.2.2.2.2.2.2.2.1 p.2.2.2.2.2.2.2.2.2.2.2.1 p.2.2.2.2.2.2.2.2.2.2.2.2) Q) := by
  cases x with
  | none => exact ⟨fun ⟨_, e, _⟩ => (by cases e), fun ⟨_, e, _⟩ => (by cases e)⟩
  | some v => exact ⟨fun h => ⟨v, rfl, h⟩, fun ⟨_, e, h⟩ => by cases e; exact h⟩
theorem zb14_s {α0 α1 α2 α3 α4 α5 α6 α7 α8 α9 α10 α11 α12 α13 β : Type} (a0 : α0) (a1 : α1) (a2 : α2) (a3 : α3) (a4 : α4) (a5 : α5) (a6 : α6) (a7 : α7) (a8 : α8) (a9 : α9) (a10 : α10) (a11 : α11) (a12 : α12) (a13 : α13) (f : α0 → α1 → α2 → α3 → α4 → α5 → α6 → α7 → α8 → α9 → α10 → α11 → α12 → α13 → Option β) : zb14 (some (a0, a1, a2, a3, a4, a5, a6, a7, a8, a9, a10, a11, a12, a13)) f = f a0 a1 a2 a3 a4 a5 a6 a7 a8 a9 a10 a11 a12 a13 := rfl
theorem ok_zb14 {α0 α1 α2 α3 α4 α5 α6 α7 α8 α9 α10 α11 α12 α13 β : Type} {x : Option (α0 × α1 × α2 × α3 × α4 × α5 × α6 × α7 × α8 × α9 × α10 × α11 × α12 × α13)} {f : α0 → α1 → α2 → α3 → α4 → α5 → α6 → α7 → α8 → α9 → α10 → α11 → α12 → α13 → Option β} {Q : β → Prop} : Ok (zb14 x f) Q ↔ Ok x (fun p => Ok (f p.1 p.2.1 p.2.2.1 p.2.2.2.1 p.2.2.2.2.1 p.2.2.2.2.2.1 p.2.2.2.2.2.2.1 p.2.2.2.2.2.2.2.1 p.2.2.2.2.2.2.2.2.1 p.2.2.2.2.2.2.2.2.2.1 p.2.2.2.2.2.2.2.2.2.2.1 p.2.2.2.2.2.2.2.2.2.2.2.1 p.2.2.2.2.2.2.2.2.2.2.2.2.1 p.2.2.2.2.2.2.2.2.2.2.2.2.2) Q) := by
  cases x with
  | none => exact ⟨fun ⟨_, e, _⟩ => (by cases e), fun ⟨_, e, _⟩ => (by cases e)⟩
  | some v => exact ⟨fun h => ⟨v, rfl, h⟩, fun ⟨_, e, h⟩ => by cases e; exact h⟩
theorem ze1_l {α0 ρ β : Type} {a0 : α0} {j : ρ → Option β} {f : α0 → Option β} : ze1 (some (.inl a0)) j f = f a0 := rfl
theorem ze1_r {α0 ρ β : Type} {r : ρ} {j : ρ → Option β} {f : α0 → Option β} : ze1 (some (.inr r)) j f = j r := rfl
theorem ok_ze1 {α0 ρ β : Type} {x : Option ((α0) ⊕ ρ)} {j : ρ → Option β} {f : α0 → Option β} {Q : β → Prop} : Ok (ze1 x j f) Q ↔ Ok x (Lp (fun p => Ok (f p) Q) (fun r => Ok (j r) Q)) := by
  cases x with
  | none => exact ⟨fun ⟨_, e, _⟩ => (by cases e), fun ⟨_, e, _⟩ => (by cases e)⟩
  | some v =>
    cases v with
    | inl v => exact ⟨fun h => ⟨_, rfl, h⟩, fun ⟨_, e, h⟩ => by cases e; exact h⟩
    | inr v => exact ⟨fun h => ⟨_, rfl, h⟩, fun ⟨_, e, h⟩ => by cases e; exact h⟩
theorem ze2_l {α0 α1 ρ β : Type} {a0 : α0} {a1 : α1} {j : ρ → Option β} {f : α0 → α1 → Option β} : ze2 (some (.inl (a0, a1))) j f = f a0 a1 := rfl
theorem ze2_r {α0 α1 ρ β : Type} {r : ρ} {j : ρ → Option β} {f : α0 → α1 → Option β} : ze2 (some (.inr r)) j f = j r := rfl
theorem ok_ze2 {α0 α1 ρ β : Type} {x : Option ((α0 × α1) ⊕ ρ)} {j : ρ → Option β} {f : α0 → α1 → Option β} {Q : β → Prop} : Ok (ze2 x j f) Q ↔ Ok x (Lp (fun p => Ok (f p.1 p.2) Q) (fun r => Ok (j r) Q)) := by
  cases x with
  | none => exact ⟨fun ⟨_, e, _⟩ => (by cases e), fun ⟨_, e, _⟩ => (by cases e)⟩
  | some v =>
    cases v with
    | inl v => exact ⟨fun h => ⟨_, rfl, h⟩, fun ⟨_, e, h⟩ => by cases e; exact h⟩
    | inr v => exact ⟨fun h => ⟨_, rfl, h⟩, fun ⟨_, e, h⟩ => by cases e; exact h⟩
theorem ze3_l {α0 α1 α2 ρ β : Type} {a0 : α0} {a1 : α1} {a2 : α2} {j : ρ → Option β} {f : α0 → α1 → α2 → Option β} : ze3 (some (.inl (a0, a1, a2))) j f = f a0 a1 a2 := rfl
theorem ze3_r {α0 α1 α2 ρ β : Type} {r : ρ} {j : ρ → Option β} {f : α0 → α1 → α2 → Option β} : ze3 (some (.inr r)) j f = j r := rfl
theorem ok_ze3 {α0 α1 α2 ρ β : Type} {x : Option ((α0 × α1 × α2) ⊕ ρ)} {j : ρ → Option β} {f : α0 → α1 → α2 → Option β} {Q : β → Prop} : Ok (ze3 x j f) Q ↔ Ok x (Lp (fun p => Ok (f p.1 p.2.1 p.2.2) Q) (fun r => Ok (j r) Q)) := by
  cases x with
  | none => exact ⟨fun ⟨_, e, _⟩ => (by cases e), fun ⟨_, e, _⟩ => (by cases e)⟩
  | some v =>
    cases v with
    | inl v => exact ⟨fun h => ⟨_, rfl, h⟩, fun ⟨_, e, h⟩ => by cases e; exact h⟩
    | inr v => exact ⟨fun h => ⟨_, rfl, h⟩, fun ⟨_, e, h⟩ => by cases e; exact h⟩
theorem ok_zl1 {α0 χ : Type} {B : α0 → Option ((α0) ⊕ χ)} {Q : χ → Prop} (I : Nat → α0 → Prop) (n : Nat) (hs : ∀ i a0, i ≤ n → I i a0 → Ok (B a0) (Lp (fun p => i < n ∧ I (i + 1) p) Q)) : ∀ {F : Nat} {a0 : α0}, n < F → I 0 a0 → Ok (zl1 B F a0) Q := by
  have key : ∀ (m i : Nat), i + m = n → ∀ F a0, m < F → I i a0 → Ok (zl1 B F a0) Q := by
    intro m
    induction m with
    | zero =>
      intro i hi F a0 hF h
      obtain ⟨F', rfl⟩ : ∃ F', F = F' + 1 := ⟨F - 1, by omega⟩
      obtain ⟨z, e, q⟩ := hs i a0 (by omega) h
      cases z with
      | inl p => exact absurd q.1 (by omega)
      | inr x =>
        refine ⟨x, ?_, q⟩
        unfold zl1
        rw [e]
    | succ m ih =>
      intro i hi F a0 hF h
      obtain ⟨F', rfl⟩ : ∃ F', F = F' + 1 := ⟨F - 1, by omega⟩
      obtain ⟨z, e, q⟩ := hs i a0 (by omega) h
      cases z with
      | inl p =>
        obtain ⟨x, e2, q2⟩ := ih (i + 1) (by omega) F' (p) (by omega) q.2
        refine ⟨x, ?_, q2⟩
        unfold zl1
        rw [e]
        exact e2
      | inr x =>
        refine ⟨x, ?_, q⟩
        unfold zl1
        rw [e]
  intro F a0 hF h
  exact key n 0 (by omega) F a0 hF h
theorem zl1_for {α0 χ : Type} {B : α0 → Option ((α0) ⊕ χ)} (G0 : Nat → α0) (n : Nat) (x : χ) (hs : ∀ i, i < n → B (G0 i) = some (.inl (G0 (i + 1)))) (hx : B (G0 n) = some (.inr x)) : ∀ {F : Nat}, n < F → zl1 B F (G0 0) = some x := by
  have key : ∀ (m i : Nat), i + m = n → ∀ F, m < F → zl1 B F (G0 i) = some x := by
    intro m
    induction m with
    | zero =>
      intro i hi F hF
      have e : i = n := by omega
      subst e
      obtain ⟨F', rfl⟩ : ∃ F', F = F' + 1 := ⟨F - 1, by omega⟩
      unfold zl1
      rw [hx]
    | succ m ih =>
      intro i hi F hF
      obtain ⟨F', rfl⟩ : ∃ F', F = F' + 1 := ⟨F - 1, by omega⟩
      unfold zl1
      rw [hs i (by omega)]
      exact ih (i + 1) (by omega) F' (by omega)
  intro F hF
  exact key n 0 (by omega) F hF
theorem ok_zl2 {α0 α1 χ : Type} {B : α0 → α1 → Option ((α0 × α1) ⊕ χ)} {Q : χ → Prop} (I : Nat → α0 → α1 → Prop) (n : Nat) (hs : ∀ i a0 a1, i ≤ n → I i a0 a1 → Ok (B a0 a1) (Lp (fun p => i < n ∧ I (i + 1) p.1 p.2) Q)) : ∀ {F : Nat} {a0 : α0} {a1 : α1}, n < F → I 0 a0 a1 → Ok (zl2 B F a0 a1) Q := by
  have key : ∀ (m i : Nat), i + m = n → ∀ F a0 a1, m < F → I i a0 a1 → Ok (zl2 B F a0 a1) Q := by
    intro m
    induction m with
    | zero =>
      intro i hi F a0 a1 hF h
      obtain ⟨F', rfl⟩ : ∃ F', F = F' + 1 := ⟨F - 1, by omega⟩
      obtain ⟨z, e, q⟩ := hs i a0 a1 (by omega) h
      cases z with
      | inl p => exact absurd q.1 (by omega)
      | inr x =>
        refine ⟨x, ?_, q⟩
        unfold zl2
        rw [e]
    | succ m ih =>
      intro i hi F a0 a1 hF h
      obtain ⟨F', rfl⟩ : ∃ F', F = F' + 1 := ⟨F - 1, by omega⟩
      obtain ⟨z, e, q⟩ := hs i a0 a1 (by omega) h
      cases z with
      | inl p =>
        obtain ⟨x, e2, q2⟩ := ih (i + 1) (by omega) F' (p.1) (p.2) (by omega) q.2
        refine ⟨x, ?_, q2⟩
        unfold zl2
        rw [e]
        exact e2
      | inr x =>
        refine ⟨x, ?_, q⟩
        unfold zl2
        rw [e]
  intro F a0 a1 hF h
  exact key n 0 (by omega) F a0 a1 hF h
theorem zl2_for {α0 α1 χ : Type} {B : α0 → α1 → Option ((α0 × α1) ⊕ χ)} (G0 : Nat → α0) (G1 : Nat → α1) (n : Nat) (x : χ) (hs : ∀ i, i < n → B (G0 i) (G1 i) = some (.inl (G0 (i + 1), G1 (i + 1)))) (hx : B (G0 n) (G1 n) = some (.inr x)) : ∀ {F : Nat}, n < F → zl2 B F (G0 0) (G1 0) = some x := by
  have key : ∀ (m i : Nat), i + m = n → ∀ F, m < F → zl2 B F (G0 i) (G1 i) = some x := by
    intro m
    induction m with
    | zero =>
      intro i hi F hF
      have e : i = n := by omega
      subst e
      obtain ⟨F', rfl⟩ : ∃ F', F = F' + 1 := ⟨F - 1, by omega⟩
      unfold zl2
      rw [hx]
    | succ m ih =>
      intro i hi F hF
      obtain ⟨F', rfl⟩ : ∃ F', F = F' + 1 := ⟨F - 1, by omega⟩
      unfold zl2
      rw [hs i (by omega)]
      exact ih (i + 1) (by omega) F' (by omega)
  intro F hF
  exact key n 0 (by omega) F hF
theorem ok_zl3 {α0 α1 α2 χ : Type} {B : α0 → α1 → α2 → Option ((α0 × α1 × α2) ⊕ χ)} {Q : χ → Prop} (I : Nat → α0 → α1 → α2 → Prop) (n : Nat) (hs : ∀ i a0 a1 a2, i ≤ n → I i a0 a1 a2 → Ok (B a0 a1 a2) (Lp (fun p => i < n ∧ I (i + 1) p.1 p.2.1 p.2.2) Q)) : ∀ {F : Nat} {a0 : α0} {a1 : α1} {a2 : α2}, n < F → I 0 a0 a1 a2 → Ok (zl3 B F a0 a1 a2) Q := by
  have key : ∀ (m i : Nat), i + m = n → ∀ F a0 a1 a2, m < F → I i a0 a1 a2 → Ok (zl3 B F a0 a1 a2) Q := by
    intro m
    induction m with
    | zero =>
      intro i hi F a0 a1 a2 hF h
      obtain ⟨F', rfl⟩ : ∃ F', F = F' + 1 := ⟨F - 1, by omega⟩
      obtain ⟨z, e, q⟩ := hs i a0 a1 a2 (by omega) h
      cases z with
      | inl p => exact absurd q.1 (by omega)
      | inr x =>
        refine ⟨x, ?_, q⟩
        unfold zl3
        rw [e]
    | succ m ih =>
      intro i hi F a0 a1 a2 hF h
      obtain ⟨F', rfl⟩ : ∃ F', F = F' + 1 := ⟨F - 1, by omega⟩
      obtain ⟨z, e, q⟩ := hs i a0 a1 a2 (by omega) h
      cases z with
      | inl p =>
        obtain ⟨x, e2, q2⟩ := ih (i + 1) (by omega) F' (p.1) (p.2.1) (p.2.2) (by omega) q.2
        refine ⟨x, ?_, q2⟩
        unfold zl3
        rw [e]
        exact e2
      | inr x =>
        refine ⟨x, ?_, q⟩
        unfold zl3
        rw [e]
  intro F a0 a1 a2 hF h
  exact key n 0 (by omega) F a0 a1 a2 hF h
theorem zl3_for {α0 α1 α2 χ : Type} {B : α0 → α1 → α2 → Option ((α0 × α1 × α2) ⊕ χ)} (G0 : Nat → α0) (G1 : Nat → α1) (G2 : Nat → α2) (n : Nat) (x : χ) (hs : ∀ i, i < n → B (G0 i) (G1 i) (G2 i) = some (.inl (G0 (i + 1), G1 (i + 1), G2 (i + 1)))) (hx : B (G0 n) (G1 n) (G2 n) = some (.inr x)) : ∀ {F : Nat}, n < F → zl3 B F (G0 0) (G1 0) (G2 0) = some x := by
  have key : ∀ (m i : Nat), i + m = n → ∀ F, m < F → zl3 B F (G0 i) (G1 i) (G2 i) = some x := by
    intro m
    induction m with
    | zero =>
      intro i hi F hF
      have e : i = n := by omega
      subst e
      obtain ⟨F', rfl⟩ : ∃ F', F = F' + 1 := ⟨F - 1, by omega⟩
      unfold zl3
      rw [hx]
    | succ m ih =>
      intro i hi F hF
      obtain ⟨F', rfl⟩ : ∃ F', F = F' + 1 := ⟨F - 1, by omega⟩
      unfold zl3
      rw [hs i (by omega)]
      exact ih (i + 1) (by omega) F' (by omega)
  intro F hF
  exact key n 0 (by omega) F hF
theorem ok_zl4 {α0 α1 α2 α3 χ : Type} {B : α0 → α1 → α2 → α3 → Option ((α0 × α1 × α2 × α3) ⊕ χ)} {Q : χ → Prop} (I : Nat → α0 → α1 → α2 → α3 → Prop) (n : Nat) (hs : ∀ i a0 a1 a2 a3, i ≤ n → I i a0 a1 a2 a3 → Ok (B a0 a1 a2 a3) (Lp (fun p => i < n ∧ I (i + 1) p.1 p.2.1 p.2.2.1 p.2.2.2) Q)) : ∀ {F : Nat} {a0 : α0} {a1 : α1} {a2 : α2} {a3 : α3}, n < F → I 0 a0 a1 a2 a3 → Ok (zl4 B F a0 a1 a2 a3) Q := by
  have key : ∀ (m i : Nat), i + m = n → ∀ F a0 a1 a2 a3, m < F → I i a0 a1 a2 a3 → Ok (zl4 B F a0 a1 a2 a3) Q := by
    intro m
    induction m with
    | zero =>
      intro i hi F a0 a1 a2 a3 hF h
      obtain ⟨F', rfl⟩ : ∃ F', F = F' + 1 := ⟨F - 1, by omega⟩
      obtain ⟨z, e, q⟩ := hs i a0 a1 a2 a3 (by omega) h
      cases z with
      | inl p => exact absurd q.1 (by omega)
      | inr x =>
        refine ⟨x, ?_, q⟩
        unfold zl4
        rw [e]
    | succ m ih =>
      intro i hi F a0 a1 a2 a3 hF h
      obtain ⟨F', rfl⟩ : ∃ F', F = F' + 1 := ⟨F - 1, by omega⟩
      obtain ⟨z, e, q⟩ := hs i a0 a1 a2 a3 (by omega) h
      cases z with
      | inl p =>
        obtain ⟨x, e2, q2⟩ := ih (i + 1) (by omega) F' (p.1) (p.2.1) (p.2.2.1) (p.2.2.2) (by omega) q.2
        refine ⟨x, ?_, q2⟩
        unfold zl4
        rw [e]
        exact e2
      | inr x =>
        refine ⟨x, ?_, q⟩
        unfold zl4
        rw [e]
  intro F a0 a1 a2 a3 hF h
  exact key n 0 (by omega) F a0 a1 a2 a3 hF h
theorem zl4_for {α0 α1 α2 α3 χ : Type} {B : α0 → α1 → α2 → α3 → Option ((α0 × α1 × α2 × α3) ⊕ χ)} (G0 : Nat → α0) (G1 : Nat → α1) (G2 : Nat → α2) (G3 : Nat → α3) (n : Nat) (x : χ) (hs : ∀ i, i < n → B (G0 i) (G1 i) (G2 i) (G3 i) = some (.inl (G0 (i + 1), G1 (i + 1), G2 (i + 1), G3 (i + 1)))) (hx : B (G0 n) (G1 n) (G2 n) (G3 n) = some (.inr x)) : ∀ {F : Nat}, n < F → zl4 B F (G0 0) (G1 0) (G2 0) (G3 0) = some x := by
  have key : ∀ (m i : Nat), i + m = n → ∀ F, m < F → zl4 B F (G0 i) (G1 i) (G2 i) (G3 i) = some x := by
    intro m
    induction m with
    | zero =>
      intro i hi F hF
      have e : i = n := by omega
      subst e
      obtain ⟨F', rfl⟩ : ∃ F', F = F' + 1 := ⟨F - 1, by omega⟩
      unfold zl4
      rw [hx]
    | succ m ih =>
      intro i hi F hF
      obtain ⟨F', rfl⟩ : ∃ F', F = F' + 1 := ⟨F - 1, by omega⟩
      unfold zl4
      rw [hs i (by omega)]
      exact ih (i + 1) (by omega) F' (by omega)
  intro F hF
  exact key n 0 (by omega) F hF
theorem ok_zl5 {α0 α1 α2 α3 α4 χ : Type} {B : α0 → α1 → α2 → α3 → α4 → Option ((α0 × α1 × α2 × α3 × α4) ⊕ χ)} {Q : χ → Prop} (I : Nat → α0 → α1 → α2 → α3 → α4 → Prop) (n : Nat) (hs : ∀ i a0 a1 a2 a3 a4, i ≤ n → I i a0 a1 a2 a3 a4 → Ok (B a0 a1 a2 a3 a4) (Lp (fun p => i < n ∧ I (i + 1) p.1 p.2.1 p.2.2.1 p.2.2.2.1 p.2.2.2.2) Q)) : ∀ {F : Nat} {a0 : α0} {a1 : α1} {a2 : α2} {a3 : α3} {a4 : α4}, n < F → I 0 a0 a1 a2 a3 a4 → Ok (zl5 B F a0 a1 a2 a3 a4) Q := by
  have key : ∀ (m i : Nat), i + m = n → ∀ F a0 a1 a2 a3 a4, m < F → I i a0 a1 a2 a3 a4 → Ok (zl5 B F a0 a1 a2 a3 a4) Q := by
    intro m
    induction m with
    | zero =>
      intro i hi F a0 a1 a2 a3 a4 hF h
      obtain ⟨F', rfl⟩ : ∃ F', F = F' + 1 := ⟨F - 1, by omega⟩
      obtain ⟨z, e, q⟩ := hs i a0 a1 a2 a3 a4 (by omega) h
      cases z with
      | inl p => exact absurd q.1 (by omega)
      | inr x =>
        refine ⟨x, ?_, q⟩
        unfold zl5
        rw [e]
    | succ m ih =>
      intro i hi F a0 a1 a2 a3 a4 hF h
      obtain ⟨F', rfl⟩ : ∃ F', F = F' + 1 := ⟨F - 1, by omega⟩
      obtain ⟨z, e, q⟩ := hs i a0 a1 a2 a3 a4 (by omega) h
      cases z with
      | inl p =>
        obtain ⟨x, e2, q2⟩ := ih (i + 1) (by omega) F' (p.1) (p.2.1) (p.2.2.1) (p.2.2.2.1) (p.2.2.2.2) (by omega) q.2
        refine ⟨x, ?_, q2⟩
        unfold zl5
        rw [e]
        exact e2
      | inr x =>
        refine ⟨x, ?_, q⟩
        unfold zl5
        rw [e]
  intro F a0 a1 a2 a3 a4 hF h
  exact key n 0 (by omega) F a0 a1 a2 a3 a4 hF h
theorem zl5_for {α0 α1 α2 α3 α4 χ : Type} {B : α0 → α1 → α2 → α3 → α4 → Option ((α0 × α1 × α2 × α3 × α4) ⊕ χ)} (G0 : Nat → α0) (G1 : Nat → α1) (G2 : Nat → α2) (G3 : Nat → α3) (G4 : Nat → α4) (n : Nat) (x : χ) (hs : ∀ i, i < n → B (G0 i) (G1 i) (G2 i) (G3 i) (G4 i) = some (.inl (G0 (i + 1), G1 (i + 1), G2 (i + 1), G3 (i + 1), G4 (i + 1)))) (hx : B (G0 n) (G1 n) (G2 n) (G3 n) (G4 n) = some (.inr x)) : ∀ {F : Nat}, n < F → zl5 B F (G0 0) (G1 0) (G2 0) (G3 0) (G4 0) = some x := by
  have key : ∀ (m i : Nat), i + m = n → ∀ F, m < F → zl5 B F (G0 i) (G1 i) (G2 i) (G3 i) (G4 i) = some x := by
    intro m
    induction m with
    | zero =>
      intro i hi F hF
      have e : i = n := by omega
      subst e
      obtain ⟨F', rfl⟩ : ∃ F', F = F' + 1 := ⟨F - 1, by omega⟩
      unfold zl5
      rw [hx]
    | succ m ih =>
      intro i hi F hF
      obtain ⟨F', rfl⟩ : ∃ F', F = F' + 1 := ⟨F - 1, by omega⟩
      unfold zl5
      rw [hs i (by omega)]
      exact ih (i + 1) (by omega) F' (by omega)
  intro F hF
  exact key n 0 (by omega) F hF
theorem ok_zl6 {α0 α1 α2 α3 α4 α5 χ : Type} {B : α0 → α1 → α2 → α3 → α4 → α5 → Option ((α0 × α1 × α2 × α3 × α4 × α5) ⊕ χ)} {Q : χ → Prop} (I : Nat → α0 → α1 → α2 → α3 → α4 → α5 → Prop) (n : Nat) (hs : ∀ i a0 a1 a2 a3 a4 a5, i ≤ n → I i a0 a1 a2 a3 a4 a5 → Ok (B a0 a1 a2 a3 a4 a5) (Lp (fun p => i < n ∧ I (i + 1) p.1 p.2.1 p.2.2.1 p.2.2.2.1 p.2.2.2.2.1 p.2.2.2.2.2) Q)) : ∀ {F : Nat} {a0 : α0} {a1 : α1} {a2 : α2} {a3 : α3} {a4 : α4} {a5 : α5}, n < F → I 0 a0 a1 a2 a3 a4 a5 → Ok (zl6 B F a0 a1 a2 a3 a4 a5) Q := by
  have key : ∀ (m i : Nat), i + m = n → ∀ F a0 a1 a2 a3 a4 a5, m < F → I i a0 a1 a2 a3 a4 a5 → Ok (zl6 B F a0 a1 a2 a3 a4 a5) Q := by
    intro m
    induction m with
    | zero =>
      intro i hi F a0 a1 a2 a3 a4 a5 hF h
      obtain ⟨F', rfl⟩ : ∃ F', F = F' + 1 := ⟨F - 1, by omega⟩
      obtain ⟨z, e, q⟩ := hs i a0 a1 a2 a3 a4 a5 (by omega) h
      cases z with
      | inl p => exact absurd q.1 (by omega)
      | inr x =>
        refine ⟨x, ?_, q⟩
        unfold zl6
        rw [e]
    | succ m ih =>
      intro i hi F a0 a1 a2 a3 a4 a5 hF h
      obtain ⟨F', rfl⟩ : ∃ F', F = F' + 1 := ⟨F - 1, by omega⟩
      obtain ⟨z, e, q⟩ := hs i a0 a1 a2 a3 a4 a5 (by omega) h
      cases z with
      | inl p =>
        obtain ⟨x, e2, q2⟩ := ih (i + 1) (by omega) F' (p.1) (p.2.1) (p.2.2.1) (p.2.2.2.1) (p.2.2.2.2.1) (p.2.2.2.2.2) (by omega) q.2
        refine ⟨x, ?_, q2⟩
        unfold zl6
        rw [e]
        exact e2
      | inr x =>
        refine ⟨x, ?_, q⟩
        unfold zl6
        rw [e]
  intro F a0 a1 a2 a3 a4 a5 hF h
  exact key n 0 (by omega) F a0 a1 a2 a3 a4 a5 hF h
theorem zl6_for {α0 α1 α2 α3 α4 α5 χ : Type} {B : α0 → α1 → α2 → α3 → α4 → α5 → Option ((α0 × α1 × α2 × α3 × α4 × α5) ⊕ χ)} (G0 : Nat → α0) (G1 : Nat → α1) (G2 : Nat → α2) (G3 : Nat → α3) (G4 : Nat → α4) (G5 : Nat → α5) (n : Nat) (x : χ) (hs : ∀ i, i < n → B (G0 i) (G1 i) (G2 i) (G3 i) (G4 i) (G5 i) = some (.inl (G0 (i + 1), G1 (i + 1), G2 (i + 1), G3 (i + 1), G4 (i + 1), G5 (i + 1)))) (hx : B (G0 n) (G1 n) (G2 n) (G3 n) (G4 n) (G5 n) = some (.inr x)) : ∀ {F : Nat}, n < F → zl6 B F (G0 0) (G1 0) (G2 0) (G3 0) (G4 0) (G5 0) = some x := by
  have key : ∀ (m i : Nat), i + m = n → ∀ F, m < F → zl6 B F (G0 i) (G1 i) (G2 i) (G3 i) (G4 i) (G5 i) = some x := by
    intro m
    induction m with
    | zero =>
      intro i hi F hF
      have e : i = n := by omega
      subst e
      obtain ⟨F', rfl⟩ : ∃ F', F = F' + 1 := ⟨F - 1, by omega⟩
      unfold zl6
      rw [hx]
    | succ m ih =>
      intro i hi F hF
      obtain ⟨F', rfl⟩ : ∃ F', F = F' + 1 := ⟨F - 1, by omega⟩
      unfold zl6
      rw [hs i (by omega)]
      exact ih (i + 1) (by omega) F' (by omega)
  intro F hF
  exact key n 0 (by omega) F hF
theorem ok_zl7 {α0 α1 α2 α3 α4 α5 α6 χ : Type} {B : α0 → α1 → α2 → α3 → α4 → α5 → α6 → Option ((α0 × α1 × α2 × α3 × α4 × α5 × α6) ⊕ χ)} {Q : χ → Prop} (I : Nat → α0 → α1 → α2 → α3 → α4 → α5 → α6 → Prop) (n : Nat) (hs : ∀ i a0 a1 a2 a3 a4 a5 a6, i ≤ n → I i a0 a1 a2 a3 a4 a5 a6 → Ok (B a0 a1 a2 a3 a4 a5 a6) (Lp (fun p => i < n ∧ I (i + 1) p.1 p.2.1 p.2.2.1 p.2.2.2.1 p.2.2.2.2.1 p.2.2.2.2.2.1 p.2.2.2.2.2.2) Q)) : ∀ {F : Nat} {a0 : α0} {a1 : α1} {a2 : α2} {a3 : α3} {a4 : α4} {a5 : α5} {a6 : α6}, n < F → I 0 a0 a1 a2 a3 a4 a5 a6 → Ok (zl7 B F a0 a1 a2 a3 a4 a5 a6) Q := by
  have key : ∀ (m i : Nat), i + m = n → ∀ F a0 a1 a2 a3 a4 a5 a6, m < F → I i a0 a1 a2 a3 a4 a5 a6 → Ok (zl7 B F a0 a1 a2 a3 a4 a5 a6) Q := by
    intro m
    induction m with
    | zero =>
      intro i hi F a0 a1 a2 a3 a4 a5 a6 hF h
      obtain ⟨F', rfl⟩ : ∃ F', F = F' + 1 := ⟨F - 1, by omega⟩
      obtain ⟨z, e, q⟩ := hs i a0 a1 a2 a3 a4 a5 a6 (by omega) h
      cases z with
      | inl p => exact absurd q.1 (by omega)
      | inr x =>
        refine ⟨x, ?_, q⟩
        unfold zl7
        rw [e]
    | succ m ih =>
      intro i hi F a0 a1 a2 a3 a4 a5 a6 hF h
      obtain ⟨F', rfl⟩ : ∃ F', F = F' + 1 := ⟨F - 1, by omega⟩
      obtain ⟨z, e, q⟩ := hs i a0 a1 a2 a3 a4 a5 a6 (by omega) h
      cases z with
      | inl p =>
        obtain ⟨x, e2, q2⟩ := ih (i + 1) (by omega) F' (p.1) (p.2.1) (p.2.2.1) (p.2.2.2.1) (p.2.2.2.2.1) (p.2.2.2.2.2.1) (p.2.2.2.2.2.2) (by omega) q.2
        refine ⟨x, ?_, q2⟩
        unfold zl7
        rw [e]
        exact e2
      | inr x =>
        refine ⟨x, ?_, q⟩
        unfold zl7
        rw [e]
  intro F a0 a1 a2 a3 a4 a5 a6 hF h
  exact key n 0 (by omega) F a0 a1 a2 a3 a4 a5 a6 hF h
theorem zl7_for {α0 α1 α2 α3 α4 α5 α6 χ : Type} {B : α0 → α1 → α2 → α3 → α4 → α5 → α6 → Option ((α0 × α1 × α2 × α3 × α4 × α5 × α6) ⊕ χ)} (G0 : Nat → α0) (G1 : Nat → α1) (G2 : Nat → α2) (G3 : Nat → α3) (G4 : Nat → α4) (G5 : Nat → α5) (G6 : Nat → α6) (n : Nat) (x : χ) (hs : ∀ i, i < n → B (G0 i) (G1 i) (G2 i) (G3 i) (G4 i) (G5 i) (G6 i) = some (.inl (G0 (i + 1), G1 (i + 1), G2 (i + 1), G3 (i + 1), G4 (i + 1), G5 (i + 1), G6 (i + 1)))) (hx : B (G0 n) (G1 n) (G2 n) (G3 n) (G4 n) (G5 n) (G6 n) = some (.inr x)) : ∀ {F : Nat}, n < F → zl7 B F (G0 0) (G1 0) (G2 0) (G3 0) (G4 0) (G5 0) (G6 0) = some x := by
  have key : ∀ (m i : Nat), i + m = n → ∀ F, m < F → zl7 B F (G0 i) (G1 i) (G2 i) (G3 i) (G4 i) (G5 i) (G6 i) = some x := by
    intro m
    induction m with
    | zero =>
      intro i hi F hF
      have e : i = n := by omega
      subst e
      obtain ⟨F', rfl⟩ : ∃ F', F = F' + 1 := ⟨F - 1, by omega⟩
      unfold zl7
      rw [hx]
    | succ m ih =>
      intro i hi F hF
      obtain ⟨F', rfl⟩ : ∃ F', F = F' + 1 := ⟨F - 1, by omega⟩
      unfold zl7
      rw [hs i (by omega)]
      exact ih (i + 1) (by omega) F' (by omega)
  intro F hF
  exact key n 0 (by omega) F hF
theorem ok_zl8 {α0 α1 α2 α3 α4 α5 α6 α7 χ : Type} {B : α0 → α1 → α2 → α3 → α4 → α5 → α6 → α7 → Option ((α0 × α1 × α2 × α3 × α4 × α5 × α6 × α7) ⊕ χ)} {Q : χ → Prop} (I : Nat → α0 → α1 → α2 → α3 → α4 → α5 → α6 → α7 → Prop) (n : Nat) (hs : ∀ i a0 a1 a2 a3 a4 a5 a6 a7, i ≤ n → I i a0 a1 a2 a3 a4 a5 a6 a7 → Ok (B a0 a1 a2 a3 a4 a5 a6 a7) (Lp (fun p => i < n ∧ I (i + 1) p.1 p.2.1 p.2.2.1 p.2.2.2.1 p.2.2.2.2.1 p.2.2.2.2.2.1 p.2.2.2.2.2.2.1 p.2.2.2.2.2.2.2) Q)) : ∀ {F : Nat} {a0 : α0} {a1 : α1} {a2 : α2} {a3 : α3} {a4 : α4} {a5 : α5} {a6 : α6} {a7 : α7}, n < F → I 0 a0 a1 a2 a3 a4 a5 a6 a7 → Ok (zl8 B F a0 a1 a2 a3 a4 a5 a6 a7) Q := by
  have key : ∀ (m i : Nat), i + m = n → ∀ F a0 a1 a2 a3 a4 a5 a6 a7, m < F → I i a0 a1 a2 a3 a4 a5 a6 a7 → Ok (zl8 B F a0 a1 a2 a3 a4 a5 a6 a7) Q := by
    intro m
    induction m with
    | zero =>
      intro i hi F a0 a1 a2 a3 a4 a5 a6 a7 hF h
      obtain ⟨F', rfl⟩ : ∃ F', F = F' + 1 := ⟨F - 1, by omega⟩
      obtain ⟨z, e, q⟩ := hs i a0 a1 a2 a3 a4 a5 a6 a7 (by omega) h
      cases z with
      | inl p => exact absurd q.1 (by omega)
      | inr x =>
        refine ⟨x, ?_, q⟩
        unfold zl8
        rw [e]
    | succ m ih =>
      intro i hi F a0 a1 a2 a3 a4 a5 a6 a7 hF h
      obtain ⟨F', rfl⟩ : ∃ F', F = F' + 1 := ⟨F - 1, by omega⟩
      obtain ⟨z, e, q⟩ := hs i a0 a1 a2 a3 a4 a5 a6 a7 (by omega) h
      cases z with
      | inl p =>
        obtain ⟨x, e2, q2⟩ := ih (i + 1) (by omega) F' (p.1) (p.2.1) (p.2.2.1) (p.2.2.2.1) (p.2.2.2.2.1) (p.2.2.2.2.2.1) (p.2.2.2.2.2.2.1) (p.2.2.2.2.2.2.2) (by omega) q.2
        refine ⟨x, ?_, q2⟩
        unfold zl8
        rw [e]
        exact e2
      | inr x =>
        refine ⟨x, ?_, q⟩
        unfold zl8
        rw [e]
  intro F a0 a1 a2 a3 a4 a5 a6 a7 hF h
  exact key n 0 (by omega) F a0 a1 a2 a3 a4 a5 a6 a7 hF h
theorem zl8_for {α0 α1 α2 α3 α4 α5 α6 α7 χ : Type} {B : α0 → α1 → α2 → α3 → α4 → α5 → α6 → α7 → Option ((α0 × α1 × α2 × α3 × α4 × α5 × α6 × α7) ⊕ χ)} (G0 : Nat → α0) (G1 : Nat → α1) (G2 : Nat → α2) (G3 : Nat → α3) (G4 : Nat → α4) (G5 : Nat → α5) (G6 : Nat → α6) (G7 : Nat → α7) (n : Nat) (x : χ) (hs : ∀ i, i < n → B (G0 i) (G1 i) (G2 i) (G3 i) (G4 i) (G5 i) (G6 i) (G7 i) = some (.inl (G0 (i + 1), G1 (i + 1), G2 (i + 1), G3 (i + 1), G4 (i + 1), G5 (i + 1), G6 (i + 1), G7 (i + 1)))) (hx : B (G0 n) (G1 n) (G2 n) (G3 n) (G4 n) (G5 n) (G6 n) (G7 n) = some (.inr x)) : ∀ {F : Nat}, n < F → zl8 B F (G0 0) (G1 0) (G2 0) (G3 0) (G4 0) (G5 0) (G6 0) (G7 0) = some x := by
  have key : ∀ (m i : Nat), i + m = n → ∀ F, m < F → zl8 B F (G0 i) (G1 i) (G2 i) (G3 i) (G4 i) (G5 i) (G6 i) (G7 i) = some x := by
    intro m
    induction m with
    | zero =>
      intro i hi F hF
      have e : i = n := by omega
      subst e
      obtain ⟨F', rfl⟩ : ∃ F', F = F' + 1 := ⟨F - 1, by omega⟩
      unfold zl8
      rw [hx]
    | succ m ih =>
      intro i hi F hF
      obtain ⟨F', rfl⟩ : ∃ F', F = F' + 1 := ⟨F - 1, by omega⟩
      unfold zl8
      rw [hs i (by omega)]
      exact ih (i + 1) (by omega) F' (by omega)
  intro F hF
  exact key n 0 (by omega) F hF
theorem ok_zl9 {α0 α1 α2 α3 α4 α5 α6 α7 α8 χ : Type} {B : α0 → α1 → α2 → α3 → α4 → α5 → α6 → α7 → α8 → Option ((α0 × α1 × α2 × α3 × α4 × α5 × α6 × α7 × α8) ⊕ χ)} {Q : χ → Prop} (I : Nat → α0 → α1 → α2 → α3 → α4 → α5 → α6 → α7 → α8 → Prop) (n : Nat) (hs : ∀ i a0 a1 a2 a3 a4 a5 a6 a7 a8, i ≤ n → I i a0 a1 a2 a3 a4 a5 a6 a7 a8 → Ok (B a0 a1 a2 a3 a4 a5 a6 a7 a8) (Lp (fun p => i < n ∧ I (i + 1) p.1 p.2.1 p.2.2.1 p.2.2.2.1 p.2.2.2.2.1 p.2.2.2.2.2.1 p.2.2.2.2.2.2.1 p.2.2.2.2.2.2.2.1 p.2.2.2.2.2.2.2.2) Q)) : ∀ {F : Nat} {a0 : α0} {a1 : α1} {a2 : α2} {a3 : α3} {a4 : α4} {a5 : α5} {a6 : α6} {a7 : α7} {a8 : α8}, n < F → I 0 a0 a1 a2 a3 a4 a5 a6 a7 a8 → Ok (zl9 B F a0 a1 a2 a3 a4 a5 a6 a7 a8) Q := by
  have key : ∀ (m i : Nat), i + m = n → ∀ F a0 a1 a2 a3 a4 a5 a6 a7 a8, m < F → I i a0 a1 a2 a3 a4 a5 a6 a7 a8 → Ok (zl9 B F a0 a1 a2 a3 a4 a5 a6 a7 a8) Q := by
    intro m
    induction m with
    | zero =>
      intro i hi F a0 a1 a2 a3 a4 a5 a6 a7 a8 hF h
      obtain ⟨F', rfl⟩ : ∃ F', F = F' + 1 := ⟨F - 1, by omega⟩
      obtain ⟨z, e, q⟩ := hs i a0 a1 a2 a3 a4 a5 a6 a7 a8 (by omega) h
      cases z with
      | inl p => exact absurd q.1 (by omega)
      | inr x =>
        refine ⟨x, ?_, q⟩
        unfold zl9
        rw [e]
    | succ m ih =>
      intro i hi F a0 a1 a2 a3 a4 a5 a6 a7 a8 hF h
      obtain ⟨F', rfl⟩ : ∃ F', F = F' + 1 := ⟨F - 1, by omega⟩
      obtain ⟨z, e, q⟩ := hs i a0 a1 a2 a3 a4 a5 a6 a7 a8 (by omega) h
      cases z with
      | inl p =>
        obtain ⟨x, e2, q2⟩ := ih (i + 1) (by omega) F' (p.1) (p.2.1) (p.2.2.1) (p.2.2.2.1) (p.2.2.2.2.1) (p.2.2.2.2.2.1) (p.2.2.2.2.2.2.1) (p.2.2.2.2.2.2.2.1) (p.2.2.2.2.2.2.2.2) (by omega) q.2
        refine ⟨x, ?_, q2⟩
        unfold zl9
        rw [e]
        exact e2
      | inr x =>
        refine ⟨x, ?_, q⟩
        unfold zl9
        rw [e]
  intro F a0 a1 a2 a3 a4 a5 a6 a7 a8 hF h
  exact key n 0 (by omega) F a0 a1 a2 a3 a4 a5 a6 a7 a8 hF h
theorem zl9_for {α0 α1 α2 α3 α4 α5 α6 α7 α8 χ : Type} {B : α0 → α1 → α2 → α3 → α4 → α5 → α6 → α7 → α8 → Option ((α0 × α1 × α2 × α3 × α4 × α5 × α6 × α7 × α8) ⊕ χ)} (G0 : Nat → α0) (G1 : Nat → α1) (G2 : Nat → α2) (G3 : Nat → α3) (G4 : Nat → α4) (G5 : Nat → α5) (G6 : Nat → α6) (G7 : Nat → α7) (G8 : Nat → α8) (n : Nat) (x : χ) (hs : ∀ i, i < n → B (G0 i) (G1 i) (G2 i) (G3 i) (G4 i) (G5 i) (G6 i) (G7 i) (G8 i) = some (.inl (G0 (i + 1), G1 (i + 1), G2 (i + 1), G3 (i + 1), G4 (i + 1), G5 (i + 1), G6 (i + 1), G7 (i + 1), G8 (i + 1)))) (hx : B (G0 n) (G1 n) (G2 n) (G3 n) (G4 n) (G5 n) (G6 n) (G7 n) (G8 n) = some (.inr x)) : ∀ {F : Nat}, n < F → zl9 B F (G0 0) (G1 0) (G2 0) (G3 0) (G4 0) (G5 0) (G6 0) (G7 0) (G8 0) = some x := by
  have key : ∀ (m i : Nat), i + m = n → ∀ F, m < F → zl9 B F (G0 i) (G1 i) (G2 i) (G3 i) (G4 i) (G5 i) (G6 i) (G7 i) (G8 i) = some x := by
    intro m
    induction m with
    | zero =>
      intro i hi F hF
      have e : i = n := by omega
      subst e
      obtain ⟨F', rfl⟩ : ∃ F', F = F' + 1 := ⟨F - 1, by omega⟩
      unfold zl9
      rw [hx]
    | succ m ih =>
      intro i hi F hF
      obtain ⟨F', rfl⟩ : ∃ F', F = F' + 1 := ⟨F - 1, by omega⟩
      unfold zl9
      rw [hs i (by omega)]
      exact ih (i + 1) (by omega) F' (by omega)
  intro F hF
  exact key n 0 (by omega) F hF
theorem ok_zl10 {α0 α1 α2 α3 α4 α5 α6 α7 α8 α9 χ : Type} {B : α0 → α1 → α2 → α3 → α4 → α5 → α6 → α7 → α8 → α9 → Option ((α0 × α1 × α2 × α3 × α4 × α5 × α6 × α7 × α8 × α9) ⊕ χ)} {Q : χ → Prop} (I : Nat → α0 → α1 → α2 → α3 → α4 → α5 → α6 → α7 → α8 → α9 → Prop) (n : Nat) (hs : ∀ i a0 a1 a2 a3 a4 a5 a6 a7 a8 a9, i ≤ n → I i a0 a1 a2 a3 a4 a5 a6 a7 a8 a9 → Ok (B a0 a1 a2 a3 a4 a5 a6 a7 a8 a9) (Lp (fun p => i < n ∧ I (i + 1) p.1 p.2.1 p.2.2.1 p.2.2.2.1 p.2.2.2.2.1 p.2.2.2.2.2.1 p.2.2.2.2.2.2.1 p.2.2.2.2.2.2.2.1 p.2.2.2.2.2.2.2.2.1 p.2.2.2.2.2.2.2.2.2) Q)) : ∀ {F : Nat} {a0 : α0} {a1 : α1} {a2 : α2} {a3 : α3} {a4 : α4} {a5 : α5} {a6 : α6} {a7 : α7} {a8 : α8} {a9 : α9}, n < F → I 0 a0 a1 a2 a3 a4 a5 a6 a7 a8 a9 → Ok (zl10 B F a0 a1 a2 a3 a4 a5 a6 a7 a8 a9) Q := by
  have key : ∀ (m i : Nat), i + m = n → ∀ F a0 a1 a2 a3 a4 a5 a6 a7 a8 a9, m < F → I i a0 a1 a2 a3 a4 a5 a6 a7 a8 a9 → Ok (zl10 B F a0 a1 a2 a3 a4 a5 a6 a7 a8 a9) Q := by
    intro m
    induction m with
    | zero =>
      intro i hi F a0 a1 a2 a3 a4 a5 a6 a7 a8 a9 hF h
      obtain ⟨F', rfl⟩ : ∃ F', F = F' + 1 := ⟨F - 1, by omega⟩
      obtain ⟨z, e, q⟩ := hs i a0 a1 a2 a3 a4 a5 a6 a7 a8 a9 (by omega) h
      cases z with
      | inl p => exact absurd q.1 (by omega)
      | inr x =>
        refine ⟨x, ?_, q⟩
        unfold zl10
        rw [e]
    | succ m ih =>
      intro i hi F a0 a1 a2 a3 a4 a5 a6 a7 a8 a9 hF h
      obtain ⟨F', rfl⟩ : ∃ F', F = F' + 1 := ⟨F - 1, by omega⟩
      obtain ⟨z, e, q⟩ := hs i a0 a1 a2 a3 a4 a5 a6 a7 a8 a9 (by omega) h
      cases z with
      | inl p =>
        obtain ⟨x, e2, q2⟩ := ih (i + 1) (by omega) F' (p.1) (p.2.1) (p.2.2.1) (p.2.2.2.1) (p.2.2.2.2.1) (p.2.2.2.2.2.1) (p.2.2.2.2.2.2.1) (p.2.2.2.2.2.2.2.1) (p.2.2.2.2.2.2.2.2.1) (p.2.2.2.2.2.2.2.2.2) (by omega) q.2
        refine ⟨x, ?_, q2⟩
        unfold zl10
        rw [e]
        exact e2
      | inr x =>
        refine ⟨x, ?_, q⟩
        unfold zl10
        rw [e]
  intro F a0 a1 a2 a3 a4 a5 a6 a7 a8 a9 hF h
  exact key n 0 (by omega) F a0 a1 a2 a3 a4 a5 a6 a7 a8 a9 hF h
theorem zl10_for {α0 α1 α2 α3 α4 α5 α6 α7 α8 α9 χ : Type} {B : α0 → α1 → α2 → α3 → α4 → α5 → α6 → α7 → α8 → α9 → Option ((α0 × α1 × α2 × α3 × α4 × α5 × α6 × α7 × α8 × α9) ⊕ χ)} (G0 : Nat → α0) (G1 : Nat → α1) (G2 : Nat → α2) (G3 : Nat → α3) (G4 : Nat → α4) (G5 : Nat → α5) (G6 : Nat → α6) (G7 : Nat → α7) (G8 : Nat → α8) (G9 : Nat → α9) (n : Nat) (x : χ) (hs : ∀ i, i < n → B (G0 i) (G1 i) (G2 i) (G3 i) (G4 i) (G5 i) (G6 i) (G7 i) (G8 i) (G9 i) = some (.inl (G0 (i + 1), G1 (i + 1), G2 (i + 1), G3 (i + 1), G4 (i + 1), G5 (i + 1), G6 (i + 1), G7 (i + 1), G8 (i + 1), G9 (i + 1)))) (hx : B (G0 n) (G1 n) (G2 n) (G3 n) (G4 n) (G5 n) (G6 n) (G7 n) (G8 n) (G9 n) = some (.inr x)) : ∀ {F : Nat}, n < F → zl10 B F (G0 0) (G1 0) (G2 0) (G3 0) (G4 0) (G5 0) (G6 0) (G7 0) (G8 0) (G9 0) = some x := by
  have key : ∀ (m i : Nat), i + m = n → ∀ F, m < F → zl10 B F (G0 i) (G1 i) (G2 i) (G3 i) (G4 i) (G5 i) (G6 i) (G7 i) (G8 i) (G9 i) = some x := by
    intro m
    induction m with
    | zero =>
      intro i hi F hF
      have e : i = n := by omega
      subst e
      obtain ⟨F', rfl⟩ : ∃ F', F = F' + 1 := ⟨F - 1, by omega⟩
      unfold zl10
      rw [hx]
    | succ m ih =>
      intro i hi F hF
      obtain ⟨F', rfl⟩ : ∃ F', F = F' + 1 := ⟨F - 1, by omega⟩
      unfold zl10
      rw [hs i (by omega)]
      exact ih (i + 1) (by omega) F' (by omega)
  intro F hF
  exact key n 0 (by omega) F hF
theorem ok_zl11 {α0 α1 α2 α3 α4 α5 α6 α7 α8 α9 α10 χ : Type} {B : α0 → α1 → α2 → α3 → α4 → α5 → α6 → α7 → α8 → α9 → α10 → Option ((α0 × α1 × α2 × α3 × α4 × α5 × α6 × α7 × α8 × α9 × α10) ⊕ χ)} {Q : χ → Prop} (I : Nat → α0 → α1 → α2 → α3 → α4 → α5 → α6 → α7 → α8 → α9 → α10 → Prop) (n : Nat) (hs : ∀ i a0 a1 a2 a3 a4 a5 a6 a7 a8 a9 a10, i ≤ n → I i a0 a1 a2 a3 a4 a5 a6 a7 a8 a9 a10 → Ok (B a0 a1 a2 a3 a4 a5 a6 a7 a8 a9 a10) (Lp (fun p => i < n ∧ I (i + 1) p.1 p.2.1 p.2.2.1 p.2.2.2.1 p.2.2.2.2.1 p.2.2.2.2.2.1 p.2.2.2.2.2.2.1 p.2.2.2.2.2.2.2.1 p.2.2.2.2.2.2.2.2.1 p.2.2.2.2.2.2.2.2.2.1 p.2.2.2.2.2.2.2.2.2.2) Q)) : ∀ {F : Nat} {a0 : α0} {a1 : α1} {a2 : α2} {a3 : α3} {a4 : α4} {a5 : α5} {a6 : α6} {a7 : α7} {a8 : α8} {a9 : α9} {a10 : α10}, n < F → I 0 a0 a1 a2 a3 a4 a5 a6 a7 a8 a9 a10 → Ok (zl11 B F a0 a1 a2 a3 a4 a5 a6 a7 a8 a9 a10) Q := by
  have key : ∀ (m i : Nat), i + m = n → ∀ F a0 a1 a2 a3 a4 a5 a6 a7 a8 a9 a10, m < F → I i a0 a1 a2 a3 a4 a5 a6 a7 a8 a9 a10 → Ok (zl11 B F a0 a1 a2 a3 a4 a5 a6 a7 a8 a9 a10) Q := by
    intro m
    induction m with
    | zero =>
      intro i hi F a0 a1 a2 a3 a4 a5 a6 a7 a8 a9 a10 hF h
      obtain ⟨F', rfl⟩ : ∃ F', F = F' + 1 := ⟨F - 1, by omega⟩
      obtain ⟨z, e, q⟩ := hs i a0 a1 a2 a3 a4 a5 a6 a7 a8 a9 a10 (by omega) h
      cases z with
      | inl p => exact absurd q.1 (by omega)
      | inr x =>
        refine ⟨x, ?_, q⟩
        unfold zl11
        rw [e]
    | succ m ih =>
      intro i hi F a0 a1 a2 a3 a4 a5 a6 a7 a8 a9 a10 hF h
      obtain ⟨F', rfl⟩ : ∃ F', F = F' + 1 := ⟨F - 1, by omega⟩
      obtain ⟨z, e, q⟩ := hs i a0 a1 a2 a3 a4 a5 a6 a7 a8 a9 a10 (by omega) h
      cases z with
      | inl p =>
        obtain ⟨x, e2, q2⟩ := ih (i + 1) (by omega) F' (p.1) (p.2.1) (p.2.2.1) (p.2.2.2.1) (p.2.2.2.2.1) (p.2.2.2.2.2.1) (p.2.2.2.2.2.2.1) (p.2.2.2.2.2.2.2.1) (p.2.2.2.2.2.2.2.2.1) (p.2.2.2.2.2.2.2.2.2.1) (p.2.2.2.2.2.2.2.2.2.2) (by omega) q.2
        refine ⟨x, ?_, q2⟩
        unfold zl11
        rw [e]
        exact e2
      | inr x =>
        refine ⟨x, ?_, q⟩
        unfold zl11
        rw [e]
  intro F a0 a1 a2 a3 a4 a5 a6 a7 a8 a9 a10 hF h
  exact key n 0 (by omega) F a0 a1 a2 a3 a4 a5 a6 a7 a8 a9 a10 hF h
theorem zl11_for {α0 α1 α2 α3 α4 α5 α6 α7 α8 α9 α10 χ : Type} {B : α0 → α1 → α2 → α3 → α4 → α5 → α6 → α7 → α8 → α9 → α10 → Option ((α0 × α1 × α2 × α3 × α4 × α5 × α6 × α7 × α8 × α9 × α10) ⊕ χ)} (G0 : Nat → α0) (G1 : Nat → α1) (G2 : Nat → α2) (G3 : Nat → α3) (G4 : Nat → α4) (G5 : Nat → α5) (G6 : Nat → α6) (G7 : Nat → α7) (G8 : Nat → α8) (G9 : Nat → α9) (G10 : Nat → α10) (n : Nat) (x : χ) (hs : ∀ i, i < n → B (G0 i) (G1 i) (G2 i) (G3 i) (G4 i) (G5 i) (G6 i) (G7 i) (G8 i) (G9 i) (G10 i) = some (.inl (G0 (i + 1), G1 (i + 1), G2 (i + 1), G3 (i + 1), G4 (i + 1), G5 (i + 1), G6 (i + 1), G7 (i + 1), G8 (i + 1), G9 (i + 1), G10 (i + 1)))) (hx : B (G0 n) (G1 n) (G2 n) (G3 n) (G4 n) (G5 n) (G6 n) (G7 n) (G8 n) (G9 n) (G10 n) = some (.inr x)) : ∀ {F : Nat}, n < F → zl11 B F (G0 0) (G1 0) (G2 0) (G3 0) (G4 0) (G5 0) (G6 0) (G7 0) (G8 0) (G9 0) (G10 0) = some x := by
  have key : ∀ (m i : Nat), i + m = n → ∀ F, m < F → zl11 B F (G0 i) (G1 i) (G2 i) (G3 i) (G4 i) (G5 i) (G6 i) (G7 i) (G8 i) (G9 i) (G10 i) = some x := by
    intro m
    induction m with
    | zero =>
      intro i hi F hF
      have e : i = n := by omega
      subst e
      obtain ⟨F', rfl⟩ : ∃ F', F = F' + 1 := ⟨F - 1, by omega⟩
      unfold zl11
      rw [hx]
    | succ m ih =>
      intro i hi F hF
      obtain ⟨F', rfl⟩ : ∃ F', F = F' + 1 := ⟨F - 1, by omega⟩
      unfold zl11
      rw [hs i (by omega)]
      exact ih (i + 1) (by omega) F' (by omega)
  intro F hF
  exact key n 0 (by omega) F hF
theorem fu_lt {n : Nat} (h : n < 20000) : n < FU := h
/-! ===== objects ===== -/
theorem si_eq (o : Ob) (j : Nat) (v : Int32) (k : Nat) : si o j v j k = v := by
  unfold si
  simp
theorem si_ne {o : Ob} {j a : Nat} {v : Int32} (h : a ≠ j) : si o j v a = o a := by
  unfold si
  have : Nat.beq a j = false := Bool.eq_false_iff.mpr (fun q => h (Nat.eq_of_beq_eq_true q))
  rw [this]
  rfl
theorem sa_eq (o : Ob) (j : Nat) (f : Fn) : sa o j f j = f := by
  unfold sa
  simp
theorem sa_ne {o : Ob} {j a : Nat} {f : Fn} (h : a ≠ j) : sa o j f a = o a := by
  unfold sa
  have : Nat.beq a j = false := Bool.eq_false_iff.mpr (fun q => h (Nat.eq_of_beq_eq_true q))
  rw [this]
  rfl
theorem vu_eq (V : Nat → Ob) (i : Nat) (o : Ob) : vu V i o i = o := by
  unfold vu
  simp
theorem vu_ne {V : Nat → Ob} {i j : Nat} {o : Ob} (h : j ≠ i) : vu V i o j = V j := by
  unfold vu
  have : Nat.beq j i = false := Bool.eq_false_iff.mpr (fun q => h (Nat.eq_of_beq_eq_true q))
  rw [this]
  rfl
theorem upd_eq (f : Fn) (k : Nat) (x : Int32) : upd f k x k = x := if_pos rfl
theorem upd_ne {f : Fn} {k j : Nat} {x : Int32} (h : j ≠ k) : upd f k x j = f j := if_neg h
/-! ===== guards ===== -/
theorem gi_in {β : Type} {k n : Nat} {x : Option β} (h : k < n) (hn : n < 2147483648) : gi (nI k) n x = x := by
  unfold gi
  rw [nI_toInt (by omega)]
  exact if_pos ⟨by omega, by omega⟩
theorem gn_ok {β : Type} {k : Nat} {x : Option β} (h : 0 < k) (hk : k < 2147483648) : gn (nI k) x = x := by
  unfold gn
  exact if_neg (nI_ne0 h (by omega))
theorem gz_0 {β : Type} (x : Option β) : gz 0 x = x := if_pos (Or.inl rfl)
theorem gz_1 {β : Type} (x : Option β) : gz 1 x = x := if_pos (Or.inr rfl)
theorem gz_n0 {β : Type} (x : Option β) : gz (nI 0) x = x := if_pos (Or.inl rfl)
theorem gz_n1 {β : Type} (x : Option β) : gz (nI 1) x = x := if_pos (Or.inr rfl)
theorem gz_b {β : Type} {c : Prop} {_ : Decidable c} {x : Option β} : gz (if c then 1 else 0) x = x := by
  unfold gz
  by_cases h : c
  · rw [if_pos h]; exact if_pos (Or.inr rfl)
  · rw [if_neg h]; exact if_pos (Or.inl rfl)
theorem gz_or {β : Type} {v : Int32} {x : Option β} (h : v = 0 ∨ v = 1) : gz v x = x := if_pos h
theorem gc_in {β : Type} {a b n n0 n1 : Nat} {x : Option β} (h0 : a + n ≤ n0) (h1 : b + n ≤ n1) (h2 : n0 < 2147483648) (h3 : n1 < 2147483648) : gc (nI a) (nI b) (nI n) n0 n1 x = x := by
  unfold gc
  rw [nI_toInt (by omega), nI_toInt (by omega), nI_toInt (by omega), nI_clamp (by omega), nI_clamp (by omega), nI_clamp (by omega)]
  exact if_pos ⟨⟨by omega, by omega, by omega⟩, by omega, by omega⟩
/-! ===== numbers ===== -/
theorem q_lit (n : Nat) : (OfNat.ofNat n : Int32) = nI (OfNat.ofNat n) := rfl
theorem q_m1 : (-1 : Int32) = nI 4294967295 := by decide
theorem q_if10 {c : Prop} {_ : Decidable c} : (if c then (1 : Int32) else 0) = 0 ↔ ¬ c := by
  by_cases h : c
  · simp [h]
  · simp [h]
theorem q_if10n {c : Prop} {_ : Decidable c} : (if c then nI 1 else nI 0) = nI 0 ↔ ¬ c := q_if10
theorem q_sub0 (x : Int32) : x - x = 0 := Int32.sub_self x
theorem q_addsub (a b : Nat) : nI (a + b) - nI a = nI b := by
  rw [pk_sub (by omega)]
  congr 1
  omega
theorem q_and (a b : Nat) : nI a &&& nI b = nI (a &&& b) := by
  apply Int32.toBitVec_inj.mp
  show BitVec.ofNat 32 a &&& BitVec.ofNat 32 b = BitVec.ofNat 32 (a &&& b)
  exact (BitVec.ofNat_and ..).symm
theorem q_or (a b : Nat) : nI a ||| nI b = nI (a ||| b) := by
  apply Int32.toBitVec_inj.mp
  show BitVec.ofNat 32 a ||| BitVec.ofNat 32 b = BitVec.ofNat 32 (a ||| b)
  exact (BitVec.ofNat_or ..).symm
theorem q_xor (a b : Nat) : nI a ^^^ nI b = nI (a ^^^ b) := by
  apply Int32.toBitVec_inj.mp
  show BitVec.ofNat 32 a ^^^ BitVec.ofNat 32 b = BitVec.ofNat 32 (a ^^^ b)
  exact (BitVec.ofNat_xor ..).symm
theorem q_31 {k : Nat} (h : k < 32) : nI k &&& nI 31 = nI k := by
  rw [q_and, show (31 : Nat) = 2 ^ 5 - 1 from rfl, Nat.and_two_pow_sub_one_eq_mod, Nat.mod_eq_of_lt h]
theorem q_sm : ∀ n : Nat, n < 32 → ((nI n).toBitVec.smod 32).toNat = n := by decide
theorem q_shr {f k : Nat} (hf : f < 2147483648) (hk : k < 32) : nI f >>> nI k = nI (f / 2 ^ k) := pk_shrN (by omega) (nI k) k (q_sm k hk)
theorem q_shl1 {k : Nat} (hk : k < 31) : nI 1 <<< nI k = nI (2 ^ k) := by
  have h : 2 ^ k < 2 ^ 31 := Nat.pow_lt_pow_right (by decide) hk
  rw [pk_shlN (nI k) k (q_sm k (by omega)) (by omega), Nat.one_mul]
/-- a bit -/
theorem q_bit {f k : Nat} (hf : f < 2147483648) (hk : k < 31) : (nI f >>> (nI k &&& nI 31)) &&& nI 1 = nI 1 ↔ f.testBit k = true := by
  rw [q_31 (by omega), q_shr hf (by omega), q_and, show (1 : Nat) = 2 ^ 1 - 1 from rfl, Nat.and_two_pow_sub_one_eq_mod, nI_eq (by have := Nat.mod_lt (f / 2 ^ k) (show 0 < 2 ^ 1 by decide); omega) (by decide), Nat.testBit_eq_decide_div_mod_eq]
  simp
/-- a number in a range or outside -/
theorem q_rng (v : Int32) {n : Nat} (hn : n < 2147483648) : (∃ k, k < n ∧ v = nI k) ∨ v < 0 ∨ nI n ≤ v := by
  rcases pk_ix v (n := n) (by omega) with h | h | h
  · exact Or.inr (Or.inl h)
  · exact Or.inr (Or.inr h)
  · exact Or.inl h
theorem q_nonneg {v : Int32} (h : ¬ v < 0) : ∃ k, k < 2147483648 ∧ v = nI k := nI_of h
theorem q_any (x : Int32) : ∃ n, n < 4294967296 ∧ x = nI n := ⟨x.toBitVec.toNat, x.toBitVec.isLt, by
  apply Int32.toBitVec_inj.mp
  show x.toBitVec = BitVec.ofNat 32 x.toBitVec.toNat
  simp⟩
theorem q_neg {k : Nat} (h : k < 2147483648) : (nI k < 0) = False := by
  simp only [eq_iff_iff, iff_false]
  exact nI_pos (by omega)
theorem q_le_pred {n : Nat} (h : 0 < n) : nI n - nI 1 = nI (n - 1) := pk_sub h
/-- 'isIn' from 0 to n - 1, outside -/
theorem q_outP {v : Int32} {n : Nat} (hn : n < 2147483648) (h : v < 0 ∨ nI n ≤ v) : ¬ (0 ≤ v ∧ v ≤ nI n - nI 1) := by
  rintro ⟨h1, h2⟩
  rcases h with h | h
  · exact absurd h (Int32.not_lt.mpr h1)
  · obtain ⟨k, hk, rfl⟩ := q_nonneg (Int32.not_lt.mpr h1)
    have h3 := (nI_leI (by omega) (by omega)).mp h
    by_cases h0 : n = 0
    · subst h0
      have h4 := Int32.le_iff_toInt_le.mp h2
      rw [nI_toInt (by omega), show (nI 0 - nI 1 : Int32).toInt = -1 by decide] at h4
      omega
    · rw [q_le_pred (by omega), nI_leI (by omega) (by omega)] at h2
      omega
theorem q_inP {k n : Nat} (hn : n < 2147483648) (h : k < n) : 0 ≤ nI k ∧ nI k ≤ nI n - nI 1 := by
  rw [q_le_pred (by omega)]
  exact ⟨nI_pos' (by omega), nI_le (by omega) (by omega)⟩
