theorem nx_q {α β : Type} (a : α) (f : α → β) : nx a f = f a := Eq.trans (Eq.refl _) (Eq.refl _)
/-! ===== evaluation: conditions over numbers ===== -/
theorem e_ltT {α : Type} {a b : Nat} {x y : α} {_ : Decidable (nI a < nI b)} (h : a < b) (hb : b < 2147483648) : (if nI a < nI b then x else y) = x := if_pos (nI_lt h (by omega))
theorem e_ltF {α : Type} {a b : Nat} {x y : α} {_ : Decidable (nI a < nI b)} (h : b ≤ a) (ha : a < 2147483648) : (if nI a < nI b then x else y) = y := if_neg (nI_nlt h (by omega))
theorem e_leT {α : Type} {a b : Nat} {x y : α} {_ : Decidable (nI a ≤ nI b)} (h : a ≤ b) (hb : b < 2147483648) : (if nI a ≤ nI b then x else y) = x := if_pos (nI_le h (by omega))
theorem e_leF {α : Type} {a b : Nat} {x y : α} {_ : Decidable (nI a ≤ nI b)} (h : b < a) (ha : a < 2147483648) : (if nI a ≤ nI b then x else y) = y := if_neg (nI_ge h (by omega))
theorem e_eqT {α : Type} {a b : Nat} {x y : α} {_ : Decidable (nI a = nI b)} (h : a = b) : (if nI a = nI b then x else y) = x := if_pos (by rw [h])
theorem e_eqF {α : Type} {a b : Nat} {x y : α} {_ : Decidable (nI a = nI b)} (h : a ≠ b) (ha : a < 2147483648) (hb : b < 2147483648) : (if nI a = nI b then x else y) = y := if_neg (fun q => h ((nI_eq (by omega) (by omega)).mp q))
/-- conditions over numbers, as they stand -/
theorem e_lt {α : Type} {a b : Nat} {x y : α} {_ : Decidable (nI a < nI b)} (ha : a < 2147483648) (hb : b < 2147483648) : (if nI a < nI b then x else y) = if a < b then x else y := by
  by_cases h : a < b
  · rw [e_ltT h hb, if_pos h]
  · rw [e_ltF (by omega) ha, if_neg h]
theorem e_le {α : Type} {a b : Nat} {x y : α} {_ : Decidable (nI a ≤ nI b)} (ha : a < 2147483648) (hb : b < 2147483648) : (if nI a ≤ nI b then x else y) = if a ≤ b then x else y := by
  by_cases h : a ≤ b
  · rw [e_leT h hb, if_pos h]
  · rw [e_leF (by omega) ha, if_neg h]
theorem e_eq {α : Type} {a b : Nat} {x y : α} {_ : Decidable (nI a = nI b)} (ha : a < 2147483648) (hb : b < 2147483648) : (if nI a = nI b then x else y) = if a = b then x else y := by
  by_cases h : a = b
  · rw [e_eqT h, if_pos h]
  · rw [e_eqF h ha hb, if_neg h]
theorem e_cl {n : Nat} (h : n < 2147483648) : (nI n).toNatClampNeg = n := nI_clamp (by omega)
theorem e_sub {a b : Nat} (h : b ≤ a) : nI a - nI b = nI (a - b) := pk_sub h
theorem e_div {a d : Nat} (ha : a < 2147483648) (h0 : 0 < d) (hd : d < 2147483648) : nI a / nI d = nI (a / d) := pk_div (by omega) h0 (by omega)
theorem e_10T {α : Type} {c : Prop} {_ : Decidable c} {x y : α} {_ : Decidable ((if c then nI 1 else nI 0) = nI 0)} (h : c) : (if (if c then nI 1 else nI 0) = nI 0 then x else y) = y := if_neg (by rw [if_pos h]; decide)
theorem e_10 {α : Type} {c : Prop} {_ : Decidable c} {x y : α} {_ : Decidable ((if c then nI 1 else nI 0) = nI 0)} : (if (if c then nI 1 else nI 0) = nI 0 then x else y) = if c then y else x := by
  by_cases h : c
  · rw [if_neg (by rw [if_pos h]; decide), if_pos h]
  · rw [if_pos (by rw [if_neg h]), if_neg h]
theorem e_10' {α : Type} {c : Prop} {_ : Decidable c} {x y : α} {_ : Decidable ((if c then nI 1 else nI 0) = nI 1)} : (if (if c then nI 1 else nI 0) = nI 1 then x else y) = if c then x else y := by
  by_cases h : c
  · rw [if_pos (by rw [if_pos h]), if_pos h]
  · rw [if_neg (by rw [if_neg h]; decide), if_neg h]
theorem e_gz {β : Type} {c : Prop} {_ : Decidable c} {x : Option β} : gz (if c then nI 1 else nI 0) x = x := gz_b
theorem e_bit {f k : Nat} (hf : f < 2147483648) (hk : k < 31) {α : Type} {x y : α} {_ : Decidable ((nI f >>> (nI k &&& nI 31)) &&& nI 1 = nI 1)} : (if (nI f >>> (nI k &&& nI 31)) &&& nI 1 = nI 1 then x else y) = if f.testBit k = true then x else y := by
  have e := q_bit hf hk
  by_cases h : f.testBit k = true
  · rw [if_pos (e.mpr h), if_pos h]
  · rw [if_neg (fun q => h (e.mp q)), if_neg h]
theorem e_bitv {f k : Nat} (hf : f < 2147483648) (hk : k < 31) : (nI f >>> (nI k &&& nI 31)) &&& nI 1 = nI (if f.testBit k = true then 1 else 0) := by
  rw [q_31 (by omega), q_shr hf (by omega), q_and, show (1 : Nat) = 2 ^ 1 - 1 from rfl, Nat.and_two_pow_sub_one_eq_mod, Nat.testBit_eq_decide_div_mod_eq]
  have := Nat.mod_lt (f / 2 ^ k) (show 0 < 2 by decide)
  by_cases h : f / 2 ^ k % 2 = 1
  · simp [h]
  · have h0 : f / 2 ^ k % 2 = 0 := by omega
    simp [h0]
theorem e_shl1 {k : Nat} (hk : k < 31) : nI 1 <<< (nI k &&& nI 31) = nI (2 ^ k) := by
  rw [q_31 (by omega), q_shl1 hk]
/-- conditions that are decided -/
theorem k_ltT {a b : Nat} (h : a < b) (hb : b < 2147483648) : (nI a < nI b) = True := eq_true (nI_lt h (by omega))
theorem k_ltF {a b : Nat} (h : b ≤ a) (ha : a < 2147483648) : (nI a < nI b) = False := eq_false (nI_nlt h (by omega))
theorem k_leT {a b : Nat} (h : a ≤ b) (hb : b < 2147483648) : (nI a ≤ nI b) = True := eq_true (nI_le h (by omega))
theorem k_leF {a b : Nat} (h : b < a) (ha : a < 2147483648) : (nI a ≤ nI b) = False := eq_false (nI_ge h (by omega))
theorem k_eqT {a b : Nat} (h : a = b) : (nI a = nI b) = True := eq_true (by rw [h])
theorem k_eqF {a b : Nat} (h : a ≠ b) (ha : a < 2147483648) (hb : b < 2147483648) : (nI a = nI b) = False := eq_false (fun q => h ((nI_eq (by omega) (by omega)).mp q))
theorem k_10 {c : Prop} {_ : Decidable c} : ((if c then nI 1 else nI 0) = nI 0) = ¬ c := by
  by_cases h : c
  · rw [if_pos h]; simp only [h, not_true_eq_false]; exact eq_false (by decide)
  · rw [if_neg h]; simp only [h, not_false_eq_true]
theorem k_m1lt : ((-nI 1 : Int32) < nI 0) = True := eq_true (by decide)
theorem k_nm1 {p : Nat} (h : p < 2147483648) : (nI p = (-nI 1 : Int32)) = False := by
  refine eq_false (fun q => ?_)
  have h2 := congrArg Int32.toInt q
  rw [nI_toInt (by omega), show (-nI 1 : Int32).toInt = -1 by decide] at h2
  omega
/-! ===== rows as functions of numbers ===== -/
def rw (σ : Nat → Nat) : Fn := fun j => nI (σ j)
theorem rw_ap (σ : Nat → Nat) (j : Nat) : rw σ j = nI (σ j) := rfl
theorem rw_any (f : Fn) : ∃ σ, f = rw σ := by
  refine ⟨fun j => (f j).toBitVec.toNat, funext fun j => ?_⟩
  apply Int32.toBitVec_inj.mp
  show (f j).toBitVec = BitVec.ofNat 32 (f j).toBitVec.toNat
  simp
def updN (σ : Nat → Nat) (k v : Nat) : Nat → Nat := fun j => if j = k then v else σ j
theorem updN_eq (σ : Nat → Nat) (k v : Nat) : updN σ k v k = v := if_pos rfl
theorem updN_ne {σ : Nat → Nat} {k v j : Nat} (h : j ≠ k) : updN σ k v j = σ j := if_neg h
theorem upd_rw (σ : Nat → Nat) (k v : Nat) : upd (rw σ) k (nI v) = rw (updN σ k v) := by
  funext j
  unfold upd rw updN
  by_cases h : j = k
  · rw [if_pos h, if_pos h]
  · rw [if_neg h, if_neg h]
theorem sa_self (o : Ob) (j : Nat) : sa o j (o j) = o := by
  funext a
  by_cases h : a = j
  · subst h; rw [sa_eq]
  · rw [sa_ne h]
theorem sa_sa (o : Ob) (j : Nat) (f g : Fn) : sa (sa o j f) j g = sa o j g := by
  funext a
  by_cases h : a = j
  · subst h; rw [sa_eq, sa_eq]
  · rw [sa_ne h, sa_ne h, sa_ne h]
/-- a row of two kinds of cells: what lies where, and what is booked -/
def jn (σ π : Nat → Nat) : Nat → Nat := fun j => if j = 4 ∨ j = 5 ∨ j = 6 ∨ 544 ≤ j then π j else σ j
theorem jn_l {σ π : Nat → Nat} {j : Nat} (h4 : j ≠ 4) (h5 : j ≠ 5) (h6 : j ≠ 6) (h : j < 544) : jn σ π j = σ j := if_neg (by omega)
theorem jn_r {σ π : Nat → Nat} {j : Nat} (h : 544 ≤ j) : jn σ π j = π j := if_pos (by omega)
theorem jn_4 (σ π : Nat → Nat) : jn σ π 4 = π 4 := if_pos (by omega)
theorem jn_5 (σ π : Nat → Nat) : jn σ π 5 = π 5 := if_pos (by omega)
theorem jn_6 (σ π : Nat → Nat) : jn σ π 6 = π 6 := if_pos (by omega)
theorem jn_ul {σ π : Nat → Nat} {j v : Nat} (h4 : j ≠ 4) (h5 : j ≠ 5) (h6 : j ≠ 6) (h : j < 544) : updN (jn σ π) j v = jn (updN σ j v) π := by
  funext i
  by_cases e : i = j
  · subst e
    rw [updN_eq, jn_l h4 h5 h6 h, updN_eq]
  · rw [updN_ne e]
    unfold jn
    rw [updN_ne e]
theorem jn_ur' {σ π : Nat → Nat} {j v : Nat} (h : j = 4 ∨ j = 5 ∨ j = 6 ∨ 544 ≤ j) : updN (jn σ π) j v = jn σ (updN π j v) := by
  funext i
  by_cases e : i = j
  · subst e
    rw [updN_eq]
    unfold jn
    rw [if_pos h, updN_eq]
  · rw [updN_ne e]
    unfold jn
    rw [updN_ne e]
theorem jn_ur {σ π : Nat → Nat} {j v : Nat} (h : 544 ≤ j) : updN (jn σ π) j v = jn σ (updN π j v) := jn_ur' (by omega)
theorem jn_u4 (σ π : Nat → Nat) (v : Nat) : updN (jn σ π) 4 v = jn σ (updN π 4 v) := jn_ur' (by omega)
theorem jn_u5 (σ π : Nat → Nat) (v : Nat) : updN (jn σ π) 5 v = jn σ (updN π 5 v) := jn_ur' (by omega)
theorem jn_u6 (σ π : Nat → Nat) (v : Nat) : updN (jn σ π) 6 v = jn σ (updN π 6 v) := jn_ur' (by omega)
theorem jn_self (σ : Nat → Nat) : jn σ σ = σ := by
  funext i
  unfold jn
  split <;> rfl
theorem ok_nxg {α β : Type} {a : α} {f : α → Option β} {Q : β → Prop} (h : ∀ K, K = a → Ok (f K) Q) : Ok (nx a f) Q := h a rfl
