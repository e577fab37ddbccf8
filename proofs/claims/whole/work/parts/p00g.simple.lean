/-! ===== small methods, by what they answer ===== -/
theorem m_isIn (v a b : Int32) : f_X12_isIn v a b = some (if a ≤ v ∧ v ≤ b then 1 else 0) := by
  unfold f_X12_isIn
  by_cases h1 : v < a
  · rw [if_pos h1, if_neg]
    exact fun q => absurd q.1 (Int32.not_le.mpr h1)
  · rw [if_neg h1]
    by_cases h2 : b < v
    · rw [if_pos h2, if_neg]
      exact fun q => absurd q.2 (Int32.not_le.mpr h2)
    · rw [if_neg h2, if_pos ⟨Int32.not_lt.mp h1, Int32.not_lt.mp h2⟩]
theorem m_in0 {k n : Nat} (hn : n < 2147483648) (h : k < n) : f_X12_isIn (nI k) 0 (nI n - 1) = some 1 := by
  rw [m_isIn]
  have := q_inP hn h
  exact congrArg some (if_pos this)
theorem m_out0 {v : Int32} {n : Nat} (hn : n < 2147483648) (h : v < 0 ∨ nI n ≤ v) : f_X12_isIn v 0 (nI n - 1) = some 0 := by
  rw [m_isIn]
  exact congrArg some (if_neg (q_outP hn h))
theorem q_bitL {f k : Nat} (hf : f < 2147483648) (hk : k < 31) : (nI f >>> (nI k &&& 31)) &&& 1 = 1 ↔ f.testBit k = true := q_bit hf hk
theorem m_bitOf {f k : Nat} (hf : f < 2147483648) (hk : k < 31) : f_X12_bitOf (nI f) (nI k) = some (if f.testBit k = true then 1 else 0) := by
  unfold f_X12_bitOf
  have e := q_bitL hf hk
  by_cases h : f.testBit k = true
  · rw [if_pos h, if_pos (e.mpr h)]
  · rw [if_neg h, if_neg (fun q => h (e.mp q))]
theorem c_holds {o : Ob} {f k : Nat} (ho : o 2 0 = nI f) (hf : f < 2147483648) (hk : k < 31) : f_X8_holds o (nI k) = some (if f.testBit k = true then 1 else 0) := by
  unfold f_X8_holds
  rw [ho]
  have e := q_bitL hf hk
  by_cases h : f.testBit k = true
  · rw [if_pos h, if_pos (e.mpr h)]
  · rw [if_neg h, if_neg (fun q => h (e.mp q))]
theorem c_hasIn {o : Ob} {k n : Nat} (ho : o 0 0 = nI n) (hn : n < 2147483648) (h : k < n) : f_X10_has o (nI k) = some 1 := by
  unfold f_X10_has
  rw [ho, if_neg (nI_pos (by omega)), if_neg (nI_ge h (by omega))]
theorem c_hasOut {o : Ob} {v : Int32} {n : Nat} (ho : o 0 0 = nI n) (h : v < 0 ∨ nI n ≤ v) : f_X10_has o v = some 0 := by
  unfold f_X10_has
  rw [ho]
  by_cases q : v < 0
  · rw [if_pos q]
  · rw [if_neg q, if_pos (h.resolve_left q)]
theorem c_lhasIn {o : Ob} {k n : Nat} (ho : o 0 0 = nI n) (hn : n < 2147483648) (h : k < n) : f_X4_has o (nI k) = some 1 := by
  unfold f_X4_has
  rw [ho, if_neg (nI_pos (by omega)), if_neg (nI_ge h (by omega))]
theorem c_lhasOut {o : Ob} {v : Int32} {n : Nat} (ho : o 0 0 = nI n) (h : v < 0 ∨ nI n ≤ v) : f_X4_has o v = some 0 := by
  unfold f_X4_has
  rw [ho]
  by_cases q : v < 0
  · rw [if_pos q]
  · rw [if_neg q, if_pos (h.resolve_left q)]
theorem q_cl {n : Nat} (h : n < 2147483648) : Int32.toNatClampNeg (OfNat.ofNat n : Int32) = n := nI_clamp (by omega)
theorem m_isItemIn {M : Ob} {σ : Nat → Nat} (hs : MR (M 0) σ) (hn : σ 2 < 2147483648) {k : Nat} (h : k < σ 2) : f_X12_isItem M (nI k) = some 1 := by
  unfold f_X12_isItem
  rw [show (2 : Int32) = nI 2 from rfl, gi_in (by decide) (by decide), nI_clamp (by decide), hs 2 (by decide), m_in0 hn h, zb1_s, gz_1]
theorem m_isItemOut {M : Ob} {σ : Nat → Nat} (hs : MR (M 0) σ) (hn : σ 2 < 2147483648) {v : Int32} (h : v < 0 ∨ nI (σ 2) ≤ v) : f_X12_isItem M v = some 0 := by
  unfold f_X12_isItem
  rw [show (2 : Int32) = nI 2 from rfl, gi_in (by decide) (by decide), nI_clamp (by decide), hs 2 (by decide), m_out0 hn h, zb1_s, gz_0]
theorem m_isLoggedIn {M : Ob} {σ : Nat → Nat} (hs : MR (M 0) σ) (hn : σ 7 < 2147483648) {k : Nat} (h : k < σ 7) : f_X12_isLogged M (nI k) = some 1 := by
  unfold f_X12_isLogged
  rw [show (7 : Int32) = nI 7 from rfl, gi_in (by decide) (by decide), nI_clamp (by decide), hs 7 (by decide), m_in0 hn h, zb1_s, gz_1]
theorem m_isLoggedOut {M : Ob} {σ : Nat → Nat} (hs : MR (M 0) σ) (hn : σ 7 < 2147483648) {v : Int32} (h : v < 0 ∨ nI (σ 7) ≤ v) : f_X12_isLogged M v = some 0 := by
  unfold f_X12_isLogged
  rw [show (7 : Int32) = nI 7 from rfl, gi_in (by decide) (by decide), nI_clamp (by decide), hs 7 (by decide), m_out0 hn h, zb1_s, gz_0]
/-- the row of a told thing: class and model answer alike -/
theorem r_row {c1 c2 : Int32} {f1 f2 : Fn} {N : Nat} (hN : N < 1000) (h : RRow c1 f1 c2 f2 N) (v : Int32) : ∃ r, (if v < 0 then some (-1 : Int32) else if c1 ≤ v then some (-1 : Int32) else gi v N (some (f1 (Int32.toNatClampNeg v)))) = some r ∧ (zb1 (f_X12_isIn v (0 : Int32) (c2 - (1 : Int32))) fun (r1 : Int32) => if r1 = 0 then some (-1 : Int32) else gi v N (some (f2 (Int32.toNatClampNeg v)))) = some r := by
  obtain ⟨n, hn, e1, e2, hf⟩ := h
  subst e1 e2
  rcases q_rng v (n := n) (by omega) with ⟨k, hk, rfl⟩ | ho
  · refine ⟨f1 k, ?_, ?_⟩
    · rw [if_neg (nI_pos (by omega)), if_neg (nI_ge hk (by omega)), gi_in (by omega) (by omega), nI_clamp (by omega)]
    · rw [m_in0 (by omega) hk, zb1_s, if_neg (by decide), gi_in (by omega) (by omega), nI_clamp (by omega), hf k hk]
  · refine ⟨-1, ?_, ?_⟩
    · by_cases q : v < 0
      · rw [if_pos q]
      · rw [if_neg q, if_pos (ho.resolve_left q)]
    · rw [m_out0 (by omega) ho, zb1_s, if_pos rfl]
