theorem packN_lt {τ : Nat → Nat} {j : Nat} (h : ∀ i, i < 6 → τ (56 + 6 * j + i) = 0 ∨ (97 ≤ τ (56 + 6 * j + i) ∧ τ (56 + 6 * j + i) ≤ 122)) : packN τ j < 2147483648 := by
  have r0 := lt32 (h 0 (by decide))
  have r1 := lt32 (h 1 (by decide))
  have r2 := lt32 (h 2 (by decide))
  have r3 := lt32 (h 3 (by decide))
  have r4 := lt32 (h 4 (by decide))
  have r5 := lt32 (h 5 (by decide))
  rw [Nat.add_zero] at r0
  unfold packN
  simp only [l5_sub]
  clear h
  omega
/-- one ITEM more in the draft -/
def itN (τ : Nat → Nat) (t : Nat → Nat) (a d v1 v2 v3 : Nat) : Nat → Nat := updN (updN (updN (updN (ltN τ t a d (τ 2) 6) (8 + τ 2) v1) (16 + τ 2) v2) (24 + τ 2) v3) 2 (τ 2 + 1)
theorem it_2 {τ t : Nat → Nat} {a d v1 v2 v3 : Nat} : itN τ t a d v1 v2 v3 2 = τ 2 + 1 := updN_eq _ _ _
theorem it_lt {τ t : Nat → Nat} {a d v1 v2 v3 : Nat} (hc : τ 2 < 8) {i : Nat} (hi : i < 6) : itN τ t a d v1 v2 v3 (56 + 6 * τ 2 + i) = wlN t a d i := by
  unfold itN
  rw [updN_ne (by omega), updN_ne (by omega), updN_ne (by omega), updN_ne (by omega), lt_in hi]
theorem it_o {τ t : Nat → Nat} {a d v1 v2 v3 : Nat} {j : Nat} (h2 : j ≠ 2) (h8 : j ≠ 8 + τ 2) (h16 : j ≠ 16 + τ 2) (h24 : j ≠ 24 + τ 2) (h : j < 56 + 6 * τ 2 ∨ 56 + 6 * τ 2 + 6 ≤ j) : itN τ t a d v1 v2 v3 j = τ j := by
  unfold itN
  rw [updN_ne h2, updN_ne h24, updN_ne h16, updN_ne h8, lt_out h]
theorem it_8 {τ t : Nat → Nat} {a d v1 v2 v3 : Nat} (hc : τ 2 < 8) : itN τ t a d v1 v2 v3 (8 + τ 2) = v1 ∧ itN τ t a d v1 v2 v3 (16 + τ 2) = v2 ∧ itN τ t a d v1 v2 v3 (24 + τ 2) = v3 := by
  unfold itN
  refine ⟨?_, ?_, ?_⟩
  · rw [updN_ne (by omega), updN_ne (by omega), updN_ne (by omega), updN_eq]
  · rw [updN_ne (by omega), updN_ne (by omega), updN_eq]
  · rw [updN_ne (by omega), updN_eq]
theorem DR_it {o o' d M M' : Ob} {τ t : Nat → Nat} {a e v1 v2 v3 : Nat} (h : DR o d M τ) (hc : τ 2 < 8) (h1 : 1 ≤ e) (h6 : e ≤ 6) (hs : ∀ i, i < e → smC (t (a + i))) (hv1 : 1 ≤ v1 ∧ v1 ≤ 6) (hv2 : 1 ≤ v2 ∧ v2 ≤ 60) (hv3 : 1 ≤ v3 ∧ v3 ≤ 20) (h3 : M' 3 = rw (itN τ t a e v1 v2 v3)) (g4 : o' 4 = o 4) (g5 : o' 5 = o 5) (g6 : o' 6 = o 6) (g7 : o' 7 = o 7) (g2 : o' 2 = o 2) (m17 : M' 17 = M 17) (m18 : M' 18 = M 18) (m13 : M' 13 = M 13) : DR o' (si (sa (sa (sa (sa d 4 (upd (d 4) (τ 2) (nI (pkT t a e)))) 1 (upd (d 1) (τ 2) (nI v1))) 2 (upd (d 2) (τ 2) (nI v2))) 3 (upd (d 3) (τ 2) (nI v3))) 0 (nI (τ 2 + 1))) M' (itN τ t a e v1 v2 v3) := by
  obtain ⟨a1, a2, a3, a4, a5, a6, a7, a8, a9, b1, b2, b3⟩ := h
  have e8 := it_8 (t := t) (a := a) (d := e) (v1 := v1) (v2 := v2) (v3 := v3) hc
  have wl : ∀ i, wlN t a e i = 0 ∨ (97 ≤ wlN t a e i ∧ wlN t a e i ≤ 122) := fun i => by
    by_cases q : i < e
    · rw [wl_in q]; exact Or.inr (hs i q)
    · exact Or.inl (wl_out q)
  have pkc : packN (itN τ t a e v1 v2 v3) (τ 2) = pkT t a e := by
    have i0 := it_lt (t := t) (a := a) (d := e) (v1 := v1) (v2 := v2) (v3 := v3) hc (i := 0) (by decide)
    rw [Nat.add_zero] at i0
    rw [pk_wl h1 h6 hs]
    unfold packN
    rw [i0, it_lt hc (by decide), it_lt hc (by decide), it_lt hc (by decide), it_lt hc (by decide), it_lt hc (by decide)]
  refine ⟨h3, by rw [it_2]; omega, ⟨?_, fun k hk => ?_⟩, fun k hk => ?_, fun k hk => ?_, ?_, ?_, ⟨?_, ?_⟩, by rw [g6, m17]; exact a9, by rw [g7, m18]; exact b1, by rw [g2, m13]; exact b2, fun k hk => ?_⟩
  · rw [si_eq, it_2]
  · rw [it_2] at hk
    by_cases q : k = τ 2
    · subst q
      rw [e8.1, e8.2.1, e8.2.2, pkc]
      simp (disch := omega) only [si_eq, si_ne, sa_eq, sa_ne, upd_eq, upd_ne, updN_eq, updN_ne]
      exact ⟨trivial, trivial, trivial, trivial⟩
    · have hk' : k < τ 2 := by omega
      rw [it_o (j := 8 + k) (by omega) (by omega) (by omega) (by omega) (by omega), it_o (j := 16 + k) (by omega) (by omega) (by omega) (by omega) (by omega), it_o (j := 24 + k) (by omega) (by omega) (by omega) (by omega) (by omega), packN_cg (fun i hi => it_o (by omega) (by omega) (by omega) (by omega) (by omega))]
      simp (disch := omega) only [si_eq, si_ne, sa_eq, sa_ne, upd_eq, upd_ne, updN_eq, updN_ne]
      exact a3.2 k hk'
  · rw [it_2] at hk
    by_cases q : k = τ 2
    · subst q
      rw [e8.1, e8.2.1, e8.2.2]
      exact ⟨hv1, hv2, hv3⟩
    · rw [it_o (j := 8 + k) (by omega) (by omega) (by omega) (by omega) (by omega), it_o (j := 16 + k) (by omega) (by omega) (by omega) (by omega) (by omega), it_o (j := 24 + k) (by omega) (by omega) (by omega) (by omega) (by omega)]
      exact a4 k (by omega)
  · rw [it_2] at hk
    by_cases q : k = τ 2
    · subst q
      have i0 := it_lt (t := t) (a := a) (d := e) (v1 := v1) (v2 := v2) (v3 := v3) hc (i := 0) (by decide)
      rw [Nat.add_zero] at i0
      refine ⟨?_, fun i hi => ?_⟩
      · rw [i0, wl_in (by omega)]
        exact hs 0 (by omega)
      · rw [it_lt hc hi]
        exact wl i
    · have hk' : k < τ 2 := by omega
      refine ⟨?_, fun i hi => ?_⟩
      · rw [it_o (by omega) (by omega) (by omega) (by omega) (by omega)]
        exact (a5 k hk').1
      · rw [it_o (by omega) (by omega) (by omega) (by omega) (by omega)]
        exact (a5 k hk').2 i hi
  · rw [it_o (by omega) (by omega) (by omega) (by omega) (by omega)]; exact a6
  · rw [it_o (by omega) (by omega) (by omega) (by omega) (by omega)]; exact a7
  · rw [g4, it_o (by omega) (by omega) (by omega) (by omega) (by omega)]; exact a8.1
  · rw [g5, it_o (by omega) (by omega) (by omega) (by omega) (by omega)]; exact a8.2
  · rw [it_2]
    by_cases q : k < 3 ∨ (8 ≤ k ∧ k < 8 + (τ 2 + 1)) ∨ (16 ≤ k ∧ k < 16 + (τ 2 + 1)) ∨ (24 ≤ k ∧ k < 24 + (τ 2 + 1)) ∨ (56 ≤ k ∧ k < 56 + 6 * (τ 2 + 1))
    · exact Or.inl q
    · rw [it_o (by omega) (by omega) (by omega) (by omega) (by omega)]
      rcases b3 k hk with h | h
      · omega
      · exact Or.inr h
