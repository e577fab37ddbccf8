/-- the set at REQUEST i of the PLAN for r -/
def chA (σ : Nat → Nat) (room r i : Nat) : Nat := chN σ room r (r - 1 - i)
theorem c_trace {p w l : Ob} {σ : Nat → Nat} (hw : RCw w σ) (hl : RCl l σ) (hW : WF σ) (hF : FI true p σ (σ 0) 0 (σ 7)) (h1 : 0 < σ 7) (ht : p 8 0 = -nI 1 ∨ ∃ t, t ≤ σ 7 ∧ p 8 0 = nI t ∧ ∀ d, d < t → p 9 (t - 1 - d) = nI (chN σ (σ 0) t d)) : Ok (f_X5_trace 10496 p w l) (fun p' => FI true p' σ (σ 0) 0 (σ 7) ∧ p' 8 0 = nI (σ 7) ∧ ∀ i, i < σ 7 → p' 9 i = nI (chA σ (σ 0) (σ 7) i)) := by
  have h8 := hW.1.1
  have h7 := hW.2.2.1
  have hwi := hW.1.2.2.2.2.1
  have hr := hW.1.2.2.1
  have hN : 2 ^ σ 2 ≤ 256 := pw8 h8
  have hlog : ∀ i, i < σ 7 → σ (104 + i) < σ 2 := fun i hi => (hW.2.2.2.2.2.2 i hi).1
  obtain ⟨f1, f2, f3, f4⟩ := hF
  have hle : ∀ n, n ≤ σ 7 → ∀ x, rowN σ (σ 0) 0 n x ≤ 1000000 := fun n hn x => by
    rcases row_bd h8 hwi (σ 0) 0 n (fun i h => hlog i (by omega)) x with h | h <;> omega
  unfold f_X5_trace
  by_cases q : p 8 0 = nI (σ 7)
  · rw [if_pos (by rw [q, f2])]
    refine ok_some.mpr ⟨⟨f1, f2, f3, f4⟩, q, fun i hi => ?_⟩
    rcases ht with h | ⟨t, a, b, c⟩
    · rw [h] at q
      exact absurd q.symm (of_eq_false (k_nm1 (by omega)))
    · have : t = σ 7 := (nI_eq (by omega) (by omega)).mp (b.symm.trans q)
      subst this
      have := c (σ 7 - 1 - i) (by omega)
      rw [show σ 7 - 1 - (σ 7 - 1 - i) = i by omega] at this
      exact this
  · rw [if_neg (by rw [f2]; exact q), f2, if_pos (show (1 : Int32) ≤ nI (σ 7) from nI_le (a := 1) (by omega) (by omega))]
    have hls := c_leastSet (kp := true) f1 h8 f3 h7 (f4 (σ 7) (Nat.le_refl _) (Or.inl rfl)) (hle (σ 7) (Nat.le_refl _))
    rw [zb1_of (show f_X5_leastSet 10496 p (nI (σ 7)) = _ from hls), show (1 : Int32) = nI 1 from rfl, e_sub (by omega), gi_in (by omega) (by decide), nx_eq, e_cl (by omega), sa_ne (by decide), f2, e_sub (by omega), nx_eq, ok_zb1]
    refine ok_mono (ok_zl2 (Q := fun o => (∀ j, j ≠ 9 → o j = p j) ∧ ∀ i, i < σ 7 → o 9 i = nI (chA σ (σ 0) (σ 7) i)) (fun d o kk => kk = nI (σ 7 - 1 - d) ∧ (∀ j, j ≠ 9 → o j = p j) ∧ ∀ e, e ≤ d → o 9 (σ 7 - 1 - e) = nI (chN σ (σ 0) (σ 7) e)) (σ 7 - 1) (fun d o kk hd hI => ?_) (fu_lt (by omega)) ⟨rfl, fun j hj => sa_ne hj, fun e he => ?_⟩) (fun o ho => ?_)
    · obtain ⟨rfl, hfr, hch⟩ := hI
      by_cases z : d = σ 7 - 1
      · have e0 : σ 7 - 1 - d = 0 := by omega
        rw [e0]
        simp (maxSteps := 3000000) (disch := omega) only [↓nx_q, zb0_s, zb1_s, zb2_s, zb3_s, zb4_s, zb5_s, zb6_s, zb7_s, zb8_s, zb9_s, zb10_s, zb11_s, zb12_s, zb13_s, zb14_s, q_lit, nI_add, pk_mul, e_cl, gi_in, gz_n0, gz_n1, e_gz, si_eq, si_ne, sa_eq, sa_ne, if_true, if_false, ↓reduceIte, k_ltT, k_ltF, k_leT, k_leF, k_eqT, k_eqF, k_m1lt, k_nm1, not_true_eq_false, not_false_eq_true]
        refine ⟨_, rfl, hfr, fun i hi => ?_⟩
        have := hch (σ 7 - 1 - i) (by omega)
        rw [show σ 7 - 1 - (σ 7 - 1 - i) = i by omega] at this
        exact this
      · have hfo : ∀ j, j ≠ 1 → j ≠ 7 → j ≠ 8 → j ≠ 9 → o j = p j := fun j _ _ _ h => hfr j h
        have hTo := PT_fr f1 hfo
        have f3o : o 0 0 = if true then nI 1 else nI 0 := by rw [hfr 0 (by decide)]; exact f3
        have hk := hch d (Nat.le_refl _)
        have hcl := ch_lt (σ := σ) (room := σ 0) (t := σ 7) d
        have r1 := c_row f3o (show σ 7 - 1 - d + 1 ≤ 41 by omega)
        have r2 := c_row f3o (show σ 7 - 1 - d ≤ 41 by omega)
        have e1 : σ 7 - 1 - d + 1 = σ 7 - d := by omega
        have hx1 : rix true (σ 7 - 1 - d + 1) = 256 * (σ 7 - d) := by rw [e1]; rfl
        have hx2 : rix true (σ 7 - 1 - d) = 256 * (σ 7 - 1 - d) := rfl
        rw [hx1] at r1
        rw [hx2] at r2
        have hsv := c_serving (p := o) hw hl hW (show σ 7 - 1 - d < σ 7 by omega) hk (by omega)
        have o1 : o 1 = p 1 := hfr 1 (by decide)
        -- the chosen set fits
        have hfit : sumB (szN σ) (chN σ (σ 0) (σ 7) d) (σ 2) ≤ σ 0 := by
          cases d with
          | zero => exact (ls_spec (σ := σ) (room := σ 0) _).1
          | succ d =>
            unfold chN
            cases y : faN σ (σ 0) (rowN σ (σ 0) 0 (σ 7 - 1 - d)) (chN σ (σ 0) (σ 7) d) (rowN σ (σ 0) 0 (σ 7 - d) (chN σ (σ 0) (σ 7) d) - srvN σ (σ 7 - 1 - d) (chN σ (σ 0) (σ 7) d)) (2 ^ σ 2) with
            | none =>
              show sumB (szN σ) 0 (σ 2) ≤ σ 0
              rw [sumB_0]
              exact Nat.zero_le _
            | some u => exact (fa_some y).2.1
        have hcost : o 1 (256 * (σ 7 - d) + chN σ (σ 0) (σ 7) d) = nI (rowN σ (σ 0) 0 (σ 7 - d) (chN σ (σ 0) (σ 7) d)) := by
          rw [o1]
          exact f4 (σ 7 - d) (by omega) (Or.inl rfl) _ hcl hfit
        have hrow := hle (σ 7 - d) (by omega) (chN σ (σ 0) (σ 7) d)
        have hsl := srv_le h8 hwi (hlog (σ 7 - 1 - d) (by omega)) (chN σ (σ 0) (σ 7) d)
        have hge : srvN σ (σ 7 - 1 - d) (chN σ (σ 0) (σ 7) d) ≤ rowN σ (σ 0) 0 (σ 7 - d) (chN σ (σ 0) (σ 7) d) := by
          obtain ⟨n, hn⟩ : ∃ n, σ 7 - d = n + 1 := ⟨σ 7 - d - 1, by omega⟩
          have en : σ 7 - 1 - d = n := by omega
          rw [hn, en]
          unfold rowN
          split
          · omega
          · rw [en] at hsl
            omega
        have hfa := c_firstAhead (p := o) (b := 256 * (σ 7 - 1 - d)) (beh := chN σ (σ 0) (σ 7) d) (m := rowN σ (σ 0) 0 (σ 7 - d) (chN σ (σ 0) (σ 7) d) - srvN σ (σ 7 - 1 - d) (chN σ (σ 0) (σ 7) d)) (nt := 10496) (C := rowN σ (σ 0) 0 (σ 7 - 1 - d)) hTo h8 hwi (by rw [o1]; exact f4 (σ 7 - 1 - d) (by omega) (Or.inl rfl)) (hle _ (by omega)) hcl (by omega) (by omega) (by decide)
        have em1 : nI (σ 7 - 1 - d) + -nI 1 = nI (σ 7 - 1 - (d + 1)) := by
          rw [show nI (σ 7 - 1 - d) + -nI 1 = nI (σ 7 - 1 - d) - nI 1 from (Int32.sub_eq_add_neg ..).symm, e_sub (by omega)]
          exact congrArg nI (by omega)
        simp (maxSteps := 3000000) (disch := omega) only [↓nx_q, zb0_s, zb1_s, zb2_s, zb3_s, zb4_s, zb5_s, zb6_s, zb7_s, zb8_s, zb9_s, zb10_s, zb11_s, zb12_s, zb13_s, zb14_s, q_lit, nI_add, pk_mul, e_cl, gi_in, gz_n0, gz_n1, e_gz, si_eq, si_ne, sa_eq, sa_ne, if_true, if_false, ↓reduceIte, k_ltT, k_ltF, k_leT, k_leF, k_eqT, k_eqF, k_m1lt, k_nm1, not_true_eq_false, not_false_eq_true, r1, hk, hcost, hsv, e_sub, r2, hfa, em1]
        refine ⟨_, rfl, by omega, rfl, fun j hj => ?_, fun e he => ?_⟩
        · simp (disch := omega) only [si_eq, si_ne, sa_eq, sa_ne, upd_eq, upd_ne, updN_eq, updN_ne]
          exact hfr j hj
        · by_cases ee : e = d + 1
          · subst ee
            have : σ 7 - 1 - (d + 1) = σ 7 - 1 - d - 1 := by omega
            rw [this]
            simp (disch := omega) only [si_eq, si_ne, sa_eq, sa_ne, upd_eq, upd_ne, updN_eq, updN_ne]
            rfl
          · simp (disch := omega) only [si_eq, si_ne, sa_eq, sa_ne, upd_eq, upd_ne, updN_eq, updN_ne]
            exact hch e (by omega)
    · have : e = 0 := by omega
      subst this
      rw [sa_eq, Nat.sub_zero, upd_eq]
      rfl
    · obtain ⟨hfr, hch⟩ := ho
      rw [nx_eq]
      refine ok_some.mpr ⟨⟨PT_fr f1 (fun j _ _ b c => ?_), ?_, ?_, fun m hm _ => ?_⟩, ?_, fun i hi => ?_⟩
      · rw [si_ne b, hfr j c]
      · rw [si_ne (by decide), hfr 7 (by decide)]
        exact f2
      · rw [si_ne (by decide), hfr 0 (by decide)]
        exact f3
      · rw [si_ne (by decide), hfr 1 (by decide)]
        exact f4 m hm (Or.inl rfl)
      · rw [si_eq, hfr 7 (by decide)]
        exact f2
      · rw [si_ne (by decide)]
        exact hch i hi
/-- what the PLAN pays at REQUEST i -/
def paN (σ : Nat → Nat) (room r i : Nat) : Nat := prS σ (andn (chA σ room r i) (if i = 0 then 0 else chA σ room r (i - 1))) + srvN σ i (chA σ room r i)
theorem c_paysAt {p w l : Ob} {σ : Nat → Nat} {i : Nat} (hw : RCw w σ) (hl : RCl l σ) (hW : WF σ) (hT : PT p σ (σ 0)) (hi : i < σ 7) (hc : ∀ i, i < σ 7 → p 9 i = nI (chA σ (σ 0) (σ 7) i)) : f_X5_paysAt p w l (nI i) = some (nI (paN σ (σ 0) (σ 7) i)) := by
  have h8 := hW.1.1
  have h7 := hW.2.2.1
  have hN : 2 ^ σ 2 ≤ 256 := pw8 h8
  have hci := hc i hi
  have hcl : chA σ (σ 0) (σ 7) i < 2 ^ σ 2 := ch_lt _
  have hsv := c_serving (p := p) hw hl hW hi hci (by omega)
  unfold f_X5_paysAt paN
  by_cases q : i = 0
  · subst q
    have han : andn (chA σ (σ 0) (σ 7) 0) 0 < 2 ^ σ 2 := andn_lt hcl
    have hp := (hT.2.1 _ han).2
    rw [if_pos rfl]
    simp (maxSteps := 3000000) (disch := omega) only [↓nx_q, zb0_s, zb1_s, zb2_s, zb3_s, zb4_s, zb5_s, zb6_s, zb7_s, zb8_s, zb9_s, zb10_s, zb11_s, zb12_s, zb13_s, zb14_s, q_lit, nI_add, pk_mul, e_cl, gi_in, gz_n0, gz_n1, e_gz, si_eq, si_ne, sa_eq, sa_ne, if_true, if_false, ↓reduceIte, k_ltT, k_ltF, k_leT, k_leF, k_eqT, k_eqF, k_m1lt, k_nm1, not_true_eq_false, not_false_eq_true, hci, q_andn', hsv, hp]
  · have hcp := hc (i - 1) (by omega)
    have han : andn (chA σ (σ 0) (σ 7) i) (chA σ (σ 0) (σ 7) (i - 1)) < 2 ^ σ 2 := andn_lt hcl
    have hp := (hT.2.1 _ han).2
    rw [if_neg q]
    simp (maxSteps := 3000000) (disch := omega) only [↓nx_q, zb0_s, zb1_s, zb2_s, zb3_s, zb4_s, zb5_s, zb6_s, zb7_s, zb8_s, zb9_s, zb10_s, zb11_s, zb12_s, zb13_s, zb14_s, q_lit, nI_add, pk_mul, e_cl, gi_in, gz_n0, gz_n1, e_gz, si_eq, si_ne, sa_eq, sa_ne, if_true, if_false, ↓reduceIte, k_ltT, k_ltF, k_leT, k_leF, k_eqT, k_eqF, k_m1lt, k_nm1, not_true_eq_false, not_false_eq_true, e_sub, hci, hcp, q_andn', hsv, hp]
