/-- does a set lead on -/
def ldN (σ : Nat → Nat) (room r d x : Nat) : Prop := match d with
  | 0 => rowN σ room 0 r x < 1000000 ∧ rowN σ room 0 r x = rowN σ room 0 r (chN σ room r 0)
  | e + 1 => rowN σ room 0 (r - 1 - e) x < 1000000 ∧ rowN σ room 0 (r - 1 - e) x + prS σ (andn (chN σ room r e) x) + srvN σ (r - 1 - e) (chN σ room r e) = rowN σ room 0 (r - e) (chN σ room r e)
def duN (σ : Nat → Nat) (room r d : Nat) : Nat := match d with
  | 0 => rowN σ room 0 r (chN σ room r 0)
  | e + 1 => rowN σ room 0 (r - e) (chN σ room r e)
theorem ld_first {σ : Nat → Nat} {room r d : Nat} (hW : WF σ) (hr : r ≤ σ 7) (hd : d < r) : ldN σ room r d (chN σ room r d) ∧ ∀ x, x < chN σ room r d → ¬ ldN σ room r d x := by
  have h8 := hW.1.1
  have h7 := hW.2.2.1
  have hwi := hW.1.2.2.2.2.1
  have hlog : ∀ i, i < σ 7 → σ (104 + i) < σ 2 := fun i hi => (hW.2.2.2.2.2.2 i hi).1
  cases d with
  | zero =>
    refine ⟨⟨ch_ok hW hr 0 hd, rfl⟩, fun x hx h => ?_⟩
    have := (ls_spec (σ := σ) (room := room) (C := rowN σ room 0 r) (2 ^ σ 2)).2.2.1 x hx (row_fit h.1)
    have h2 : rowN σ room 0 r x = rowN σ room 0 r (lsN σ room (rowN σ room 0 r) (2 ^ σ 2)) := h.2
    omega
  | succ e =>
    have hok := ch_ok (room := room) hW hr e (by omega)
    have hok2 := ch_ok (room := room) hW hr (e + 1) hd
    obtain ⟨u, hu⟩ := fa_ex hW hr (by omega) hok
    have hch : chN σ room r (e + 1) = u := by
      show (faN _ _ _ _ _ _).getD 0 = u
      rw [hu]
      rfl
    obtain ⟨a, b, c, f⟩ := fa_some hu
    have hge : srvN σ (r - 1 - e) (chN σ room r e) ≤ rowN σ room 0 (r - e) (chN σ room r e) := by
      obtain ⟨n, hn⟩ : ∃ n, r - e = n + 1 := ⟨r - e - 1, by omega⟩
      have en : r - 1 - e = n := by omega
      rw [hn] at hok ⊢
      rw [en]
      unfold rowN at hok ⊢
      split at hok
      · rename_i q
        rw [if_pos q]
        omega
      · omega
    rw [hch] at hok2 ⊢
    rw [show r - (e + 1) = r - 1 - e by omega] at hok2
    refine ⟨⟨hok2, ?_⟩, fun x hx h => f x hx (row_fit h.1) ?_⟩
    · omega
    · have := h.2
      omega
theorem m_fits {M : Ob} {σ : Nat → Nat} {room r d x : Nat} (hM : M 0 = rw σ) (hW : WF σ) (hr : r ≤ σ 7) (hd : d < r) (hp : PR M σ room 0 r) (h32 : M 32 0 = nI r) (h29 : ∀ e, d = e + 1 → M 29 (r - 1 - e) = nI (chN σ room r e)) (hx : x < 2 ^ σ 2) : (ldN σ room r d x → f_X12_fits M (nI (r - 1 - d)) (nI x) (nI (duN σ room r d)) = some (nI 1)) ∧ (¬ ldN σ room r d x → f_X12_fits M (nI (r - 1 - d)) (nI x) (nI (duN σ room r d)) = some (nI 0)) := by
  have h8 := hW.1.1
  have h7 := hW.2.2.1
  have hwi := hW.1.2.2.2.2.1
  have hN : 2 ^ σ 2 ≤ 256 := pw8 h8
  have hlog : ∀ i, i < σ 7 → σ (104 + i) < σ 2 := fun i hi => (hW.2.2.2.2.2.2 i hi).1
  have hc := hp (r - 1 - d) x (by omega) hx
  have hm8 : m8 (rowN σ room 0 (r - 1 - d + 1) x) ≤ 100000000 := by
    unfold m8
    split <;> omega
  have hdu : duN σ room r d < 1000000 := by
    cases d with
    | zero => exact ch_ok hW hr 0 hd
    | succ e => exact ch_ok hW hr e (by omega)
  unfold f_X12_fits
  cases d with
  | zero =>
    rw [show r - 1 - 0 + 1 = r by omega] at hc hm8
    rw [Nat.sub_zero] at hc ⊢
    have hdef : ldN σ room r 0 x ↔ rowN σ room 0 r x < 1000000 ∧ rowN σ room 0 r x = duN σ room r 0 := Iff.rfl
    generalize duN σ room r 0 = du at *
    by_cases c1 : rowN σ room 0 r x < 1000000
    · rw [m8_lt c1] at hc
      by_cases c2 : rowN σ room 0 r x = du
      · refine ⟨fun _ => ?_, fun h => absurd (hdef.mpr ⟨c1, c2⟩) h⟩
        simp (maxSteps := 3000000) (disch := omega) only [↓nx_q, zb0_s, zb1_s, zb2_s, zb3_s, zb4_s, zb5_s, zb6_s, zb7_s, zb8_s, zb9_s, zb10_s, zb11_s, zb12_s, zb13_s, zb14_s, q_lit, nI_add, pk_mul, e_cl, gi_in, gz_n0, gz_n1, e_gz, si_eq, si_ne, sa_eq, sa_ne, if_true, if_false, ↓reduceIte, k_ltT, k_ltF, k_leT, k_leF, k_eqT, k_eqF, k_m1lt, k_nm1, not_true_eq_false, not_false_eq_true, hc, h32, e_sub]
      · refine ⟨fun h => absurd (hdef.mp h).2 c2, fun _ => ?_⟩
        simp (maxSteps := 3000000) (disch := omega) only [↓nx_q, zb0_s, zb1_s, zb2_s, zb3_s, zb4_s, zb5_s, zb6_s, zb7_s, zb8_s, zb9_s, zb10_s, zb11_s, zb12_s, zb13_s, zb14_s, q_lit, nI_add, pk_mul, e_cl, gi_in, gz_n0, gz_n1, e_gz, si_eq, si_ne, sa_eq, sa_ne, if_true, if_false, ↓reduceIte, k_ltT, k_ltF, k_leT, k_leF, k_eqT, k_eqF, k_m1lt, k_nm1, not_true_eq_false, not_false_eq_true, hc, h32, e_sub]
    · rw [m8_ge c1] at hc
      refine ⟨fun h => absurd (hdef.mp h).1 c1, fun _ => ?_⟩
      simp (maxSteps := 3000000) (disch := omega) only [↓nx_q, zb0_s, zb1_s, zb2_s, zb3_s, zb4_s, zb5_s, zb6_s, zb7_s, zb8_s, zb9_s, zb10_s, zb11_s, zb12_s, zb13_s, zb14_s, q_lit, nI_add, pk_mul, e_cl, gi_in, gz_n0, gz_n1, e_gz, si_eq, si_ne, sa_eq, sa_ne, if_true, if_false, ↓reduceIte, k_ltT, k_ltF, k_leT, k_leF, k_eqT, k_eqF, k_m1lt, k_nm1, not_true_eq_false, not_false_eq_true, hc]
  | succ e =>
    have h29' := h29 e rfl
    have hcl := ch_lt (σ := σ) (room := room) (t := r) e
    have hro : f_X12_rentAt M (nI (r - 1 - e)) (nI (chN σ room r e)) = some (nI (srvN σ (r - 1 - e) (chN σ room r e))) := m_rentAt hM hW (by omega) (by omega)
    have hpo := m_priceOf (M := M) (s := andn (chN σ room r e) x) hM h8 (by have := andn_lt (b := x) hcl; omega)
    have hpl := prS_le h8 hwi (andn (chN σ room r e) x)
    have hsl := srv_le h8 hwi (hlog (r - 1 - e) (by omega)) (chN σ room r e)
    have e1 : r - 1 - (e + 1) + 1 = r - 1 - e := by omega
    rw [e1] at hc hm8
    have hdef : ldN σ room r (e + 1) x ↔ rowN σ room 0 (r - 1 - e) x < 1000000 ∧ rowN σ room 0 (r - 1 - e) x + prS σ (andn (chN σ room r e) x) + srvN σ (r - 1 - e) (chN σ room r e) = duN σ room r (e + 1) := Iff.rfl
    generalize duN σ room r (e + 1) = du at *
    by_cases c1 : rowN σ room 0 (r - 1 - e) x < 1000000
    · rw [m8_lt c1] at hc
      by_cases c2 : rowN σ room 0 (r - 1 - e) x + prS σ (andn (chN σ room r e) x) + srvN σ (r - 1 - e) (chN σ room r e) = du
      · refine ⟨fun _ => ?_, fun h => absurd (hdef.mpr ⟨c1, c2⟩) h⟩
        simp (maxSteps := 3000000) (disch := omega) only [↓nx_q, zb0_s, zb1_s, zb2_s, zb3_s, zb4_s, zb5_s, zb6_s, zb7_s, zb8_s, zb9_s, zb10_s, zb11_s, zb12_s, zb13_s, zb14_s, q_lit, nI_add, pk_mul, e_cl, gi_in, gz_n0, gz_n1, e_gz, si_eq, si_ne, sa_eq, sa_ne, if_true, if_false, ↓reduceIte, k_ltT, k_ltF, k_leT, k_leF, k_eqT, k_eqF, k_m1lt, k_nm1, not_true_eq_false, not_false_eq_true, hc, h32, e_sub, e1, h29', q_andn', hpo, hro]
      · refine ⟨fun h => absurd (hdef.mp h).2 c2, fun _ => ?_⟩
        simp (maxSteps := 3000000) (disch := omega) only [↓nx_q, zb0_s, zb1_s, zb2_s, zb3_s, zb4_s, zb5_s, zb6_s, zb7_s, zb8_s, zb9_s, zb10_s, zb11_s, zb12_s, zb13_s, zb14_s, q_lit, nI_add, pk_mul, e_cl, gi_in, gz_n0, gz_n1, e_gz, si_eq, si_ne, sa_eq, sa_ne, if_true, if_false, ↓reduceIte, k_ltT, k_ltF, k_leT, k_leF, k_eqT, k_eqF, k_m1lt, k_nm1, not_true_eq_false, not_false_eq_true, hc, h32, e_sub, e1, h29', q_andn', hpo, hro]
    · rw [m8_ge c1] at hc
      refine ⟨fun h => absurd (hdef.mp h).1 c1, fun _ => ?_⟩
      simp (maxSteps := 3000000) (disch := omega) only [↓nx_q, zb0_s, zb1_s, zb2_s, zb3_s, zb4_s, zb5_s, zb6_s, zb7_s, zb8_s, zb9_s, zb10_s, zb11_s, zb12_s, zb13_s, zb14_s, q_lit, nI_add, pk_mul, e_cl, gi_in, gz_n0, gz_n1, e_gz, si_eq, si_ne, sa_eq, sa_ne, if_true, if_false, ↓reduceIte, k_ltT, k_ltF, k_leT, k_leF, k_eqT, k_eqF, k_m1lt, k_nm1, not_true_eq_false, not_false_eq_true, hc]
def kd (r d : Nat) : Int32 := if d < r then nI (r - 1 - d) else -nI 1
theorem kd_s {r d : Nat} (hd : d < r) : nI (r - 1 - d) + -nI 1 = kd r (d + 1) := by
  unfold kd
  by_cases q : d + 1 < r
  · rw [if_pos q, show nI (r - 1 - d) + -nI 1 = nI (r - 1 - d) - nI 1 from (Int32.sub_eq_add_neg ..).symm, e_sub (by omega)]
    exact congrArg nI (by omega)
  · rw [if_neg q, show r - 1 - d = 0 by omega]
    decide
theorem m_goesBack {M : Ob} {σ : Nat → Nat} {room r : Nat} (hM : M 0 = rw σ) (hW : WF σ) (hr : r ≤ σ 7) (h1 : 0 < r) (hp : PR M σ room 0 r) (h32 : M 32 0 = nI r) : Ok (f_X12_goesBack M (nI (rowN σ room 0 r (lsN σ room (rowN σ room 0 r) (2 ^ σ 2))))) (fun M' => (∀ i, i < r → M' 29 i = nI (chA σ room r i)) ∧ ∀ j, j ≠ 29 → M' j = M j) := by
  have h8 := hW.1.1
  have h7 := hW.2.2.1
  have hN : 2 ^ σ 2 ≤ 256 := pw8 h8
  unfold f_X12_goesBack
  rw [h32, show (1 : Int32) = nI 1 from rfl, e_sub (by omega), nx_eq, ok_zb1]
  refine ok_mono (ok_zl3 (Q := fun M' => (∀ i, i < r → M' 29 i = nI (chA σ room r i)) ∧ ∀ j, j ≠ 29 → M' j = M j) (fun d o k27 k28 => k28 = kd r d ∧ k27 = nI (duN σ room r d) ∧ (∀ e, e < d → o 29 (r - 1 - e) = nI (chN σ room r e)) ∧ ∀ j, j ≠ 29 → o j = M j) r (fun d o k27 k28 hd hI => ?_) (fu_lt (by omega)) ⟨?_, rfl, fun e he => absurd he (Nat.not_lt_zero _), fun _ _ => rfl⟩) (fun y hy => ok_some.mpr hy)
  · obtain ⟨rfl, rfl, hch, hf⟩ := hI
    by_cases q : d = r
    · subst q
      rw [show kd d d = -nI 1 from if_neg (Nat.lt_irrefl _), if_pos (show (-nI 1 : Int32) < 0 by decide)]
      refine ⟨_, rfl, fun i hi => ?_, hf⟩
      have := hch (d - 1 - i) (by omega)
      rw [show d - 1 - (d - 1 - i) = i by omega] at this
      exact this
    · have hdr : d < r := by omega
      have hMo : o 0 = rw σ := by rw [hf 0 (by decide)]; exact hM
      have hpo : PR o σ room 0 r := by
        intro i s hi hs
        rw [hf 28 (by decide)]
        exact hp i s hi hs
      have h32o : o 32 0 = nI r := by rw [hf 32 (by decide)]; exact h32
      have hcl := ch_lt (σ := σ) (room := room) (t := r) d
      obtain ⟨hl1, hl2⟩ := ld_first (room := room) hW hr hdr
      have hfit : ∀ x, x < 2 ^ σ 2 → (ldN σ room r d x → f_X12_fits o (nI (r - 1 - d)) (nI x) (nI (duN σ room r d)) = some (nI 1)) ∧ (¬ ldN σ room r d x → f_X12_fits o (nI (r - 1 - d)) (nI x) (nI (duN σ room r d)) = some (nI 0)) := fun x hx => m_fits hMo hW hr hdr hpo h32o (fun e he => hch e (by omega)) hx
      have hcost : o 28 (256 * (r - 1 - d) + chN σ room r d) = nI (rowN σ room 0 (r - d) (chN σ room r d)) := by
        rw [hpo (r - 1 - d) _ (by omega) hcl, show r - 1 - d + 1 = r - d by omega, m8_lt (ch_ok hW hr d hdr)]
      rw [show kd r d = nI (r - 1 - d) from if_pos hdr, if_neg (nI_pos (by omega)), ok_zb1]
      refine ⟨nI (chN σ room r d), zl1_fo (fun x => nI x) (chN σ room r d) _ (fu_lt (by omega)) rfl (fun x hx => ?_) ?_, ?_⟩
      · have := (hfit x (by omega)).2 (hl2 x hx)
        simp (maxSteps := 3000000) (disch := omega) only [↓nx_q, zb0_s, zb1_s, zb2_s, zb3_s, zb4_s, zb5_s, zb6_s, zb7_s, zb8_s, zb9_s, zb10_s, zb11_s, zb12_s, zb13_s, zb14_s, q_lit, nI_add, pk_mul, e_cl, gi_in, gz_n0, gz_n1, e_gz, si_eq, si_ne, sa_eq, sa_ne, if_true, if_false, ↓reduceIte, k_ltT, k_ltF, k_leT, k_leF, k_eqT, k_eqF, k_m1lt, k_nm1, not_true_eq_false, not_false_eq_true, this]
      · have := (hfit _ hcl).1 hl1
        simp (maxSteps := 3000000) (disch := omega) only [↓nx_q, zb0_s, zb1_s, zb2_s, zb3_s, zb4_s, zb5_s, zb6_s, zb7_s, zb8_s, zb9_s, zb10_s, zb11_s, zb12_s, zb13_s, zb14_s, q_lit, nI_add, pk_mul, e_cl, gi_in, gz_n0, gz_n1, e_gz, si_eq, si_ne, sa_eq, sa_ne, if_true, if_false, ↓reduceIte, k_ltT, k_ltF, k_leT, k_leF, k_eqT, k_eqF, k_m1lt, k_nm1, not_true_eq_false, not_false_eq_true, this]
      · have hdu : duN σ room r (d + 1) = rowN σ room 0 (r - d) (chN σ room r d) := rfl
        simp (maxSteps := 3000000) (disch := omega) only [↓nx_q, zb0_s, zb1_s, zb2_s, zb3_s, zb4_s, zb5_s, zb6_s, zb7_s, zb8_s, zb9_s, zb10_s, zb11_s, zb12_s, zb13_s, zb14_s, q_lit, nI_add, pk_mul, e_cl, gi_in, gz_n0, gz_n1, e_gz, si_eq, si_ne, sa_eq, sa_ne, if_true, if_false, ↓reduceIte, k_ltT, k_ltF, k_leT, k_leF, k_eqT, k_eqF, k_m1lt, k_nm1, not_true_eq_false, not_false_eq_true, hcost, kd_s hdr]
        refine ⟨_, rfl, hdr, rfl, congrArg nI hdu.symm, fun e he => ?_, fun j hj => ?_⟩
        · by_cases ee : e = d
          · subst ee
            simp (disch := omega) only [si_eq, si_ne, sa_eq, sa_ne, upd_eq, upd_ne, updN_eq, updN_ne]
          · simp (disch := omega) only [si_eq, si_ne, sa_eq, sa_ne, upd_eq, upd_ne, updN_eq, updN_ne]
            exact hch e (by omega)
        · simp (disch := omega) only [si_eq, si_ne, sa_eq, sa_ne, upd_eq, upd_ne, updN_eq, updN_ne]
          exact hf j hj
  · rw [show kd r 0 = nI (r - 1 - 0) from if_pos h1]
    rfl
