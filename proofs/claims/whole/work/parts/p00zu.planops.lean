/-! ===== the planner: calls ===== -/
theorem Rel_plan {V : Nat → Ob} {PK PI : PV} {M M' p : Ob} {σ : Nat → Nat} {g : Nat} {fc fm : Bool} (hR : RelS V PK PI M σ g fc fm) (hp : RPlan p σ) (h0 : p 0 0 = nI 1) (hF : FrP M M') : Rel (vu V 14 p) PK PI M' := by
  obtain ⟨⟨hM0, hW, hRC⟩, hGC, hGM, hHi, hPl, a, b, c, d, e, f, gg⟩ := hR
  have hf : ∀ j, (j < 28 ∨ 34 ≤ j) → M' j = M j := fun j h => hF j (by omega) (by omega) (by omega) (by omega) (by omega) (by omega)
  refine ⟨σ, g, fc, fm, ⟨by rw [hf 0 (by omega)]; exact hM0, hW, ?_⟩, ?_, GM_fr hGM (hf 19 (by omega)) (hf 20 (by omega)) (hf 21 (by omega)), ?_, ?_, ?_, ?_, ?_, ?_, RImg_fr e (hf 1 (by omega)) (hf 4 (by omega)), ?_, ?_⟩
  · refine RC_un (V := vu V 14 p) hRC ?_ ?_ ?_ ?_ ?_ ?_ ?_ <;> simp (disch := omega) only [vu_ne] <;> rfl
  · rw [vu_ne (by decide)]; exact hGC
  · rw [vu_ne (by decide)]
    exact RHist_fr hHi (hf 2 (by omega)) (hf 5 (by omega))
  · rw [vu_eq]; exact hp
  · rw [vu_ne (by decide)]
    exact RTape_fr a (hf 6 (by omega)) (hf 7 (by omega))
  · rw [vu_ne (by decide), hf 13 (by omega)]; exact b
  · rw [vu_ne (by decide), hf 39 (by omega), hf 38 (by omega)]; exact c
  · rw [vu_ne (by decide), hf 42 (by omega), hf 41 (by omega)]; exact d
  · rw [vu_eq]; exact h0
  · rw [vu_ne (by decide)]; exact gg
theorem Rel_plan15 {V : Nat → Ob} {PK PI : PV} {M M' p : Ob} {σ : Nat → Nat} {g : Nat} {fc fm : Bool} (hR : RelS V PK PI M σ g fc fm) (h0 : p 0 0 = nI 0) (hF : FrP M M') : Rel (vu V 15 p) PK PI M' := by
  obtain ⟨⟨hM0, hW, hRC⟩, hGC, hGM, hHi, hPl, a, b, c, d, e, f, gg⟩ := hR
  have hf : ∀ j, (j < 28 ∨ 34 ≤ j) → M' j = M j := fun j h => hF j (by omega) (by omega) (by omega) (by omega) (by omega) (by omega)
  refine ⟨σ, g, fc, fm, ⟨by rw [hf 0 (by omega)]; exact hM0, hW, ?_⟩, ?_, GM_fr hGM (hf 19 (by omega)) (hf 20 (by omega)) (hf 21 (by omega)), ?_, ?_, ?_, ?_, ?_, ?_, RImg_fr e (hf 1 (by omega)) (hf 4 (by omega)), ?_, ?_⟩
  · refine RC_un (V := vu V 15 p) hRC ?_ ?_ ?_ ?_ ?_ ?_ ?_ <;> simp (disch := omega) only [vu_ne] <;> rfl
  · rw [vu_ne (by decide)]; exact hGC
  · rw [vu_ne (by decide)]
    exact RHist_fr hHi (hf 2 (by omega)) (hf 5 (by omega))
  · rw [vu_ne (by decide)]; exact hPl
  · rw [vu_ne (by decide)]
    exact RTape_fr a (hf 6 (by omega)) (hf 7 (by omega))
  · rw [vu_ne (by decide), hf 13 (by omega)]; exact b
  · rw [vu_ne (by decide), hf 39 (by omega), hf 38 (by omega)]; exact c
  · rw [vu_ne (by decide), hf 42 (by omega), hf 41 (by omega)]; exact d
  · rw [vu_ne (by decide)]; exact f
  · rw [vu_eq]; exact h0
def TrC (p : Ob) (σ : Nat → Nat) : Prop := p 8 0 = -nI 1 ∨ ∃ t, t ≤ σ 7 ∧ p 8 0 = nI t ∧ ∀ d, d < t → p 9 (t - 1 - d) = nI (chN σ (σ 0) t d)
theorem RPlan_of {p : Ob} {σ : Nat → Nat} (hF : FI true p σ (σ 0) 0 (σ 7)) (ht : TrC p σ) : RPlan p σ := Or.inr ⟨σ 7, Nat.le_refl _, hF.2.1, hF.1, fun n s hn hs hf => hF.2.2.2 n hn (Or.inl rfl) s hs hf, ht⟩
theorem follow_plan {p w s l : Ob} {σ : Nat → Nat} (hp : RPlan p σ) (h0 : p 0 0 = nI 1) (hw : RCw w σ) (hsh : s 1 0 = nI (σ 1)) (hl : RCl l σ) (hW : WF σ) : Ok (f_X5_follow 10496 p w s l (nI (σ 0)) (-1)) (fun p' => FI true p' σ (σ 0) 0 (σ 7) ∧ TrC p' σ) := by
  have hr := hW.1.2.2.1
  rcases hp with ⟨h7, h8⟩ | ⟨r, a, b, c, d, e⟩
  · refine ok_mono (c_follow (kp := true) (al := 0) (n0 := 0) hw hsh hl hW hr.2 (Or.inl ⟨rfl, rfl⟩) h0 (Or.inl h7)) (fun p' h => ⟨h.1, Or.inl (by rw [h.2.1]; exact h8)⟩)
  · have hne : p 7 0 ≠ -nI 1 := by
      rw [b]
      exact of_eq_false (k_nm1 (by have := hW.2.2.1; omega))
    refine ok_mono (c_follow (kp := true) (al := 0) (n0 := r) hw hsh hl hW hr.2 (Or.inl ⟨rfl, rfl⟩) h0 (Or.inr ⟨a, c, b, h0, fun m hm _ x hx hf => d m x hm hx hf⟩)) (fun p' h => ⟨h.1, ?_⟩)
    unfold TrC
    rw [h.2.1, h.2.2 hne]
    rcases e with e | ⟨t, x, y, z⟩
    · exact Or.inl e
    · exact Or.inr ⟨t, by omega, y, z⟩
theorem FI_le {kp : Bool} {p : Ob} {σ : Nat → Nat} {room al n : Nat} (hW : WF σ) (hn : n ≤ σ 7) : ∀ x, rowN σ room al n x ≤ 1000000 := fun x => by
  have h7 := hW.2.2.1
  rcases row_bd hW.1.1 hW.1.2.2.2.2.1 room al n (fun i h => (hW.2.2.2.2.2.2 i (by omega)).1) x with h | h <;> omega
/-- both: the least for the first m REQUESTS -/
theorem least_both {V : Nat → Ob} {PK PI : PV} {M : Ob} {σ : Nat → Nat} {g : Nat} {fc fm : Bool} (hR : RelS V PK PI M σ g fc fm) {m : Nat} (hm : m ≤ σ 7) (h1 : 0 < m) : ∃ (p M' : Ob) (v : Nat), v < 1000000 ∧ f_X11_leastPaid (V 4) (V 5) (V 6) (V 14) (nI m) = some (p, nI v) ∧ f_X12_plans M (nI m) (nI (σ 0)) (nI 0) = some (M', nI v) ∧ M' 0 = rw σ ∧ Rel (vu V 14 p) PK PI M' := by
  have hR0 := hR
  obtain ⟨⟨hM0, hW, hRC⟩, hGC, hGM, hHi, hPl, hO⟩ := hR0
  have h7 := hW.2.2.1
  have hr := hW.1.2.2.1
  have s0 : V 5 0 0 = nI (σ 0) := hRC.2.2.1.1
  obtain ⟨p, ep, hF, hT⟩ := follow_plan hPl hO.2.2.2.2.2.1 hRC.2.1 hRC.2.2.1.2.1 hRC.2.2.2.1 hW
  have hls := c_least (kp := true) (n := m) hF.1 hW.1.1 hF.2.2.1 (by omega) (hF.2.2.2 m hm (Or.inl rfl)) (FI_le (kp := true) (p := p) hW hm)
  obtain ⟨y, ey, y1, y2, y3, y4⟩ := m_plans (many := m) (room := σ 0) (al := 0) hM0 hW hm hr.2 (by decide)
  obtain ⟨M', r⟩ := y
  dsimp only at y1 y2 y3 y4
  have hfin := best_fin (room := σ 0) hW hm
  rw [if_neg (by omega), m8_lt hfin] at y4
  subst y4
  have ep' : f_X5_follow 10496 (V 14) (V 4) (V 5) (V 6) (nI (σ 0)) (-1) = some p := ep
  refine ⟨p, M', _, hfin, ?_, ey, ?_, Rel_plan hR (RPlan_of hF hT) hF.2.2.1 y3⟩
  · unfold f_X11_leastPaid
    rw [s0, zb1_of ep', zb1_of (show f_X5_least 10496 p (nI m) = _ from hls)]
  · rw [y3 0 (by decide) (by decide) (by decide) (by decide) (by decide) (by decide)]
    exact hM0
theorem R_best : St_best Rel := by
  intro V PK PI M hR
  obtain ⟨σ, g, fc, fm, hR⟩ := hR
  have hR0 := hR
  obtain ⟨⟨hM0, hW, hRC⟩, hGC, hGM, hHi, hPl, hO⟩ := hR0
  have h7 := hW.2.2.1
  have l0 : V 6 0 0 = nI (σ 7) := hRC.2.2.2.1.1
  by_cases q : σ 7 = 0
  · refine ⟨V, PK, PI, M, -1, ?_, ?_, σ, g, fc, fm, hR⟩
    · unfold g_best f_X11_best
      simp (maxSteps := 3000000) (disch := omega) only [↓nx_q, zb0_s, zb1_s, zb2_s, zb3_s, zb4_s, zb5_s, zb6_s, zb7_s, zb8_s, zb9_s, zb10_s, zb11_s, zb12_s, zb13_s, zb14_s, q_lit, nI_add, pk_mul, e_cl, gi_in, gz_n0, gz_n1, e_gz, si_eq, si_ne, sa_eq, sa_ne, if_true, if_false, ↓reduceIte, k_ltT, k_ltF, k_leT, k_leF, k_eqT, k_eqF, k_m1lt, k_nm1, not_true_eq_false, not_false_eq_true, l0, q, vu_self]
    · unfold h_best f_X12_best
      simp (maxSteps := 3000000) (disch := omega) only [↓nx_q, zb0_s, zb1_s, zb2_s, zb3_s, zb4_s, zb5_s, zb6_s, zb7_s, zb8_s, zb9_s, zb10_s, zb11_s, zb12_s, zb13_s, zb14_s, q_lit, nI_add, pk_mul, e_cl, gi_in, gz_n0, gz_n1, e_gz, si_eq, si_ne, sa_eq, sa_ne, if_true, if_false, ↓reduceIte, k_ltT, k_ltF, k_leT, k_leF, k_eqT, k_eqF, k_m1lt, k_nm1, not_true_eq_false, not_false_eq_true, hM0, rw_ap, upd_rw, sa_sa, jn_l, jn_r, jn_4, jn_5, jn_6, jn_ul, jn_ur, jn_u4, jn_u5, jn_u6, q]
  · obtain ⟨p, M', v, hv, e1, e2, -, hRel⟩ := least_both hR (Nat.le_refl _) (by omega)
    refine ⟨_, PK, PI, M', nI v, ?_, ?_, hRel⟩
    · unfold g_best f_X11_best
      simp (maxSteps := 3000000) (disch := omega) only [↓nx_q, zb0_s, zb1_s, zb2_s, zb3_s, zb4_s, zb5_s, zb6_s, zb7_s, zb8_s, zb9_s, zb10_s, zb11_s, zb12_s, zb13_s, zb14_s, q_lit, nI_add, pk_mul, e_cl, gi_in, gz_n0, gz_n1, e_gz, si_eq, si_ne, sa_eq, sa_ne, if_true, if_false, ↓reduceIte, k_ltT, k_ltF, k_leT, k_leF, k_eqT, k_eqF, k_m1lt, k_nm1, not_true_eq_false, not_false_eq_true, l0, e1]
    · unfold h_best f_X12_best
      simp (maxSteps := 3000000) (disch := omega) only [↓nx_q, zb0_s, zb1_s, zb2_s, zb3_s, zb4_s, zb5_s, zb6_s, zb7_s, zb8_s, zb9_s, zb10_s, zb11_s, zb12_s, zb13_s, zb14_s, q_lit, nI_add, pk_mul, e_cl, gi_in, gz_n0, gz_n1, e_gz, si_eq, si_ne, sa_eq, sa_ne, if_true, if_false, ↓reduceIte, k_ltT, k_ltF, k_leT, k_leF, k_eqT, k_eqF, k_m1lt, k_nm1, not_true_eq_false, not_false_eq_true, hM0, rw_ap, upd_rw, sa_sa, jn_l, jn_r, jn_4, jn_5, jn_6, jn_ul, jn_ur, jn_u4, jn_u5, jn_u6, e2]
theorem R_upTo : St_upTo Rel := by
  intro V PK PI M v1 hR
  obtain ⟨σ, g, fc, fm, hR⟩ := hR
  have hR0 := hR
  obtain ⟨⟨hM0, hW, hRC⟩, hGC, hGM, hHi, hPl, hO⟩ := hR0
  have h7 := hW.2.2.1
  have l0 : V 6 0 0 = nI (σ 7) := hRC.2.2.2.1.1
  have hs : MR (M 0) σ := fun j _ => by rw [hM0]; rfl
  rcases q_rng v1 (n := σ 7) (by omega) with ⟨k, hk, rfl⟩ | ho
  · have c := c_lhasIn l0 (by omega) hk
    have m := m_isLoggedIn hs (by omega) hk
    obtain ⟨p, M', v, hv, e1, e2, -, hRel⟩ := least_both hR (m := k + 1) (by omega) (by omega)
    refine ⟨_, PK, PI, M', nI v, ?_, ?_, hRel⟩
    · unfold g_upTo f_X11_upTo
      simp (maxSteps := 3000000) (disch := omega) only [↓nx_q, zb0_s, zb1_s, zb2_s, zb3_s, zb4_s, zb5_s, zb6_s, zb7_s, zb8_s, zb9_s, zb10_s, zb11_s, zb12_s, zb13_s, zb14_s, q_lit, nI_add, pk_mul, e_cl, gi_in, gz_n0, gz_n1, e_gz, si_eq, si_ne, sa_eq, sa_ne, if_true, if_false, ↓reduceIte, k_ltT, k_ltF, k_leT, k_leF, k_eqT, k_eqF, k_m1lt, k_nm1, not_true_eq_false, not_false_eq_true, c, e1]
    · unfold h_upTo f_X12_upTo
      simp (maxSteps := 3000000) (disch := omega) only [↓nx_q, zb0_s, zb1_s, zb2_s, zb3_s, zb4_s, zb5_s, zb6_s, zb7_s, zb8_s, zb9_s, zb10_s, zb11_s, zb12_s, zb13_s, zb14_s, q_lit, nI_add, pk_mul, e_cl, gi_in, gz_n0, gz_n1, e_gz, si_eq, si_ne, sa_eq, sa_ne, if_true, if_false, ↓reduceIte, k_ltT, k_ltF, k_leT, k_leF, k_eqT, k_eqF, k_m1lt, k_nm1, not_true_eq_false, not_false_eq_true, m, hM0, rw_ap, upd_rw, sa_sa, jn_l, jn_r, jn_4, jn_5, jn_6, jn_ul, jn_ur, jn_u4, jn_u5, jn_u6, e2]
  · have c := c_lhasOut l0 ho
    have m := m_isLoggedOut hs (by omega) ho
    refine ⟨V, PK, PI, M, -1, ?_, ?_, σ, g, fc, fm, hR⟩
    · unfold g_upTo f_X11_upTo
      simp (maxSteps := 3000000) (disch := omega) only [↓nx_q, zb0_s, zb1_s, zb2_s, zb3_s, zb4_s, zb5_s, zb6_s, zb7_s, zb8_s, zb9_s, zb10_s, zb11_s, zb12_s, zb13_s, zb14_s, q_lit, nI_add, pk_mul, e_cl, gi_in, gz_n0, gz_n1, e_gz, si_eq, si_ne, sa_eq, sa_ne, if_true, if_false, ↓reduceIte, k_ltT, k_ltF, k_leT, k_leF, k_eqT, k_eqF, k_m1lt, k_nm1, not_true_eq_false, not_false_eq_true, c, vu_self]
    · unfold h_upTo f_X12_upTo
      simp (maxSteps := 3000000) (disch := omega) only [↓nx_q, zb0_s, zb1_s, zb2_s, zb3_s, zb4_s, zb5_s, zb6_s, zb7_s, zb8_s, zb9_s, zb10_s, zb11_s, zb12_s, zb13_s, zb14_s, q_lit, nI_add, pk_mul, e_cl, gi_in, gz_n0, gz_n1, e_gz, si_eq, si_ne, sa_eq, sa_ne, if_true, if_false, ↓reduceIte, k_ltT, k_ltF, k_leT, k_leF, k_eqT, k_eqF, k_m1lt, k_nm1, not_true_eq_false, not_false_eq_true, m]
/-- both: the least in another ROOM, or with an ITEM -/
theorem trial_least {V : Nat → Ob} {PK PI : PV} {M : Ob} {σ : Nat → Nat} {g : Nat} {fc fm : Bool} (hR : RelS V PK PI M σ g fc fm) {room al : Nat} {v3 : Int32} (hr : room ≤ 20) (ha : (v3 = -1 ∧ al = 0) ∨ (∃ k, k < 8 ∧ v3 = nI k ∧ al = 2 ^ k)) : ∃ (p M' : Ob) (v : Nat), v ≤ 1000000 ∧ f_X11_trialLeast (V 4) (V 5) (V 6) (V 15) (nI room) v3 = some (p, nI v) ∧ f_X12_plans M (nI (σ 7)) (nI room) (nI al) = some (M', nI (m8 v)) ∧ (al = 0 → v < 1000000) ∧ Rel (vu V 15 p) PK PI M' := by
  have hR0 := hR
  obtain ⟨⟨hM0, hW, hRC⟩, hGC, hGM, hHi, hPl, hO⟩ := hR0
  have h7 := hW.2.2.1
  have l0 : V 6 0 0 = nI (σ 7) := hRC.2.2.2.1.1
  have hal : al < 256 := by
    rcases ha with h | ⟨k, hk, _, h⟩
    · omega
    · rw [h]; exact Nat.lt_of_lt_of_le (pw_lt hk) (pw8 (Nat.le_refl 8))
  have hfo := @RPlan_forget (V 15) σ
  have h15 : V 15 0 0 = nI 0 := hO.2.2.2.2.2.2
  obtain ⟨p, ep, hF, -⟩ := c_follow (kp := false) (p := si (si (V 15) 7 (-nI 1)) 8 (-nI 1)) (room := room) (al := al) (n0 := 0) hRC.2.1 hRC.2.2.1.2.1 hRC.2.2.2.1 hW hr ha (by rw [hfo.2.2]; exact h15) (Or.inl (by simp (disch := omega) only [si_eq, si_ne, sa_eq, sa_ne, upd_eq, upd_ne, updN_eq, updN_ne]))
  have hle := FI_le (kp := false) (p := p) (room := room) (al := al) hW (Nat.le_refl (σ 7))
  have hls := c_least (kp := false) (n := σ 7) hF.1 hW.1.1 hF.2.2.1 h7 (hF.2.2.2 (σ 7) (Nat.le_refl _) (Or.inr rfl)) hle
  obtain ⟨y, ey, y1, y2, y3, y4⟩ := m_plans (many := σ 7) (room := room) (al := al) hM0 hW (Nat.le_refl _) hr hal
  obtain ⟨M', r⟩ := y
  dsimp only at y1 y2 y3 y4
  have hz : (if σ 7 = 0 then 0 else m8 (rowN σ room al (σ 7) (lsN σ room (rowN σ room al (σ 7)) (2 ^ σ 2)))) = m8 (rowN σ room al (σ 7) (lsN σ room (rowN σ room al (σ 7)) (2 ^ σ 2))) := by
    by_cases q : σ 7 = 0
    · rw [if_pos q]
      have h0 : rowN σ room al (σ 7) (lsN σ room (rowN σ room al (σ 7)) (2 ^ σ 2)) = 0 := by
        have hz : sumB (szN σ) 0 (σ 2) ≤ room := by rw [sumB_0]; exact Nat.zero_le _
        have := (ls_spec (σ := σ) (room := room) (C := rowN σ room al (σ 7)) (2 ^ σ 2)).2.1 0 (Nat.two_pow_pos _) hz
        rw [q] at this ⊢
        have h00 : rowN σ room al 0 0 = 0 := rfl
        omega
      rw [h0]
      rfl
    · rw [if_neg q]
  rw [hz] at y4
  subst y4
  have ep' : f_X5_follow 512 (si (si (V 15) 7 (-nI 1)) 8 (-nI 1)) (V 4) (V 5) (V 6) (nI room) v3 = some p := ep
  refine ⟨p, M', _, hle _, ?_, ey, fun h => ?_, Rel_plan15 hR hF.2.2.1 y3⟩
  · unfold f_X11_trialLeast
    rw [zb1_of hfo.1, zb1_of ep', l0, zb1_of (show f_X5_least 512 p (nI (σ 7)) = _ from hls)]
  · subst h
    exact best_fin hW (Nat.le_refl _)
theorem R_bestWith : St_bestWith Rel := by
  intro V PK PI M v1 hR
  obtain ⟨σ, g, fc, fm, hR⟩ := hR
  have hR0 := hR
  obtain ⟨⟨hM0, hW, hRC⟩, hGC, hGM, hHi, hPl, hO⟩ := hR0
  have h8 := hW.1.1
  have h7 := hW.2.2.1
  have hr := hW.1.2.2.1
  have w0 : V 4 0 0 = nI (σ 2) := hRC.2.1.1
  have s0 : V 5 0 0 = nI (σ 0) := hRC.2.2.1.1
  have l0 : V 6 0 0 = nI (σ 7) := hRC.2.2.2.1.1
  have hs : MR (M 0) σ := fun j _ => by rw [hM0]; rfl
  rcases q_rng v1 (n := σ 2) (by omega) with ⟨k, hk, rfl⟩ | ho
  · have e1 := c_hasIn w0 (by omega) hk
    have e2 := m_isItemIn hs (by omega) hk
    by_cases q : σ 7 = 0
    · refine ⟨V, PK, PI, M, -1, ?_, ?_, σ, g, fc, fm, hR⟩
      · unfold g_bestWith f_X11_bestWith
        simp (maxSteps := 3000000) (disch := omega) only [↓nx_q, zb0_s, zb1_s, zb2_s, zb3_s, zb4_s, zb5_s, zb6_s, zb7_s, zb8_s, zb9_s, zb10_s, zb11_s, zb12_s, zb13_s, zb14_s, q_lit, nI_add, pk_mul, e_cl, gi_in, gz_n0, gz_n1, e_gz, si_eq, si_ne, sa_eq, sa_ne, if_true, if_false, ↓reduceIte, k_ltT, k_ltF, k_leT, k_leF, k_eqT, k_eqF, k_m1lt, k_nm1, not_true_eq_false, not_false_eq_true, e1, l0, q, vu_self]
      · unfold h_bestWith f_X12_bestWith
        simp (maxSteps := 3000000) (disch := omega) only [↓nx_q, zb0_s, zb1_s, zb2_s, zb3_s, zb4_s, zb5_s, zb6_s, zb7_s, zb8_s, zb9_s, zb10_s, zb11_s, zb12_s, zb13_s, zb14_s, q_lit, nI_add, pk_mul, e_cl, gi_in, gz_n0, gz_n1, e_gz, si_eq, si_ne, sa_eq, sa_ne, if_true, if_false, ↓reduceIte, k_ltT, k_ltF, k_leT, k_leF, k_eqT, k_eqF, k_m1lt, k_nm1, not_true_eq_false, not_false_eq_true, e2, hM0, rw_ap, upd_rw, sa_sa, jn_l, jn_r, jn_4, jn_5, jn_6, jn_ul, jn_ur, jn_u4, jn_u5, jn_u6, q]
    · obtain ⟨p, M', v, hv, ec, em, -, hRel⟩ := trial_least hR (room := σ 0) (al := 2 ^ k) (v3 := nI k) hr.2 (Or.inr ⟨k, by omega, rfl, rfl⟩)
      by_cases z : v < 1000000
      · rw [m8_lt z] at em
        refine ⟨_, PK, PI, M', nI v, ?_, ?_, hRel⟩
        · unfold g_bestWith f_X11_bestWith
          simp (maxSteps := 3000000) (disch := omega) only [↓nx_q, zb0_s, zb1_s, zb2_s, zb3_s, zb4_s, zb5_s, zb6_s, zb7_s, zb8_s, zb9_s, zb10_s, zb11_s, zb12_s, zb13_s, zb14_s, q_lit, nI_add, pk_mul, e_cl, gi_in, gz_n0, gz_n1, e_gz, si_eq, si_ne, sa_eq, sa_ne, if_true, if_false, ↓reduceIte, k_ltT, k_ltF, k_leT, k_leF, k_eqT, k_eqF, k_m1lt, k_nm1, not_true_eq_false, not_false_eq_true, e1, l0, s0, ec]
        · unfold h_bestWith f_X12_bestWith
          simp (maxSteps := 3000000) (disch := omega) only [↓nx_q, zb0_s, zb1_s, zb2_s, zb3_s, zb4_s, zb5_s, zb6_s, zb7_s, zb8_s, zb9_s, zb10_s, zb11_s, zb12_s, zb13_s, zb14_s, q_lit, nI_add, pk_mul, e_cl, gi_in, gz_n0, gz_n1, e_gz, si_eq, si_ne, sa_eq, sa_ne, if_true, if_false, ↓reduceIte, k_ltT, k_ltF, k_leT, k_leF, k_eqT, k_eqF, k_m1lt, k_nm1, not_true_eq_false, not_false_eq_true, e2, hM0, rw_ap, upd_rw, sa_sa, jn_l, jn_r, jn_4, jn_5, jn_6, jn_ul, jn_ur, jn_u4, jn_u5, jn_u6, e_shl1, em]
      · rw [m8_ge z] at em
        refine ⟨_, PK, PI, M', -1, ?_, ?_, hRel⟩
        · unfold g_bestWith f_X11_bestWith
          simp (maxSteps := 3000000) (disch := omega) only [↓nx_q, zb0_s, zb1_s, zb2_s, zb3_s, zb4_s, zb5_s, zb6_s, zb7_s, zb8_s, zb9_s, zb10_s, zb11_s, zb12_s, zb13_s, zb14_s, q_lit, nI_add, pk_mul, e_cl, gi_in, gz_n0, gz_n1, e_gz, si_eq, si_ne, sa_eq, sa_ne, if_true, if_false, ↓reduceIte, k_ltT, k_ltF, k_leT, k_leF, k_eqT, k_eqF, k_m1lt, k_nm1, not_true_eq_false, not_false_eq_true, e1, l0, s0, ec]
        · unfold h_bestWith f_X12_bestWith
          simp (maxSteps := 3000000) (disch := omega) only [↓nx_q, zb0_s, zb1_s, zb2_s, zb3_s, zb4_s, zb5_s, zb6_s, zb7_s, zb8_s, zb9_s, zb10_s, zb11_s, zb12_s, zb13_s, zb14_s, q_lit, nI_add, pk_mul, e_cl, gi_in, gz_n0, gz_n1, e_gz, si_eq, si_ne, sa_eq, sa_ne, if_true, if_false, ↓reduceIte, k_ltT, k_ltF, k_leT, k_leF, k_eqT, k_eqF, k_m1lt, k_nm1, not_true_eq_false, not_false_eq_true, e2, hM0, rw_ap, upd_rw, sa_sa, jn_l, jn_r, jn_4, jn_5, jn_6, jn_ul, jn_ur, jn_u4, jn_u5, jn_u6, e_shl1, em]
  · have e1 := c_hasOut w0 ho
    have e2 := m_isItemOut hs (by omega) ho
    refine ⟨V, PK, PI, M, -1, ?_, ?_, σ, g, fc, fm, hR⟩
    · unfold g_bestWith f_X11_bestWith
      simp (maxSteps := 3000000) (disch := omega) only [↓nx_q, zb0_s, zb1_s, zb2_s, zb3_s, zb4_s, zb5_s, zb6_s, zb7_s, zb8_s, zb9_s, zb10_s, zb11_s, zb12_s, zb13_s, zb14_s, q_lit, nI_add, pk_mul, e_cl, gi_in, gz_n0, gz_n1, e_gz, si_eq, si_ne, sa_eq, sa_ne, if_true, if_false, ↓reduceIte, k_ltT, k_ltF, k_leT, k_leF, k_eqT, k_eqF, k_m1lt, k_nm1, not_true_eq_false, not_false_eq_true, e1, vu_self]
    · unfold h_bestWith f_X12_bestWith
      simp (maxSteps := 3000000) (disch := omega) only [↓nx_q, zb0_s, zb1_s, zb2_s, zb3_s, zb4_s, zb5_s, zb6_s, zb7_s, zb8_s, zb9_s, zb10_s, zb11_s, zb12_s, zb13_s, zb14_s, q_lit, nI_add, pk_mul, e_cl, gi_in, gz_n0, gz_n1, e_gz, si_eq, si_ne, sa_eq, sa_ne, if_true, if_false, ↓reduceIte, k_ltT, k_ltF, k_leT, k_leF, k_eqT, k_eqF, k_m1lt, k_nm1, not_true_eq_false, not_false_eq_true, e2]
theorem R_curve : St_curve Rel := by
  intro V PK PI M v1 v2 hR
  obtain ⟨σ, g, fc, fm, hR⟩ := hR
  have hR0 := hR
  obtain ⟨⟨hM0, hW, hRC⟩, hGC, hGM, hHi, hPl, hO⟩ := hR0
  have s1 : V 5 1 0 = nI (σ 1) := hRC.2.2.1.2.1
  have h7 := hW.2.2.1
  have same : f_X11_curve (V 4) (V 5) (V 6) (V 12) (V 13) (V 15) v1 v2 = some (V 12, V 13, V 15, -1) → f_X12_curve M v1 v2 = some (M, -1) → ∃ (V' : Nat → Ob) (PK' PI' : PV) (M' : Ob) (r : Int32), g_curve V PK PI v1 v2 = some (V', PK', PI', r) ∧ h_curve M v1 v2 = some (M', r) ∧ Rel V' PK' PI' M' := by
    intro e1 e2
    refine ⟨V, PK, PI, M, -1, ?_, ?_, σ, g, fc, fm, hR⟩
    · unfold g_curve
      rw [zb4_of e1]
      simp only [vu_self]
    · unfold h_curve
      rw [zb2_of e2]
  rcases q_rng v1 (n := 21) (by decide) with ⟨n, hn, rfl⟩ | ho
  · have e1 := m_isInN (a := 1) (b := 20) (k := n) (by omega) (by decide) (by decide)
    by_cases q0 : n = 0
    · subst q0
      rw [if_neg (by omega)] at e1
      refine same ?_ ?_
      · unfold f_X11_curve
        simp (maxSteps := 3000000) (disch := omega) only [↓nx_q, zb0_s, zb1_s, zb2_s, zb3_s, zb4_s, zb5_s, zb6_s, zb7_s, zb8_s, zb9_s, zb10_s, zb11_s, zb12_s, zb13_s, zb14_s, q_lit, nI_add, pk_mul, e_cl, gi_in, gz_n0, gz_n1, e_gz, si_eq, si_ne, sa_eq, sa_ne, if_true, if_false, ↓reduceIte, k_ltT, k_ltF, k_leT, k_leF, k_eqT, k_eqF, k_m1lt, k_nm1, not_true_eq_false, not_false_eq_true]
      · unfold f_X12_curve
        simp (maxSteps := 3000000) (disch := omega) only [↓nx_q, zb0_s, zb1_s, zb2_s, zb3_s, zb4_s, zb5_s, zb6_s, zb7_s, zb8_s, zb9_s, zb10_s, zb11_s, zb12_s, zb13_s, zb14_s, q_lit, nI_add, pk_mul, e_cl, gi_in, gz_n0, gz_n1, e_gz, si_eq, si_ne, sa_eq, sa_ne, if_true, if_false, ↓reduceIte, k_ltT, k_ltF, k_leT, k_leF, k_eqT, k_eqF, k_m1lt, k_nm1, not_true_eq_false, not_false_eq_true, e1]
    · rw [if_pos (by omega)] at e1
      rcases q_rng v2 (n := 2) (by decide) with ⟨w, hw, rfl⟩ | ho2
      · have e2 := m_in01 hw
        by_cases q : w = 0
        · subst q
          obtain ⟨o12, o13, M3, v, ec, em, hRel⟩ := cost_both (room := n) (rule := σ 1) hR (by omega) hW.2.1
          refine ⟨vu (vu (vu V 12 o12) 13 o13) 15 (V 15), PK, PI, M3, nI v, ?_, ?_, ?_⟩
          · unfold g_curve f_X11_curve
            simp (maxSteps := 3000000) (disch := omega) only [↓nx_q, zb0_s, zb1_s, zb2_s, zb3_s, zb4_s, zb5_s, zb6_s, zb7_s, zb8_s, zb9_s, zb10_s, zb11_s, zb12_s, zb13_s, zb14_s, q_lit, nI_add, pk_mul, e_cl, gi_in, gz_n0, gz_n1, e_gz, si_eq, si_ne, sa_eq, sa_ne, if_true, if_false, ↓reduceIte, k_ltT, k_ltF, k_leT, k_leF, k_eqT, k_eqF, k_m1lt, k_nm1, not_true_eq_false, not_false_eq_true, s1, ec]
          · unfold h_curve f_X12_curve
            simp (maxSteps := 3000000) (disch := omega) only [↓nx_q, zb0_s, zb1_s, zb2_s, zb3_s, zb4_s, zb5_s, zb6_s, zb7_s, zb8_s, zb9_s, zb10_s, zb11_s, zb12_s, zb13_s, zb14_s, q_lit, nI_add, pk_mul, e_cl, gi_in, gz_n0, gz_n1, e_gz, si_eq, si_ne, sa_eq, sa_ne, if_true, if_false, ↓reduceIte, k_ltT, k_ltF, k_leT, k_leF, k_eqT, k_eqF, k_m1lt, k_nm1, not_true_eq_false, not_false_eq_true, e1, e2, hM0, rw_ap, upd_rw, sa_sa, jn_l, jn_r, jn_4, jn_5, jn_6, jn_ul, jn_ur, jn_u4, jn_u5, jn_u6, em]
          · have : vu (vu (vu V 12 o12) 13 o13) 15 (V 15) = vu (vu V 12 o12) 13 o13 := by
              have h := vu_self (vu (vu V 12 o12) 13 o13) 15
              rw [vu_ne (by decide), vu_ne (by decide)] at h
              exact h
            rw [this]
            exact hRel
        · have : w = 1 := by omega
          subst this
          obtain ⟨p, M', v, hv, ec, em, hf, hRel⟩ := trial_least hR (room := n) (al := 0) (v3 := -1) (by omega) (Or.inl ⟨rfl, rfl⟩)
          rw [m8_lt (hf rfl)] at em
          have ec' : f_X11_trialLeast (V 4) (V 5) (V 6) (V 15) (nI n) (-nI 1) = some (p, nI v) := ec
          refine ⟨vu (vu (vu V 12 (V 12)) 13 (V 13)) 15 p, PK, PI, M', nI v, ?_, ?_, ?_⟩
          · unfold g_curve f_X11_curve
            simp (maxSteps := 3000000) (disch := omega) only [↓nx_q, zb0_s, zb1_s, zb2_s, zb3_s, zb4_s, zb5_s, zb6_s, zb7_s, zb8_s, zb9_s, zb10_s, zb11_s, zb12_s, zb13_s, zb14_s, q_lit, nI_add, pk_mul, e_cl, gi_in, gz_n0, gz_n1, e_gz, si_eq, si_ne, sa_eq, sa_ne, if_true, if_false, ↓reduceIte, k_ltT, k_ltF, k_leT, k_leF, k_eqT, k_eqF, k_m1lt, k_nm1, not_true_eq_false, not_false_eq_true, ec']
          · unfold h_curve f_X12_curve
            simp (maxSteps := 3000000) (disch := omega) only [↓nx_q, zb0_s, zb1_s, zb2_s, zb3_s, zb4_s, zb5_s, zb6_s, zb7_s, zb8_s, zb9_s, zb10_s, zb11_s, zb12_s, zb13_s, zb14_s, q_lit, nI_add, pk_mul, e_cl, gi_in, gz_n0, gz_n1, e_gz, si_eq, si_ne, sa_eq, sa_ne, if_true, if_false, ↓reduceIte, k_ltT, k_ltF, k_leT, k_leF, k_eqT, k_eqF, k_m1lt, k_nm1, not_true_eq_false, not_false_eq_true, e1, e2, hM0, rw_ap, upd_rw, sa_sa, jn_l, jn_r, jn_4, jn_5, jn_6, jn_ul, jn_ur, jn_u4, jn_u5, jn_u6, em]
          · rw [vu_self, vu_self]
            exact hRel
      · have e2 := m_out01 ho2
        refine same ?_ ?_
        · unfold f_X11_curve
          rcases ho2 with h | h
          · simp (maxSteps := 3000000) (disch := omega) only [↓nx_q, zb0_s, zb1_s, zb2_s, zb3_s, zb4_s, zb5_s, zb6_s, zb7_s, zb8_s, zb9_s, zb10_s, zb11_s, zb12_s, zb13_s, zb14_s, q_lit, nI_add, pk_mul, e_cl, gi_in, gz_n0, gz_n1, e_gz, si_eq, si_ne, sa_eq, sa_ne, if_true, if_false, ↓reduceIte, k_ltT, k_ltF, k_leT, k_leF, k_eqT, k_eqF, k_m1lt, k_nm1, not_true_eq_false, not_false_eq_true, o_neg h]
          · have := o_big2 (b := 1) (by decide) h
            simp (maxSteps := 3000000) (disch := omega) only [↓nx_q, zb0_s, zb1_s, zb2_s, zb3_s, zb4_s, zb5_s, zb6_s, zb7_s, zb8_s, zb9_s, zb10_s, zb11_s, zb12_s, zb13_s, zb14_s, q_lit, nI_add, pk_mul, e_cl, gi_in, gz_n0, gz_n1, e_gz, si_eq, si_ne, sa_eq, sa_ne, if_true, if_false, ↓reduceIte, k_ltT, k_ltF, k_leT, k_leF, k_eqT, k_eqF, k_m1lt, k_nm1, not_true_eq_false, not_false_eq_true, this.2.2.1, this.2.2.2]
        · unfold f_X12_curve
          simp (maxSteps := 3000000) (disch := omega) only [↓nx_q, zb0_s, zb1_s, zb2_s, zb3_s, zb4_s, zb5_s, zb6_s, zb7_s, zb8_s, zb9_s, zb10_s, zb11_s, zb12_s, zb13_s, zb14_s, q_lit, nI_add, pk_mul, e_cl, gi_in, gz_n0, gz_n1, e_gz, si_eq, si_ne, sa_eq, sa_ne, if_true, if_false, ↓reduceIte, k_ltT, k_ltF, k_leT, k_leF, k_eqT, k_eqF, k_m1lt, k_nm1, not_true_eq_false, not_false_eq_true, e1, e2]
  · have e1 := m_isInO (a := 1) (b := 20) (by decide) ho (by decide)
    refine same ?_ ?_
    · unfold f_X11_curve
      rcases ho with h | h
      · simp (maxSteps := 3000000) (disch := omega) only [↓nx_q, zb0_s, zb1_s, zb2_s, zb3_s, zb4_s, zb5_s, zb6_s, zb7_s, zb8_s, zb9_s, zb10_s, zb11_s, zb12_s, zb13_s, zb14_s, q_lit, nI_add, pk_mul, e_cl, gi_in, gz_n0, gz_n1, e_gz, si_eq, si_ne, sa_eq, sa_ne, if_true, if_false, ↓reduceIte, k_ltT, k_ltF, k_leT, k_leF, k_eqT, k_eqF, k_m1lt, k_nm1, not_true_eq_false, not_false_eq_true, (o_neg2 h).1]
      · have := o_big2 (b := 20) (by decide) h
        simp (maxSteps := 3000000) (disch := omega) only [↓nx_q, zb0_s, zb1_s, zb2_s, zb3_s, zb4_s, zb5_s, zb6_s, zb7_s, zb8_s, zb9_s, zb10_s, zb11_s, zb12_s, zb13_s, zb14_s, q_lit, nI_add, pk_mul, e_cl, gi_in, gz_n0, gz_n1, e_gz, si_eq, si_ne, sa_eq, sa_ne, if_true, if_false, ↓reduceIte, k_ltT, k_ltF, k_leT, k_leF, k_eqT, k_eqF, k_m1lt, k_nm1, not_true_eq_false, not_false_eq_true, this.1, this.2.1]
    · unfold f_X12_curve
      simp (maxSteps := 3000000) (disch := omega) only [↓nx_q, zb0_s, zb1_s, zb2_s, zb3_s, zb4_s, zb5_s, zb6_s, zb7_s, zb8_s, zb9_s, zb10_s, zb11_s, zb12_s, zb13_s, zb14_s, q_lit, nI_add, pk_mul, e_cl, gi_in, gz_n0, gz_n1, e_gz, si_eq, si_ne, sa_eq, sa_ne, if_true, if_false, ↓reduceIte, k_ltT, k_ltF, k_leT, k_leF, k_eqT, k_eqF, k_m1lt, k_nm1, not_true_eq_false, not_false_eq_true, e1]
