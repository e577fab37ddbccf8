theorem name_both {o w M : Ob} {σ t p e : Nat → Nat} {n a x k N d : Nat} {E : List Nat} (hJ : NJ o M σ t n a x k N d p e E) (hw : RCw w σ) (h8 : σ 2 ≤ 8) (hWn : WFn σ) (hk : k ≠ 93 ∨ d = 0) (hx : ¬ (k = 1 ∧ d = 0)) (hnW : ¬ WdP t a x k 6 5) : StB o w M σ t n a d := by
  obtain ⟨h, hN, hd, m26, m27, o10, m22, m23, hS, hL, hE, m0, o2, m13⟩ := hJ
  have hn := h.1.2.1
  have hxn := h.2.2.1.2.1
  have hk256 := h.2.2.1.2.2
  have o13 : o 13 0 = nI k := h.2.2.2.1.2.2.1
  have ec := (c_says6 h.1 h.2.2.1.2.1 h.2.2.1.2.2 h.2.2.2.1 h.2.2.1.1).2 hnW
  have em := (word0 h 6 3 5 (by decide)).2 hnW
  have zc : ∀ {β : Type} {f : Int32 → Option β}, zb1 (f_X6_says__6 o) f = f (nI 0) := fun {_ _} => zb1_of ec
  have zm : ∀ {β : Type} {f : Int32 → Option β}, zb1 (f_X12_isKnown M (nI 3)) f = f (nI 0) := fun {_ _} => zb1_of em
  have hA : nsM M = nsA M := ns_A h m27 hd hk hx
  obtain ⟨R, hR⟩ : ∃ R, R = (zb1 (f_X6_isName o) fun (r38 : Int32) =>
    if r38 = 0 then (
    zb2 (f_X6_fail o (1 : Int32)) fun (o51 : Ob) (r52 : Int32) =>
    gz r52 <|
    some (o51, r52)
    ) else (
    zb1 (f_X10_numberOf w (o 16 0)) fun (r40 : Int32) =>
    if r40 = (-1 : Int32) then (
    zb2 (f_X6_fail o (3 : Int32)) fun (o46 : Ob) (r47 : Int32) =>
    gz r47 <|
    some (o46, r47)
    ) else (
    zb1 (f_X10_numberOf w (o 16 0)) fun (r42 : Int32) =>
    zb1 (f_X6_addStep o r42) fun (o44 : Ob) =>
    zb1 (f_X6_advance o44) fun (o32 : Ob) =>
    zb2 (f_X6_take o32 (59 : Int32)) fun (o34 : Ob) (r35 : Int32) =>
    gz r35 <|
    some (o34, r35)
    )
    )) := ⟨_, rfl⟩
  have hC : f_X6_readStep o w = R := by
    unfold f_X6_readStep
    refine (zb1_of ec).trans ?_
    rw [if_pos (show nI 0 = 0 from rfl), nx_eq, nx_eq, ← hR]
    by_cases q : k = 93
    · have d0 : d = 0 := by omega
      simp (maxSteps := 3000000) (disch := omega) only [↓nx_q, zb0_s, zb1_s, zb2_s, zb3_s, zb4_s, zb5_s, zb6_s, zb7_s, zb8_s, zb9_s, zb10_s, zb11_s, zb12_s, zb13_s, zb14_s, q_lit, nI_add, pk_mul, e_cl, gi_in, gz_n0, gz_n1, e_gz, si_eq, si_ne, sa_eq, sa_ne, if_true, if_false, ↓reduceIte, k_ltT, k_ltF, k_leT, k_leF, k_eqT, k_eqF, k_m1lt, k_nm1, not_true_eq_false, not_false_eq_true, o13, o10]
    · simp (maxSteps := 3000000) (disch := omega) only [↓nx_q, zb0_s, zb1_s, zb2_s, zb3_s, zb4_s, zb5_s, zb6_s, zb7_s, zb8_s, zb9_s, zb10_s, zb11_s, zb12_s, zb13_s, zb14_s, q_lit, nI_add, pk_mul, e_cl, gi_in, gz_n0, gz_n1, e_gz, si_eq, si_ne, sa_eq, sa_ne, if_true, if_false, ↓reduceIte, k_ltT, k_ltF, k_leT, k_leF, k_eqT, k_eqF, k_m1lt, k_nm1, not_true_eq_false, not_false_eq_true, o13, o10]
  rw [StB, hC, hA, hR]
  clear hC hA hR
  unfold nsA
  have cn := c_isNm h
  have mn := m_isNm h
  by_cases qn : NmP t a x k
  · have cn := cn.1 qn
    have mn := mn.1 qn
    have k2 := qn.1
    have hax := h.2.2.2.2.2.1.2.2 (by omega)
    obtain ⟨w1, w6, ws⟩ := h.2.2.2.2.2.1.1 k2
    have e16 := h.2.2.2.1.2.2.2.1 k2
    obtain ⟨m16, m15⟩ := h.2.2.2.2.1.2.2.2.1 k2
    have hsm : ∀ i, i < x - a → t (a + i) < 256 := fun i hi => by have := (ws i hi).2; omega
    obtain ⟨r, er, hr⟩ := c_numberOf hw h8 hWn w1 w6 ws (fun j hj => packN_lt (hWn j hj).2)
    obtain ⟨r', er', hr'⟩ := m_named_s (M := M) (τ := σ) (t := t) (a := a) (x := x) (c := σ 2) (by rw [m0]; rfl) h8 (fun j hj i hi => ⟨by rw [m0]; rfl, by rcases (hWn j hj).2 i hi with h | h <;> omega⟩) w6 m16 m15 hsm
    have zr : ∀ {β : Type} {f : Int32 → Option β}, zb1 (f_X10_numberOf w (o 16 0)) f = f r := fun {_ _} => zb1_of (by rw [e16]; exact er)
    have zr' : ∀ {β : Type} {f : Int32 → Option β}, zb1 (f_X12_named__s M) f = f r' := fun {_ _} => zb1_of er'
    have zcn : ∀ {β : Type} {f : Int32 → Option β}, zb1 (f_X6_isName o) f = f (nI 1) := fun {_ _} => zb1_of cn
    have zmn : ∀ {β : Type} {f : Int32 → Option β}, zb1 (f_X12_isName M) f = f (nI 1) := fun {_ _} => zb1_of mn
    rcases hr with ⟨j, hj, rfl, hj1, hj2⟩ | ⟨rfl, hno⟩
    · rcases hr' with ⟨i, hi, rfl, hi1, hi2⟩ | ⟨rfl, hno⟩
      · obtain rfl : i = j := by
          refine Classical.byContradiction fun y => ?_
          rcases (by omega : i < j ∨ j < i) with z | z
          · exact hj2 i z hi1
          · exact hi2 j z hj1
        have hnj : (nI i = -nI 1) = False := k_nm1 (by omega)
        obtain ⟨o1, e0, l1, fr, -⟩ := c_addStep (k := i) hL
        obtain ⟨Mx, hMx⟩ : ∃ Mx, Mx = si (sa M 22 (upd (M 22) N (nI i))) 26 (nI (N + 1)) := ⟨_, rfl⟩
        have fx : ∀ j, j ≠ 22 → j ≠ 26 → Mx j = M j := fun j a b => by rw [hMx, si_ne b, sa_ne a]
        have hTx : TS o1 Mx t n a x k := TS_fr h (fr 0 (by decide) (by decide)) (fr 1 (by decide) (by decide)) (fr 13 (by decide) (by decide)) (fr 14 (by decide) (by decide)) (fr 15 (by decide) (by decide)) (fr 16 (by decide) (by decide)) (fx 6 (by decide) (by decide)) (fx 8 (by decide) (by decide)) (fx 9 (by decide) (by decide)) (fx 10 (by decide) (by decide)) (fx 11 (by decide) (by decide)) (fx 12 (by decide) (by decide)) (fx 15 (by decide) (by decide)) (fx 16 (by decide) (by decide))
        obtain ⟨o2', M1, a1, x1, k1, e1, e2, f1, f2, hx1, h1⟩ := adv_both hTx
        have zx : FrZ M Mx := fun j hj => fx j (by omega) (by omega)
        have z1 : FrZ M M1 := FrZ_tr zx (FrN_Z f2)
        have z0 : ∀ {β : Type} {f : Ob → Option β}, zb1 (f_X6_addStep o (nI i)) f = f o1 := fun {_ _} => zb1_of e0
        have za : ∀ {β : Type} {f : Ob → Option β}, zb1 (f_X6_advance o1) f = f o2' := fun {_ _} => zb1_of e1
        have zn : ∀ {β : Type} {f : Ob → Option β}, zb1 (f_X12_next Mx) f = f M1 := fun {_ _} => zb1_of e2
        have hx' : si (sa M 22 (upd (M 22) N (nI i))) 26 (nI (N + 1)) = Mx := hMx.symm
        have hn1 := h1.2.2.1
        rcases sign_both h1 (c := 59) (by decide) (by decide) with ⟨k59, es, o3, M3, a3, x3, k3, e5, e6, f5, f6, hx3, h3⟩ | ⟨-, es, e5⟩
        · have hax1 := h1.2.2.2.2.2.1.2.2 (by omega)
          have zs : ∀ {β : Type} {f : Int32 → Option β}, zb1 (f_X12_isSign M1 (nI 59)) f = f (nI 1) := fun {_ _} => zb1_of es
          have zk : ∀ {β : Type} {f : Ob → Int32 → Option β}, zb2 (f_X6_take o2' (nI 59)) f = f o3 (nI 1) := fun {_ _} => zb2_of e5
          have zn3 : ∀ {β : Type} {f : Ob → Option β}, zb1 (f_X12_next M1) f = f M3 := fun {_ _} => zb1_of e6
          have z3 : FrZ M M3 := FrZ_tr z1 (FrN_Z f6)
          have fo : ∀ j, j < 13 → o3 j = o1 j := fun j hj => by rw [f5 j (by omega), f1 j (by omega)]
          have fm : ∀ j, 16 < j → M3 j = Mx j := fun j hj => by rw [f6 j (by omega) (by omega) (by omega) (by omega) (by omega) (by omega), f2 j (by omega) (by omega) (by omega) (by omega) (by omega) (by omega)]
          refine Or.inl ⟨o3, M3, a3, x3, k3, N + 1, d, updN p N i, e, E ++ [i], ?_, ?_, ⟨h3, by omega, by omega, ?_, ?_, ?_, ?_, ?_, ?_, LsC_cg l1 (fo 8 (by decide)) (fo 9 (by decide)) rfl, fun k hk => ?_, by rw [z3 0 (by omega)]; exact m0, ?_, ?_⟩, by omega, by omega, z3⟩
          · simp (maxSteps := 3000000) (disch := omega) only [↓zcn, ↓zr, ↓z0, ↓za, ↓zk, ↓nx_q, zb0_s, zb1_s, zb2_s, zb3_s, zb4_s, zb5_s, zb6_s, zb7_s, zb8_s, zb9_s, zb10_s, zb11_s, zb12_s, zb13_s, zb14_s, q_lit, nI_add, pk_mul, e_cl, gi_in, gz_n0, gz_n1, e_gz, si_eq, si_ne, sa_eq, sa_ne, if_true, if_false, ↓reduceIte, k_ltT, k_ltF, k_leT, k_leF, k_eqT, k_eqF, k_m1lt, k_nm1, not_true_eq_false, not_false_eq_true, hnj]
          · simp (maxSteps := 3000000) (disch := omega) only [↓zm, ↓zmn, ↓zr', ↓zn, ↓zs, ↓zn3, ↓nx_q, zb0_s, zb1_s, zb2_s, zb3_s, zb4_s, zb5_s, zb6_s, zb7_s, zb8_s, zb9_s, zb10_s, zb11_s, zb12_s, zb13_s, zb14_s, q_lit, nI_add, pk_mul, e_cl, gi_in, gz_n0, gz_n1, e_gz, si_eq, si_ne, sa_eq, sa_ne, if_true, if_false, ↓reduceIte, k_ltT, k_ltF, k_leT, k_leF, k_eqT, k_eqF, k_m1lt, k_nm1, not_true_eq_false, not_false_eq_true, m26, hx']
          · rw [fm 26 (by decide), hMx, si_eq]
          · rw [fm 27 (by decide), fx 27 (by decide) (by decide)]; exact m27
          · rw [fo 10 (by decide), fr 10 (by decide) (by decide)]; exact o10
          · rw [fm 22 (by decide), hMx, si_ne (by decide), sa_eq, m22, upd_rw]
          · rw [fm 23 (by decide), fx 23 (by decide) (by decide)]; exact m23
          · have hs2 : Stk (updN p N i) e o3 M3 d N E := stk_cg hS (fun x hx => ⟨updN_ne (by omega), rfl⟩) (fun q hq => ⟨by rw [fm 24 (by decide), fx 24 (by decide) (by decide)], by rw [fo 11 (by decide), fr 11 (by decide) (by decide)], by rw [fo 12 (by decide), fr 12 (by decide) (by decide)]⟩)
            have := stk_item hs2 (by rw [updN_eq]; omega)
            rw [updN_eq] at this
            exact this
          · rcases List.mem_append.mp hk with hk | hk
            · exact hE k hk
            · rw [List.mem_singleton.mp hk]; exact hi
          · rw [fo 2 (by decide), fr 2 (by decide) (by decide)]; exact o2
          · rw [f6 13 (by decide) (by decide) (by decide) (by decide) (by decide) (by decide), f2 13 (by decide) (by decide) (by decide) (by decide) (by decide) (by decide), fx 13 (by decide) (by decide)]; exact m13
        · have zs : ∀ {β : Type} {f : Int32 → Option β}, zb1 (f_X12_isSign M1 (nI 59)) f = f (nI 0) := fun {_ _} => zb1_of es
          have zk : ∀ {β : Type} {f : Ob → Int32 → Option β}, zb2 (f_X6_take o2' (nI 59)) f = f (FtC o2' 1) (nI 0) := fun {_ _} => zb2_of e5
          refine Or.inr ⟨FtC o2' 1, FtM M1 1, ?_, ?_, sft h1 ⟨by decide, by decide⟩ z1⟩
          · simp (maxSteps := 3000000) (disch := omega) only [↓zcn, ↓zr, ↓z0, ↓za, ↓zk, ↓nx_q, zb0_s, zb1_s, zb2_s, zb3_s, zb4_s, zb5_s, zb6_s, zb7_s, zb8_s, zb9_s, zb10_s, zb11_s, zb12_s, zb13_s, zb14_s, q_lit, nI_add, pk_mul, e_cl, gi_in, gz_n0, gz_n1, e_gz, si_eq, si_ne, sa_eq, sa_ne, if_true, if_false, ↓reduceIte, k_ltT, k_ltF, k_leT, k_leF, k_eqT, k_eqF, k_m1lt, k_nm1, not_true_eq_false, not_false_eq_true, hnj]
          · simp (maxSteps := 3000000) (disch := omega) only [↓zm, ↓zmn, ↓zr', ↓zn, ↓zs, ↓nx_q, zb0_s, zb1_s, zb2_s, zb3_s, zb4_s, zb5_s, zb6_s, zb7_s, zb8_s, zb9_s, zb10_s, zb11_s, zb12_s, zb13_s, zb14_s, q_lit, nI_add, pk_mul, e_cl, gi_in, gz_n0, gz_n1, e_gz, si_eq, si_ne, sa_eq, sa_ne, if_true, if_false, ↓reduceIte, k_ltT, k_ltF, k_leT, k_leF, k_eqT, k_eqF, k_m1lt, k_nm1, not_true_eq_false, not_false_eq_true, m26, hx', m_badHere]
      · exact absurd hj1 (hno j hj)
    · rcases hr' with ⟨i, hi, rfl, hi1, hi2⟩ | ⟨rfl, -⟩
      · exact absurd hi1 (hno i hi)
      · have hng : (nI 0 ≤ -nI 1) = False := eq_false (by decide)
        refine Or.inr ⟨FtC o 3, FtM M 3, ?_, ?_, sft h ⟨by decide, by decide⟩ (fun _ _ => rfl)⟩
        · simp (maxSteps := 3000000) (disch := omega) only [↓zcn, ↓zr, ↓nx_q, zb0_s, zb1_s, zb2_s, zb3_s, zb4_s, zb5_s, zb6_s, zb7_s, zb8_s, zb9_s, zb10_s, zb11_s, zb12_s, zb13_s, zb14_s, q_lit, nI_add, pk_mul, e_cl, gi_in, gz_n0, gz_n1, e_gz, si_eq, si_ne, sa_eq, sa_ne, if_true, if_false, ↓reduceIte, k_ltT, k_ltF, k_leT, k_leF, k_eqT, k_eqF, k_m1lt, k_nm1, not_true_eq_false, not_false_eq_true, c_fail]
        · simp (maxSteps := 3000000) (disch := omega) only [↓zm, ↓zmn, ↓zr', ↓nx_q, zb0_s, zb1_s, zb2_s, zb3_s, zb4_s, zb5_s, zb6_s, zb7_s, zb8_s, zb9_s, zb10_s, zb11_s, zb12_s, zb13_s, zb14_s, q_lit, nI_add, pk_mul, e_cl, gi_in, gz_n0, gz_n1, e_gz, si_eq, si_ne, sa_eq, sa_ne, if_true, if_false, ↓reduceIte, k_ltT, k_ltF, k_leT, k_leF, k_eqT, k_eqF, k_m1lt, k_nm1, not_true_eq_false, not_false_eq_true, hng, m_badHere]
  · have cn := cn.2 qn
    have mn := mn.2 qn
    have zcn : ∀ {β : Type} {f : Int32 → Option β}, zb1 (f_X6_isName o) f = f (nI 0) := fun {_ _} => zb1_of cn
    have zmn : ∀ {β : Type} {f : Int32 → Option β}, zb1 (f_X12_isName M) f = f (nI 0) := fun {_ _} => zb1_of mn
    refine Or.inr ⟨FtC o 1, FtM M 1, ?_, ?_, sft h ⟨by decide, by decide⟩ (fun _ _ => rfl)⟩
    · simp (maxSteps := 3000000) (disch := omega) only [↓zcn, ↓nx_q, zb0_s, zb1_s, zb2_s, zb3_s, zb4_s, zb5_s, zb6_s, zb7_s, zb8_s, zb9_s, zb10_s, zb11_s, zb12_s, zb13_s, zb14_s, q_lit, nI_add, pk_mul, e_cl, gi_in, gz_n0, gz_n1, e_gz, si_eq, si_ne, sa_eq, sa_ne, if_true, if_false, ↓reduceIte, k_ltT, k_ltF, k_leT, k_leF, k_eqT, k_eqF, k_m1lt, k_nm1, not_true_eq_false, not_false_eq_true, c_fail]
    · simp (maxSteps := 3000000) (disch := omega) only [↓zm, ↓zmn, ↓nx_q, zb0_s, zb1_s, zb2_s, zb3_s, zb4_s, zb5_s, zb6_s, zb7_s, zb8_s, zb9_s, zb10_s, zb11_s, zb12_s, zb13_s, zb14_s, q_lit, nI_add, pk_mul, e_cl, gi_in, gz_n0, gz_n1, e_gz, si_eq, si_ne, sa_eq, sa_ne, if_true, if_false, ↓reduceIte, k_ltT, k_ltF, k_leT, k_leF, k_eqT, k_eqF, k_m1lt, k_nm1, not_true_eq_false, not_false_eq_true, m_badHere]
theorem step_both {o w M : Ob} {σ t p e : Nat → Nat} {n a x k N d : Nat} {E : List Nat} (hJ : NJ o M σ t n a x k N d p e E) (hw : RCw w σ) (h8 : σ 2 ≤ 8) (hWn : WFn σ) (hx : ¬ (k = 1 ∧ d = 0)) : StB o w M σ t n a d := by
  by_cases q1 : WdP t a x k 6 5
  · exact again_both hJ q1
  · by_cases q2 : k = 93 ∧ d ≠ 0
    · obtain ⟨d', rfl⟩ : ∃ d', d = d' + 1 := ⟨d - 1, by omega⟩
      exact close_both hJ q2.1
    · exact name_both hJ hw h8 hWn (by omega) hx q1
