def StB (o w M : Ob) (σ t : Nat → Nat) (n a d : Nat) : Prop := (∃ o' M' a' x' k' N' d' p' e' E', f_X6_readStep o w = some (o', nI 1) ∧ nsM M = some (.inl M') ∧ NJ o' M' σ t n a' x' k' N' d' p' e' E' ∧ a < a' ∧ a + 1 + d' ≤ a' + d ∧ FrZ M M') ∨ (∃ o' M', f_X6_readStep o w = some (o', nI 0) ∧ nsM M = some (.inr (.inr (M', nI 0))) ∧ SFt M o' M')
theorem again_both {o w M : Ob} {σ t p e : Nat → Nat} {n a x k N d : Nat} {E : List Nat} (hJ : NJ o M σ t n a x k N d p e E) (hW : WdP t a x k 6 5) : StB o w M σ t n a d := by
  obtain ⟨h, hN, hd, m26, m27, o10, m22, m23, hS, hL, hE, m0, o2, m13⟩ := hJ
  have k2 : k = 2 := hW.1
  have hn := h.1.2.1
  have hxn := h.2.2.1.2.1
  have hax := h.2.2.2.2.2.1.2.2 (by omega)
  have ec := (c_says6 h.1 h.2.2.1.2.1 h.2.2.1.2.2 h.2.2.2.1 h.2.2.1.1).1 hW
  have em := (word0 h 6 3 5 (by decide)).1 hW
  have zc : ∀ {β : Type} {f : Int32 → Option β}, zb1 (f_X6_says__6 o) f = f (nI 1) := fun {_ _} => zb1_of ec
  have zm : ∀ {β : Type} {f : Int32 → Option β}, zb1 (f_X12_isKnown M (nI 3)) f = f (nI 1) := fun {_ _} => zb1_of em
  have hA : nsM M = nsA M := ns_A h m27 hd (by omega) (by omega)
  by_cases q2 : d = 2
  · refine Or.inr ⟨FtC o 5, FtM M 5, ?_, ?_, sft h ⟨by decide, by decide⟩ (fun _ _ => rfl)⟩
    · unfold f_X6_readStep f_X6_readAgain
      simp (maxSteps := 3000000) (disch := omega) only [↓zc, ↓nx_q, zb0_s, zb1_s, zb2_s, zb3_s, zb4_s, zb5_s, zb6_s, zb7_s, zb8_s, zb9_s, zb10_s, zb11_s, zb12_s, zb13_s, zb14_s, q_lit, nI_add, pk_mul, e_cl, gi_in, gz_n0, gz_n1, e_gz, si_eq, si_ne, sa_eq, sa_ne, if_true, if_false, ↓reduceIte, k_ltT, k_ltF, k_leT, k_leF, k_eqT, k_eqF, k_m1lt, k_nm1, not_true_eq_false, not_false_eq_true, o10, c_fail]
    · rw [hA]
      unfold nsA
      simp (maxSteps := 3000000) (disch := omega) only [↓zm, ↓nx_q, zb0_s, zb1_s, zb2_s, zb3_s, zb4_s, zb5_s, zb6_s, zb7_s, zb8_s, zb9_s, zb10_s, zb11_s, zb12_s, zb13_s, zb14_s, q_lit, nI_add, pk_mul, e_cl, gi_in, gz_n0, gz_n1, e_gz, si_eq, si_ne, sa_eq, sa_ne, if_true, if_false, ↓reduceIte, k_ltT, k_ltF, k_leT, k_leF, k_eqT, k_eqF, k_m1lt, k_nm1, not_true_eq_false, not_false_eq_true, m27, m_badHere]
  · obtain ⟨Mx, hMx⟩ : ∃ Mx, Mx = si (sa M 24 (upd (M 24) d (nI N))) 27 (nI (d + 1)) := ⟨_, rfl⟩
    have fx : ∀ j, j ≠ 24 → j ≠ 27 → Mx j = M j := fun j a b => by rw [hMx, si_ne b, sa_ne a]
    have hTx : TS o Mx t n a x k := TS_fr h rfl rfl rfl rfl rfl rfl (fx 6 (by decide) (by decide)) (fx 8 (by decide) (by decide)) (fx 9 (by decide) (by decide)) (fx 10 (by decide) (by decide)) (fx 11 (by decide) (by decide)) (fx 12 (by decide) (by decide)) (fx 15 (by decide) (by decide)) (fx 16 (by decide) (by decide))
    obtain ⟨o1, M1, a1, x1, k1, e1, e2, f1, f2, hx1, h1⟩ := adv_both hTx
    have zx : FrZ M Mx := fun j hj => fx j (by omega) (by omega)
    have z1 : FrZ M M1 := FrZ_tr zx (FrN_Z f2)
    have za : ∀ {β : Type} {f : Ob → Option β}, zb1 (f_X6_advance o) f = f o1 := fun {_ _} => zb1_of e1
    have zn : ∀ {β : Type} {f : Ob → Option β}, zb1 (f_X12_next Mx) f = f M1 := fun {_ _} => zb1_of e2
    rcases num_both h1 (lo := 1) (hi := 9) (by decide) (by decide) with ⟨v, o2', M2', a2', x2', k2', v1, v9, en, em2, m12, ea, -, -, -, -, -⟩ | ⟨f, hf1, hf2, en, em2⟩
    · have m26' : M1 26 0 = nI N := by rw [f2 26 (by decide) (by decide) (by decide) (by decide) (by decide) (by decide), fx 26 (by decide) (by decide)]; exact m26
      have m22' : M1 22 = rw p := by rw [f2 22 (by decide) (by decide) (by decide) (by decide) (by decide) (by decide), fx 22 (by decide) (by decide)]; exact m22
      have m23' : M1 23 = rw e := by rw [f2 23 (by decide) (by decide) (by decide) (by decide) (by decide) (by decide), fx 23 (by decide) (by decide)]; exact m23
      have m24' : M1 24 = upd (M 24) d (nI N) := by rw [f2 24 (by decide) (by decide) (by decide) (by decide) (by decide) (by decide), hMx, si_ne (by decide), sa_eq]
      have m27' : M1 27 0 = nI (d + 1) := by rw [f2 27 (by decide) (by decide) (by decide) (by decide) (by decide) (by decide), hMx, si_eq]
      obtain ⟨My, hMy⟩ : ∃ My, My = si (sa M1 22 (upd (M1 22) N (nI (100 + v)))) 26 (nI (N + 1)) := ⟨_, rfl⟩
      have fy : ∀ j, j ≠ 22 → j ≠ 26 → My j = M1 j := fun j a b => by rw [hMy, si_ne b, sa_ne a]
      have hTy : TS o1 My t n a1 x1 k1 := TS_fr h1 rfl rfl rfl rfl rfl rfl (fy 6 (by decide) (by decide)) (fy 8 (by decide) (by decide)) (fy 9 (by decide) (by decide)) (fy 10 (by decide) (by decide)) (fy 11 (by decide) (by decide)) (fy 12 (by decide) (by decide)) (fy 15 (by decide) (by decide)) (fy 16 (by decide) (by decide))
      obtain ⟨o2, M2, a2, x2, k2, e3, e4, f3, f4, hx2, h2⟩ := adv_both hTy
      obtain rfl : o2' = o2 := Option.some.inj (ea.symm.trans e3)
      have zy : FrZ M My := FrZ_tr z1 (fun j hj => fy j (by omega) (by omega))
      have z2 : FrZ M M2 := FrZ_tr zy (FrN_Z f4)
      have zt : ∀ {β : Type} {f : Ob → Int32 → Option β}, zb2 (f_X6_takeNumber o1 (nI 1) (nI 9)) f = f o2' (nI v) := fun {_ _} => zb2_of en
      have znu : ∀ {β : Type} {f : Ob → Int32 → Option β}, zb2 (f_X12_number M1 (nI 1) (nI 9)) f = f M1 (nI 1) := fun {_ _} => zb2_of em2
      have zn2 : ∀ {β : Type} {f : Ob → Option β}, zb1 (f_X12_next My) f = f M2 := fun {_ _} => zb1_of e4
      have hn1 := h1.2.2.1
      have hn2 := h2.2.2.1
      rcases sign_both h2 (c := 91) (by decide) (by decide) with ⟨k91, es, o3, M3, a3, x3, k3, e5, e6, f5, f6, hx3, h3⟩ | ⟨-, es, e5⟩
      · have hax2 := h2.2.2.2.2.2.1.2.2 (by omega)
        have zs : ∀ {β : Type} {f : Int32 → Option β}, zb1 (f_X12_isSign M2 (nI 91)) f = f (nI 1) := fun {_ _} => zb1_of es
        have zk : ∀ {β : Type} {f : Ob → Int32 → Option β}, zb2 (f_X6_take o2' (nI 91)) f = f o3 (nI 1) := fun {_ _} => zb2_of e5
        have zn3 : ∀ {β : Type} {f : Ob → Option β}, zb1 (f_X12_next M2) f = f M3 := fun {_ _} => zb1_of e6
        have fo : ∀ j, j < 13 → o3 j = o j := fun j hj => by rw [f5 j (by omega), f3 j (by omega), f1 j (by omega)]
        have o10' : o3 10 0 = nI d := by rw [fo 10 (by decide)]; exact o10
        have fm : ∀ j, 16 < j → M3 j = My j := fun j hj => by rw [f6 j (by omega) (by omega) (by omega) (by omega) (by omega) (by omega), f4 j (by omega) (by omega) (by omega) (by omega) (by omega) (by omega)]
        have fm13 : M3 13 = M 13 := by rw [f6 13 (by decide) (by decide) (by decide) (by decide) (by decide) (by decide), f4 13 (by decide) (by decide) (by decide) (by decide) (by decide) (by decide), fy 13 (by decide) (by decide), f2 13 (by decide) (by decide) (by decide) (by decide) (by decide) (by decide), fx 13 (by decide) (by decide)]
        obtain ⟨o4, ho4⟩ : ∃ o4, o4 = si (sa (sa o3 11 (upd (o3 11) d (nI v))) 12 (upd ((sa o3 11 (upd (o3 11) d (nI v))) 12) d (o3 9 0))) 10 (nI (d + 1)) := ⟨_, rfl⟩
        have f4o : ∀ j, j ≠ 10 → j ≠ 11 → j ≠ 12 → o4 j = o3 j := fun j a b c => by rw [ho4, si_ne a, sa_ne c, sa_ne b]
        have z3 : FrZ M M3 := FrZ_tr z2 (FrN_Z f6)
        refine Or.inl ⟨o4, M3, a3, x3, k3, N + 1, d + 1, updN p N (100 + v), e, E, ?_, ?_, ⟨?_, by omega, by omega, ?_, ?_, ?_, ?_, ?_, ?_, ?_, hE, by rw [z3 0 (by omega)]; exact m0, ?_, by rw [fm13]; exact m13⟩, by omega, by omega, z3⟩
        · unfold f_X6_readStep f_X6_readAgain
          rw [ho4]
          simp (maxSteps := 3000000) (disch := omega) only [↓zc, ↓za, ↓zt, ↓zk, ↓nx_q, zb0_s, zb1_s, zb2_s, zb3_s, zb4_s, zb5_s, zb6_s, zb7_s, zb8_s, zb9_s, zb10_s, zb11_s, zb12_s, zb13_s, zb14_s, q_lit, nI_add, pk_mul, e_cl, gi_in, gz_n0, gz_n1, e_gz, si_eq, si_ne, sa_eq, sa_ne, if_true, if_false, ↓reduceIte, k_ltT, k_ltF, k_leT, k_leF, k_eqT, k_eqF, k_m1lt, k_nm1, not_true_eq_false, not_false_eq_true, o10, o10']
        · rw [hA]
          unfold nsA
          have hx' : si (sa M 24 (upd (M 24) d (nI N))) 27 (nI (d + 1)) = Mx := hMx.symm
          have hy' : si (sa M1 22 (upd (M1 22) N (nI (100 + v)))) 26 (nI (N + 1)) = My := hMy.symm
          simp (maxSteps := 3000000) (disch := omega) only [↓zm, ↓zn, ↓znu, ↓zn2, ↓zs, ↓zn3, ↓nx_q, zb0_s, zb1_s, zb2_s, zb3_s, zb4_s, zb5_s, zb6_s, zb7_s, zb8_s, zb9_s, zb10_s, zb11_s, zb12_s, zb13_s, zb14_s, q_lit, nI_add, pk_mul, e_cl, gi_in, gz_n0, gz_n1, e_gz, si_eq, si_ne, sa_eq, sa_ne, if_true, if_false, ↓reduceIte, k_ltT, k_ltF, k_leT, k_leF, k_eqT, k_eqF, k_m1lt, k_nm1, not_true_eq_false, not_false_eq_true, m26, m27, hx', m26', m12, hy']
        · exact TS_fr h3 (f4o 0 (by decide) (by decide) (by decide)) (f4o 1 (by decide) (by decide) (by decide)) (f4o 13 (by decide) (by decide) (by decide)) (f4o 14 (by decide) (by decide) (by decide)) (f4o 15 (by decide) (by decide) (by decide)) (f4o 16 (by decide) (by decide) (by decide)) rfl rfl rfl rfl rfl rfl rfl rfl
        · rw [fm 26 (by decide), hMy, si_eq]
        · rw [fm 27 (by decide), fy 27 (by decide) (by decide)]; exact m27'
        · rw [ho4, si_eq]
        · rw [fm 22 (by decide), hMy, si_ne (by decide), sa_eq, m22', upd_rw]
        · rw [fm 23 (by decide), fy 23 (by decide) (by decide)]; exact m23'
        · have m24 : M3 24 = upd (M 24) d (nI N) := by rw [fm 24 (by decide), fy 24 (by decide) (by decide)]; exact m24'
          have c11 : o4 11 = upd (o 11) d (nI v) := by rw [ho4, si_ne (by decide), sa_ne (by decide), sa_eq, fo 11 (by decide)]
          have c12 : o4 12 = upd (o 12) d (o 9 0) := by rw [ho4, si_ne (by decide), sa_eq, sa_ne (by decide), fo 12 (by decide), fo 9 (by decide)]
          refine stk_open (stk_cg hS (fun x hx => ⟨updN_ne (by omega), rfl⟩) (fun q hq => ?_)) ?_ ?_ ?_ ?_
          · rw [m24, c11, c12, upd_ne (by omega), upd_ne (by omega), upd_ne (by omega)]
            exact ⟨rfl, rfl, rfl⟩
          · rw [updN_eq]; omega
          · rw [m24, upd_eq]
          · rw [c11, upd_eq, updN_eq, Nat.add_sub_cancel_left]
          · rw [c12, upd_eq]; exact hL.1
        · refine LsC_cg hL ?_ ?_ rfl
          · rw [f4o 8 (by decide) (by decide) (by decide), fo 8 (by decide)]
          · rw [f4o 9 (by decide) (by decide) (by decide), fo 9 (by decide)]
        · rw [f4o 2 (by decide) (by decide) (by decide), fo 2 (by decide)]; assumption
      · have zs : ∀ {β : Type} {f : Int32 → Option β}, zb1 (f_X12_isSign M2 (nI 91)) f = f (nI 0) := fun {_ _} => zb1_of es
        have zk : ∀ {β : Type} {f : Ob → Int32 → Option β}, zb2 (f_X6_take o2' (nI 91)) f = f (FtC o2' 1) (nI 0) := fun {_ _} => zb2_of e5
        refine Or.inr ⟨FtC o2' 1, FtM M2 1, ?_, ?_, sft h2 ⟨by decide, by decide⟩ z2⟩
        · unfold f_X6_readStep f_X6_readAgain
          simp (maxSteps := 3000000) (disch := omega) only [↓zc, ↓za, ↓zt, ↓zk, ↓nx_q, zb0_s, zb1_s, zb2_s, zb3_s, zb4_s, zb5_s, zb6_s, zb7_s, zb8_s, zb9_s, zb10_s, zb11_s, zb12_s, zb13_s, zb14_s, q_lit, nI_add, pk_mul, e_cl, gi_in, gz_n0, gz_n1, e_gz, si_eq, si_ne, sa_eq, sa_ne, if_true, if_false, ↓reduceIte, k_ltT, k_ltF, k_leT, k_leF, k_eqT, k_eqF, k_m1lt, k_nm1, not_true_eq_false, not_false_eq_true, o10]
        · rw [hA]
          unfold nsA
          have hx' : si (sa M 24 (upd (M 24) d (nI N))) 27 (nI (d + 1)) = Mx := hMx.symm
          have hy' : si (sa M1 22 (upd (M1 22) N (nI (100 + v)))) 26 (nI (N + 1)) = My := hMy.symm
          simp (maxSteps := 3000000) (disch := omega) only [↓zm, ↓zn, ↓znu, ↓zn2, ↓zs, ↓nx_q, zb0_s, zb1_s, zb2_s, zb3_s, zb4_s, zb5_s, zb6_s, zb7_s, zb8_s, zb9_s, zb10_s, zb11_s, zb12_s, zb13_s, zb14_s, q_lit, nI_add, pk_mul, e_cl, gi_in, gz_n0, gz_n1, e_gz, si_eq, si_ne, sa_eq, sa_ne, if_true, if_false, ↓reduceIte, k_ltT, k_ltF, k_leT, k_leF, k_eqT, k_eqF, k_m1lt, k_nm1, not_true_eq_false, not_false_eq_true, m26, m27, hx', m26', m12, hy', m_badHere]
    · have zt : ∀ {β : Type} {g : Ob → Int32 → Option β}, zb2 (f_X6_takeNumber o1 (nI 1) (nI 9)) g = g (FtC o1 f) (-nI 1) := fun {_ _} => zb2_of en
      have znu : ∀ {β : Type} {g : Ob → Int32 → Option β}, zb2 (f_X12_number M1 (nI 1) (nI 9)) g = g (FtM M1 f) (nI 0) := fun {_ _} => zb2_of em2
      refine Or.inr ⟨FtC o1 f, FtM M1 f, ?_, ?_, sft h1 ⟨hf1, by omega⟩ z1⟩
      · unfold f_X6_readStep f_X6_readAgain
        simp (maxSteps := 3000000) (disch := omega) only [↓zc, ↓za, ↓zt, ↓nx_q, zb0_s, zb1_s, zb2_s, zb3_s, zb4_s, zb5_s, zb6_s, zb7_s, zb8_s, zb9_s, zb10_s, zb11_s, zb12_s, zb13_s, zb14_s, q_lit, nI_add, pk_mul, e_cl, gi_in, gz_n0, gz_n1, e_gz, si_eq, si_ne, sa_eq, sa_ne, if_true, if_false, ↓reduceIte, k_ltT, k_ltF, k_leT, k_leF, k_eqT, k_eqF, k_m1lt, k_nm1, not_true_eq_false, not_false_eq_true, o10]
      · rw [hA]
        unfold nsA
        have hx' : si (sa M 24 (upd (M 24) d (nI N))) 27 (nI (d + 1)) = Mx := hMx.symm
        simp (maxSteps := 3000000) (disch := omega) only [↓zm, ↓zn, ↓znu, ↓nx_q, zb0_s, zb1_s, zb2_s, zb3_s, zb4_s, zb5_s, zb6_s, zb7_s, zb8_s, zb9_s, zb10_s, zb11_s, zb12_s, zb13_s, zb14_s, q_lit, nI_add, pk_mul, e_cl, gi_in, gz_n0, gz_n1, e_gz, si_eq, si_ne, sa_eq, sa_ne, if_true, if_false, ↓reduceIte, k_ltT, k_ltF, k_leT, k_leF, k_eqT, k_eqF, k_m1lt, k_nm1, not_true_eq_false, not_false_eq_true, m26, m27, hx']
