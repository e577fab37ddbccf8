theorem close_both {o w M : Ob} {σ t p e : Nat → Nat} {n a x k N d : Nat} {E : List Nat} (hJ : NJ o M σ t n a x k N (d + 1) p e E) (hk : k = 93) : StB o w M σ t n a (d + 1) := by
  obtain ⟨h, hN, hd, m26, m27, o10, m22, m23, hS, hL, hE, m0, o2, m13⟩ := hJ
  have hn := h.1.2.1
  have hxn := h.2.2.1.2.1
  have hax := h.2.2.2.2.2.1.2.2 (by omega)
  have o13 : o 13 0 = nI 93 := by rw [h.2.2.2.1.2.2.1, hk]
  have ec := (c_says6 h.1 h.2.2.1.2.1 h.2.2.1.2.2 h.2.2.2.1 h.2.2.1.1).2 (fun y => by have := y.1; omega)
  have zc : ∀ {β : Type} {f : Int32 → Option β}, zb1 (f_X6_says__6 o) f = f (nI 0) := fun {_ _} => zb1_of ec
  have hA : nsM M = nsC M := ns_C h m27 (by omega) hk
  obtain ⟨P, B, w0, hE2, s2, s3, s4, s5, s6, s7, s8⟩ := hS
  rw [hE2] at hL hE
  obtain ⟨o1, er, l1, o10', fr⟩ := c_repeat hL o10 (by omega) s7 (by omega) s8
  have h0 : TS o1 M t n a x k := TS_fr h (fr 0 (by decide) (by decide) (by decide)) (fr 1 (by decide) (by decide) (by decide)) (fr 13 (by decide) (by decide) (by decide)) (fr 14 (by decide) (by decide) (by decide)) (fr 15 (by decide) (by decide) (by decide)) (fr 16 (by decide) (by decide) (by decide)) rfl rfl rfl rfl rfl rfl rfl rfl
  obtain ⟨o2', M1, a1, x1, k1, e1, e2, f1, f2, hx1, h1⟩ := adv_both h0
  have z1 : FrZ M M1 := FrN_Z f2
  have m27' : M1 27 0 = nI (d + 1) := by rw [f2 27 (by decide) (by decide) (by decide) (by decide) (by decide) (by decide)]; exact m27
  have m26' : M1 26 0 = nI N := by rw [f2 26 (by decide) (by decide) (by decide) (by decide) (by decide) (by decide)]; exact m26
  have m24' : M1 24 d = nI w0 := by rw [f2 24 (by decide) (by decide) (by decide) (by decide) (by decide) (by decide)]; exact s6
  have m23' : M1 23 = rw e := by rw [f2 23 (by decide) (by decide) (by decide) (by decide) (by decide) (by decide)]; exact m23
  obtain ⟨My, hMy⟩ : ∃ My, My = sa (si M1 27 (nI d)) 23 (upd (M1 23) w0 (nI N)) := ⟨_, rfl⟩
  have fy : ∀ j, j ≠ 23 → j ≠ 27 → My j = M1 j := fun j a b => by rw [hMy, sa_ne a, si_ne b]
  have hTy : TS o2' My t n a1 x1 k1 := TS_fr h1 rfl rfl rfl rfl rfl rfl (fy 6 (by decide) (by decide)) (fy 8 (by decide) (by decide)) (fy 9 (by decide) (by decide)) (fy 10 (by decide) (by decide)) (fy 11 (by decide) (by decide)) (fy 12 (by decide) (by decide)) (fy 15 (by decide) (by decide)) (fy 16 (by decide) (by decide))
  have zy : FrZ M My := FrZ_tr z1 (fun j hj => fy j (by omega) (by omega))
  have zr : ∀ {β : Type} {f : Ob → Option β}, zb1 (f_X6_repeat o) f = f o1 := fun {_ _} => zb1_of er
  have za : ∀ {β : Type} {f : Ob → Option β}, zb1 (f_X6_advance o1) f = f o2' := fun {_ _} => zb1_of e1
  have zn : ∀ {β : Type} {f : Ob → Option β}, zb1 (f_X12_next M) f = f M1 := fun {_ _} => zb1_of e2
  have ed : nI (d + 1) - nI 1 = nI d := e_sub (a := d + 1) (b := 1) (by omega)
  have hy' : sa (si M1 27 (nI d)) 23 (upd (M1 23) w0 (nI N)) = My := hMy.symm
  have hn1 := h1.2.2.1
  rcases sign_both hTy (c := 59) (by decide) (by decide) with ⟨k59, es, o3, M3, a3, x3, k3, e5, e6, f5, f6, hx3, h3⟩ | ⟨-, es, e5⟩
  · have zs : ∀ {β : Type} {f : Int32 → Option β}, zb1 (f_X12_isSign My (nI 59)) f = f (nI 1) := fun {_ _} => zb1_of es
    have zk : ∀ {β : Type} {f : Ob → Int32 → Option β}, zb2 (f_X6_take o2' (nI 59)) f = f o3 (nI 1) := fun {_ _} => zb2_of e5
    have zn3 : ∀ {β : Type} {f : Ob → Option β}, zb1 (f_X12_next My) f = f M3 := fun {_ _} => zb1_of e6
    have z3 : FrZ M M3 := FrZ_tr zy (FrN_Z f6)
    have fo : ∀ j, j < 13 → o3 j = o1 j := fun j hj => by rw [f5 j (by omega), f1 j (by omega)]
    have fm : ∀ j, 16 < j → M3 j = My j := fun j hj => f6 j (by omega) (by omega) (by omega) (by omega) (by omega) (by omega)
    refine Or.inl ⟨o3, M3, a3, x3, k3, N, d, p, updN e w0 N, P ++ repL B (p w0 - 100), ?_, ?_, ⟨h3, by omega, by omega, ?_, ?_, ?_, ?_, ?_, ?_, LsC_cg l1 (fo 8 (by decide)) (fo 9 (by decide)) rfl, fun k hk => ?_, by rw [z3 0 (by omega)]; exact m0, ?_, ?_⟩, by omega, by omega, z3⟩
    · unfold f_X6_readStep
      simp (maxSteps := 3000000) (disch := omega) only [↓zc, ↓zr, ↓za, ↓zk, ↓nx_q, zb0_s, zb1_s, zb2_s, zb3_s, zb4_s, zb5_s, zb6_s, zb7_s, zb8_s, zb9_s, zb10_s, zb11_s, zb12_s, zb13_s, zb14_s, q_lit, nI_add, pk_mul, e_cl, gi_in, gz_n0, gz_n1, e_gz, si_eq, si_ne, sa_eq, sa_ne, if_true, if_false, ↓reduceIte, k_ltT, k_ltF, k_leT, k_leF, k_eqT, k_eqF, k_m1lt, k_nm1, not_true_eq_false, not_false_eq_true, o13, o10]
    · rw [hA]
      unfold nsC
      simp (maxSteps := 3000000) (disch := omega) only [↓zn, ↓zs, ↓zn3, ↓nx_q, zb0_s, zb1_s, zb2_s, zb3_s, zb4_s, zb5_s, zb6_s, zb7_s, zb8_s, zb9_s, zb10_s, zb11_s, zb12_s, zb13_s, zb14_s, q_lit, nI_add, pk_mul, e_cl, gi_in, gz_n0, gz_n1, e_gz, si_eq, si_ne, sa_eq, sa_ne, if_true, if_false, ↓reduceIte, k_ltT, k_ltF, k_leT, k_leF, k_eqT, k_eqF, k_m1lt, k_nm1, not_true_eq_false, not_false_eq_true, m27', ed, m24', m26', hy']
    · rw [fm 26 (by decide), fy 26 (by decide) (by decide)]; exact m26'
    · rw [fm 27 (by decide), hMy, sa_ne (by decide), si_eq]
    · rw [fo 10 (by decide)]; exact o10'
    · rw [fm 22 (by decide), fy 22 (by decide) (by decide), f2 22 (by decide) (by decide) (by decide) (by decide) (by decide) (by decide)]; exact m22
    · rw [fm 23 (by decide), hMy, sa_eq, m23', upd_rw]
    · refine stk_cg (stk_close s2 s3 (by omega) (by omega) s4 s5 (updN_eq _ _ _) (fun x hx => updN_ne hx)) (fun _ _ => ⟨rfl, rfl⟩) (fun q hq => ⟨?_, ?_, ?_⟩)
      · rw [fm 24 (by decide), fy 24 (by decide) (by decide), f2 24 (by decide) (by decide) (by decide) (by decide) (by decide) (by decide)]
      · rw [fo 11 (by decide), fr 11 (by decide) (by decide) (by decide)]
      · rw [fo 12 (by decide), fr 12 (by decide) (by decide) (by decide)]
    · rcases List.mem_append.mp hk with hk | hk
      · exact hE k (List.mem_append_left _ hk)
      · exact hE k (List.mem_append_right _ (repL_mem hk))
    · rw [fo 2 (by decide), fr 2 (by decide) (by decide) (by decide)]; exact o2
    · rw [f6 13 (by decide) (by decide) (by decide) (by decide) (by decide) (by decide), fy 13 (by decide) (by decide), f2 13 (by decide) (by decide) (by decide) (by decide) (by decide) (by decide)]; exact m13
  · have zs : ∀ {β : Type} {f : Int32 → Option β}, zb1 (f_X12_isSign My (nI 59)) f = f (nI 0) := fun {_ _} => zb1_of es
    have zk : ∀ {β : Type} {f : Ob → Int32 → Option β}, zb2 (f_X6_take o2' (nI 59)) f = f (FtC o2' 1) (nI 0) := fun {_ _} => zb2_of e5
    refine Or.inr ⟨FtC o2' 1, FtM My 1, ?_, ?_, sft hTy ⟨by decide, by decide⟩ zy⟩
    · unfold f_X6_readStep
      simp (maxSteps := 3000000) (disch := omega) only [↓zc, ↓zr, ↓za, ↓zk, ↓nx_q, zb0_s, zb1_s, zb2_s, zb3_s, zb4_s, zb5_s, zb6_s, zb7_s, zb8_s, zb9_s, zb10_s, zb11_s, zb12_s, zb13_s, zb14_s, q_lit, nI_add, pk_mul, e_cl, gi_in, gz_n0, gz_n1, e_gz, si_eq, si_ne, sa_eq, sa_ne, if_true, if_false, ↓reduceIte, k_ltT, k_ltF, k_leT, k_leF, k_eqT, k_eqF, k_m1lt, k_nm1, not_true_eq_false, not_false_eq_true, o13, o10]
    · rw [hA]
      unfold nsC
      simp (maxSteps := 3000000) (disch := omega) only [↓zn, ↓zs, ↓nx_q, zb0_s, zb1_s, zb2_s, zb3_s, zb4_s, zb5_s, zb6_s, zb7_s, zb8_s, zb9_s, zb10_s, zb11_s, zb12_s, zb13_s, zb14_s, q_lit, nI_add, pk_mul, e_cl, gi_in, gz_n0, gz_n1, e_gz, si_eq, si_ne, sa_eq, sa_ne, if_true, if_false, ↓reduceIte, k_ltT, k_ltF, k_leT, k_leF, k_eqT, k_eqF, k_m1lt, k_nm1, not_true_eq_false, not_false_eq_true, m27', ed, m24', m26', hy', m_badHere]
