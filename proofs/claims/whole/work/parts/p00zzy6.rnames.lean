theorem nc_e (r st w s l b0 b1 b2 hi g d : Ob) (P : PV) : f_X11_names r st w s l b0 b1 b2 hi g d P = zb2 (f_X6_readSteps r w) (fun (o1 : Ob) (r2 : Int32) => if r2 = 0 then some (si o1 1 (0 : Int32), st, s, l, b0, b1, b2, hi, g, d, P, (-1000 : Int32) - (si o1 1 (0 : Int32) 3 0)) else zb2 (f_X3_keep hi st w s l b0 b1 b2 P) fun (o5 : Ob) (P6 : PV) => zb1 (f_X2_newCall g) fun (o10 : Ob) => zb9 (zl10 (ndC (si o1 1 (0 : Int32)) w) FU st s l b0 b1 b2 o10 d (0 : Int32) (0 : Int32)) fun (o59 : Ob) (o60 : Ob) (o61 : Ob) (o62 : Ob) (o63 : Ob) (o64 : Ob) (o65 : Ob) (o66 : Ob) (k67 : Int32) => some (si o1 1 (0 : Int32), o59, o60, o61, o62, o63, o64, o5, o65, o66, P6, k67)) := rfl
theorem R_names : St_names Rel := by
  intro V PK PI M hR
  obtain ⟨σ, g, fc, fm, hR⟩ := hR
  have hR0 := hR
  obtain ⟨⟨hM0, hW, hRC⟩, hGC, hGM, hHi, hPl, hO⟩ := hR0
  have hw : RCw (V 4) σ := hRC.2.1
  rcases names_read hO.1 hw hW.1.1 hW.2.2.2.2.2.1 hM0 with ⟨o', M', p, e, N, E, e1, e2, hN, m26, m22, m23, hS, hL, hE, o2, m13, m7, hf⟩ | ⟨o', M', f, a, e1, e2, ha, p1, p2, p3, p4, m7, hf⟩
  · obtain ⟨V1, hV1⟩ : ∃ V1, V1 = vu V 1 (si o' 1 (nI 0)) := ⟨_, rfl⟩
    have hR1 : RelS V1 PK PI M' σ g fc fm := by rw [hV1]; exact RelS_read hR o2 m13 m7 hf
    have v1 : ∀ j, j ≠ 1 → V1 j = V j := fun j hj => by rw [hV1, vu_ne hj]
    obtain ⟨o10, PK', M2, ek, en, ec, em, hH, hf2, hC, hM⟩ := begin_both hR1
    rw [v1 3 (by decide), v1 4 (by decide), v1 5 (by decide), v1 6 (by decide), v1 7 (by decide), v1 8 (by decide), v1 9 (by decide)] at ek hC
    rw [v1 10 (by decide)] at ek
    rw [v1 11 (by decide)] at en hC
    obtain ⟨M3, em3, hM3, hf3⟩ := nm_run (s := (σ, (σ, g, true), 0)) hS hN rfl hM hW hE (by rw [hf2 26 (by decide) (by decide) (by decide)]; exact m26) (by rw [hf2 22 (by decide) (by decide) (by decide)]; exact m22) (by rw [hf2 23 (by decide) (by decide) (by decide)]; exact m23)
    have hEt : ∀ k, k ∈ E.take 40 → k < σ 2 := fun k hk => hE k (List.mem_of_mem_take hk)
    obtain ⟨st', s', l', b0', b1', b2', g', d', ez, hC'⟩ := nd_loop (o4 := si o' 1 (nI 0)) (w := V 4) (L := E.take 40) (by rw [si_ne (by decide)]; exact hL.1) (tk_len E) (fun i hi => by rw [si_ne (by decide)]; exact hL.2 i hi) (E.take 40).length 0 (V 3) (V 5) (V 6) (V 7) (V 8) (V 9) (si (V 11) 2 (nI 1)) (V 12) (σ, (σ, g, true), 0) (by omega) hW hEt hC
    have ez := ez FU (fu_lt (by have := tk_len E; omega))
    rw [List.drop_zero, fold_take 40 E (σ, (σ, g, true), 0) hW hE (by omega)] at ez hC'
    have hi := fold_inv E (σ, (σ, g, true), 0) hW hE
    generalize E.foldl ask1 (σ, (σ, g, true), 0) = s3 at *
    obtain ⟨My, hMy⟩ : ∃ My : Ob, My = fun j => if j = 24 ∨ j = 25 then M3 j else M' j := ⟨_, rfl⟩
    obtain ⟨Mz, hMz⟩ : ∃ Mz : Ob, Mz = fun j => if j = 24 ∨ j = 25 then M3 j else M2 j := ⟨_, rfl⟩
    have y1 : ∀ j, j ≠ 24 → j ≠ 25 → My j = M' j := fun j a b => by rw [hMy]; exact if_neg (by omega)
    have z1 : ∀ j, j ≠ 24 → j ≠ 25 → Mz j = M2 j := fun j a b => by rw [hMz]; exact if_neg (by omega)
    have yz : ∀ j, j = 24 ∨ j = 25 → Mz j = M3 j ∧ My j = M3 j := fun j h => by rw [hMz, hMy]; exact ⟨if_pos h, if_pos h⟩
    have hR2 : RelS V1 PK PI My σ g fc fm := by
      rw [hV1]
      exact RelS_read hR o2 (by rw [y1 13 (by decide) (by decide)]; exact m13) (by rw [y1 7 (by decide) (by decide)]; exact m7) (fun j hj => by rw [y1 j (by omega) (by omega)]; exact hf j hj)
    refine ⟨vu (vu (vu (vu (vu (vu (vu (vu (vu (vu V 1 (si o' 1 (nI 0))) 3 st') 5 s') 6 l') 7 b0') 8 b1') 9 b2') 10 o10) 11 g') 12 d', PK', PI, M3, nI s3.2.2, ?_, ?_, ?_⟩
    · unfold g_names
      refine zb12_of ?_
      rw [nc_e]
      refine (zb2_of e1).trans ?_
      rw [if_neg (by decide)]
      refine (zb2_of ek).trans ?_
      refine (zb1_of en).trans ?_
      exact zb9_of ez
    · unfold h_names
      refine zb2_of ?_
      unfold f_X12_names
      refine (zb2_of e2).trans ?_
      rw [if_neg (by decide)]
      refine (zb1_of ec).trans ?_
      refine (zb1_of em).trans ?_
      exact zb2_of em3
    · refine Rel_asked (V := V1) (M := My) (M2 := Mz) (M3 := M3) (PK := PK) hR2 hi.1 hi.2 (x := s3.2.1) ?_ hM3 ?_ (fun j a b c d _ => ?_) (fun j a b c => ?_) ?_ ?_ ?_ ?_ ?_ ?_
      · simp (disch := omega) only [vu_eq, vu_ne]
        exact hC'
      · simp (disch := omega) only [vu_eq, vu_ne]
        exact RHist_fr hH (z1 2 (by decide) (by decide)) (z1 5 (by decide) (by decide))
      · by_cases q : j = 24 ∨ j = 25
        · exact (yz j q).1.symm
        · rw [z1 j (by omega) (by omega)]
          exact hf3 j a b c d (by omega) (by omega)
      · by_cases q : j = 24 ∨ j = 25
        · rw [(yz j q).1, (yz j q).2]
        · rw [z1 j (by omega) (by omega), y1 j (by omega) (by omega)]
          exact hf2 j a b c
      · rw [v1 0 (by decide)]
        simp (disch := omega) only [vu_eq, vu_ne]
      · rw [v1 0 (by decide)]
        simp (disch := omega) only [vu_eq, vu_ne]
      · simp (disch := omega) only [vu_eq, vu_ne]
        have hm : ∀ j, j = 7 ∨ j = 13 → M3 j = M' j := fun j hj => (hf3 j (by omega) (by omega) (by omega) (by omega) (by omega) (by omega)).trans (hf2 j (by omega) (by omega) (by omega))
        refine ⟨⟨0, fun _ => 0, by decide, si_eq _ _ _ _, by rw [hm 7 (by omega)]; exact m7, fun i hi => absurd hi (Nat.not_lt_zero _)⟩, ?_⟩
        rw [hm 13 (by omega), si_ne (by decide), m13, o2]
      · rw [v1 16 (by decide)]
        simp (disch := omega) only [vu_eq, vu_ne]
      · rw [v1 14 (by decide)]
        simp (disch := omega) only [vu_eq, vu_ne]
      · rw [v1 15 (by decide)]
        simp (disch := omega) only [vu_eq, vu_ne]
  · refine ⟨vu V 1 (si o' 1 (nI 0)), PK, PI, M', -nI 1000 - nI a, ?_, ?_, σ, g, fc, fm, RelS_read hR p1 p3 m7 hf⟩
    · have ev : ∀ (x : Nat), x ≠ 1 → vu (vu V 1 (si o' 1 (nI 0))) x (V x) = vu V 1 (si o' 1 (nI 0)) := fun x a => by
        have := vu_self (V := vu V 1 (si o' 1 (nI 0))) (i := x)
        rw [vu_ne (by omega)] at this
        exact this
      unfold g_names f_X11_names
      simp (maxSteps := 3000000) (disch := omega) only [↓nx_q, zb0_s, zb1_s, zb2_s, zb3_s, zb4_s, zb5_s, zb6_s, zb7_s, zb8_s, zb9_s, zb10_s, zb11_s, zb12_s, zb13_s, zb14_s, q_lit, nI_add, pk_mul, e_cl, gi_in, gz_n0, gz_n1, e_gz, si_eq, si_ne, sa_eq, sa_ne, if_true, if_false, ↓reduceIte, k_ltT, k_ltF, k_leT, k_leF, k_eqT, k_eqF, k_m1lt, k_nm1, not_true_eq_false, not_false_eq_true, e1, p2, ev]
    · unfold h_names f_X12_names
      simp (maxSteps := 3000000) (disch := omega) only [↓nx_q, zb0_s, zb1_s, zb2_s, zb3_s, zb4_s, zb5_s, zb6_s, zb7_s, zb8_s, zb9_s, zb10_s, zb11_s, zb12_s, zb13_s, zb14_s, q_lit, nI_add, pk_mul, e_cl, gi_in, gz_n0, gz_n1, e_gz, si_eq, si_ne, sa_eq, sa_ne, if_true, if_false, ↓reduceIte, k_ltT, k_ltF, k_leT, k_leF, k_eqT, k_eqF, k_m1lt, k_nm1, not_true_eq_false, not_false_eq_true, e2, p4]
theorem nI_pr : Steps Rel := ⟨R_feed, R_end, R_store, R_fault, R_now, R_item, R_request, R_names, R_log, R_room, R_rule, R_carry, R_gate, R_book, R_booked, R_line, R_best, R_plan, R_potential, R_proof, R_bestWith, R_soon, R_victims, R_upTo, R_curve, R_spent, R_picture, R_byteAt, R_ratio, R_rides, R_ride, R_shift, R_drawn, R_would, R_undo, R_image, R_restore⟩
