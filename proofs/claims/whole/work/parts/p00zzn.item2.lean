theorem item_both {o d M : Ob} {τ t : Nat → Nat} {n a x k : Nat} (h : TS o M t n a x k) (hD : DR o d M τ) : (∃ o' d' M' τ' a' x' k', f_X6_readItem o d = some (o', d', nI 1) ∧ f_X12_item M = some (M', nI 1) ∧ TS o' M' t n a' x' k' ∧ DR o' d' M' τ' ∧ x ≤ a' ∧ FrL M M') ∨ (∃ o' d' M', f_X6_readItem o d = some (o', d', nI 0) ∧ f_X12_item M = some (M', nI 0) ∧ LFt M o' M') := by
  have hD0 := hD
  obtain ⟨a1, a2, a3, a4, a5, a6, a7, a8, a9, b1, b2, b3⟩ := hD
  have d0 : d 0 0 = nI (τ 2) := a3.1
  by_cases q8 : τ 2 = 8
  · refine Or.inr ⟨FtC o 4, d, FtM M 4, ?_, ?_, lft h ⟨by decide, by decide⟩ (fun _ _ _ _ _ _ _ _ _ _ _ _ => rfl)⟩
    · unfold f_X6_readItem
      simp (maxSteps := 3000000) (disch := omega) only [↓nx_q, zb0_s, zb1_s, zb2_s, zb3_s, zb4_s, zb5_s, zb6_s, zb7_s, zb8_s, zb9_s, zb10_s, zb11_s, zb12_s, zb13_s, zb14_s, q_lit, nI_add, pk_mul, e_cl, gi_in, gz_n0, gz_n1, e_gz, si_eq, si_ne, sa_eq, sa_ne, if_true, if_false, ↓reduceIte, k_ltT, k_ltF, k_leT, k_leF, k_eqT, k_eqF, k_m1lt, k_nm1, not_true_eq_false, not_false_eq_true, d0, c_fail]
    · unfold f_X12_item
      simp (maxSteps := 3000000) (disch := omega) only [↓nx_q, zb0_s, zb1_s, zb2_s, zb3_s, zb4_s, zb5_s, zb6_s, zb7_s, zb8_s, zb9_s, zb10_s, zb11_s, zb12_s, zb13_s, zb14_s, q_lit, nI_add, pk_mul, e_cl, gi_in, gz_n0, gz_n1, e_gz, si_eq, si_ne, sa_eq, sa_ne, if_true, if_false, ↓reduceIte, k_ltT, k_ltF, k_leT, k_leF, k_eqT, k_eqF, k_m1lt, k_nm1, not_true_eq_false, not_false_eq_true, a1, rw_ap, upd_rw, sa_sa, jn_l, jn_r, jn_4, jn_5, jn_6, jn_ul, jn_ur, jn_u4, jn_u5, jn_u6, q8, m_badHere]
  · have hc : τ 2 < 8 := by omega
    obtain ⟨o2, M2, a', x', k', e1, e2, f1, f2, hx, h2⟩ := adv_both h
    have fr2 : FrL M M2 := FrN_L f2
    have hm3 : M2 3 = rw τ := by rw [f2 3 (by decide) (by decide) (by decide) (by decide) (by decide) (by decide)]; exact a1
    have z1 : ∀ {β : Type} {f : Ob → Option β}, zb1 (f_X6_advance o) f = f o2 := fun {_ _} => zb1_of e1
    have z2 : ∀ {β : Type} {f : Ob → Option β}, zb1 (f_X12_next M) f = f M2 := fun {_ _} => zb1_of e2
    have cn := c_isNm h2
    have mn := m_isNm h2
    by_cases qn : NmP t a' x' k'
    · have cn := cn.1 qn
      have mn := mn.1 qn
      have k2 := qn.1
      obtain ⟨w1, w6, ws⟩ := h2.2.2.2.2.2.1.1 k2
      have e16 := h2.2.2.2.1.2.2.2.1 k2
      obtain ⟨m16, m15⟩ := h2.2.2.2.2.1.2.2.2.1 k2
      have hsm : ∀ i, i < x' - a' → t (a' + i) < 256 := fun i hi => by have := (ws i hi).2; omega
      obtain ⟨r, er, hr⟩ := c_numberOf a3 a2 a5 w1 w6 ws (fun j hj => packN_lt (a5 j hj).2)
      obtain ⟨r', er', hr'⟩ := m_named_spare (M := M2) (τ := τ) (t := t) (a := a') (x := x') (c := τ 2) (by rw [hm3]; rfl) a2 (fun j hj i hi => ⟨by rw [hm3]; rfl, by rcases (a5 j hj).2 i hi with h | h <;> omega⟩) w6 m16 m15 hsm
      have zc : ∀ {β : Type} {f : Int32 → Option β}, zb1 (f_X10_numberOf d (o2 16 0)) f = f r := fun {_ _} => zb1_of (by rw [e16]; exact er)
      have zm : ∀ {β : Type} {f : Int32 → Option β}, zb1 (f_X12_named__spare M2) f = f r' := fun {_ _} => zb1_of er'
      have zcn : ∀ {β : Type} {f : Int32 → Option β}, zb1 (f_X6_isName o2) f = f (nI 1) := fun {_ _} => zb1_of cn
      have zmn : ∀ {β : Type} {f : Int32 → Option β}, zb1 (f_X12_isName M2) f = f (nI 1) := fun {_ _} => zb1_of mn
      rcases hr with ⟨j, hj, rfl, hj1, hj2⟩ | ⟨rfl, hno⟩
      · rcases hr' with ⟨i, hi, rfl, hi1, hi2⟩ | ⟨rfl, hno⟩
        · have hnj : (nI j = -nI 1) = False := k_nm1 (by omega)
          refine Or.inr ⟨FtC o2 3, d, FtM M2 3, ?_, ?_, lft h2 ⟨by decide, by decide⟩ fr2⟩
          · unfold f_X6_readItem
            simp (maxSteps := 3000000) (disch := omega) only [↓z1, ↓zcn, ↓zc, ↓nx_q, zb0_s, zb1_s, zb2_s, zb3_s, zb4_s, zb5_s, zb6_s, zb7_s, zb8_s, zb9_s, zb10_s, zb11_s, zb12_s, zb13_s, zb14_s, q_lit, nI_add, pk_mul, e_cl, gi_in, gz_n0, gz_n1, e_gz, si_eq, si_ne, sa_eq, sa_ne, if_true, if_false, ↓reduceIte, k_ltT, k_ltF, k_leT, k_leF, k_eqT, k_eqF, k_m1lt, k_nm1, not_true_eq_false, not_false_eq_true, d0, hnj, c_fail]
          · unfold f_X12_item
            simp (maxSteps := 3000000) (disch := omega) only [↓z2, ↓zmn, ↓zm, ↓nx_q, zb0_s, zb1_s, zb2_s, zb3_s, zb4_s, zb5_s, zb6_s, zb7_s, zb8_s, zb9_s, zb10_s, zb11_s, zb12_s, zb13_s, zb14_s, q_lit, nI_add, pk_mul, e_cl, gi_in, gz_n0, gz_n1, e_gz, si_eq, si_ne, sa_eq, sa_ne, if_true, if_false, ↓reduceIte, k_ltT, k_ltF, k_leT, k_leF, k_eqT, k_eqF, k_m1lt, k_nm1, not_true_eq_false, not_false_eq_true, a1, rw_ap, upd_rw, sa_sa, jn_l, jn_r, jn_4, jn_5, jn_6, jn_ul, jn_ur, jn_u4, jn_u5, jn_u6, m_badHere]
        · exact absurd hj1 (hno j hj)
      · rcases hr' with ⟨i, hi, rfl, hi1, hi2⟩ | ⟨rfl, -⟩
        · exact absurd hi1 (hno i hi)
        · generalize hT1 : ltN τ t a' (x' - a') (τ 2) 6 = τ1
          have t2 : τ1 2 = τ 2 := by rw [← hT1]; exact lt_out (by omega)
          have hlet : ∀ B : Ob → Int32 → Option ((Ob × Int32) ⊕ Ob), (∀ (o21 : Ob) (k22 : Int32), B o21 k22 = (
            if (6 : Int32) ≤ k22 then (
            some (.inr o21)
            ) else (
            if o21 16 0 ≤ k22 then (
            gi (((56 : Int32) + ((6 : Int32) * nI (τ 2))) + k22) 835 <|
            nx (sa o21 3 (upd (o21 3) (Int32.toNatClampNeg (((56 : Int32) + ((6 : Int32) * nI (τ 2))) + k22)) (0 : Int32))) fun o56 =>
            nx (k22 + (1 : Int32)) fun x57 =>
            some (.inl (o56, x57))
            ) else (
            gi k22 6 <|
            gi (((56 : Int32) + ((6 : Int32) * nI (τ 2))) + k22) 835 <|
            nx (sa o21 3 (upd (o21 3) (Int32.toNatClampNeg (((56 : Int32) + ((6 : Int32) * nI (τ 2))) + k22)) (o21 15 (Int32.toNatClampNeg k22)))) fun o60 =>
            nx (k22 + (1 : Int32)) fun x61 =>
            some (.inl (o60, x61))
            )
            )
            )) → zl2 B FU M2 (nI 0) = some (sa M2 3 (rw τ1)) := by
            intro B hB
            obtain ⟨M3, e3, f3, g3⟩ := m_letters (t := t) (a := a') hm3 hc w6 m16 m15 hB
            rw [e3]
            refine congrArg some (funext fun j => ?_)
            by_cases q : j = 3
            · subst q; rw [sa_eq, g3, hT1]
            · rw [sa_ne q]; exact f3 j q
          have hL : TS o2 (sa M2 3 (rw τ1)) t n a' x' k' := by
            refine TS_fr h2 rfl rfl rfl rfl rfl rfl ?_ ?_ ?_ ?_ ?_ ?_ ?_ ?_ <;> simp (disch := omega) only [si_eq, si_ne, sa_eq, sa_ne, upd_eq, upd_ne, updN_eq, updN_ne]
          have frL : FrL M (sa M2 3 (rw τ1)) := FrL_tr fr2 (fun j a b c d e f k l m n p => by simp (disch := omega) only [si_eq, si_ne, sa_eq, sa_ne, upd_eq, upd_ne, updN_eq, updN_ne])
          obtain ⟨o10, M10, a10, x10, k10, e10, n10, f10, g10, hx10, h10⟩ := adv_both hL
          have fr10 : FrL M M10 := FrL_tr frL (FrN_L g10)
          have t10 : M10 3 = rw τ1 := by rw [g10 3 (by decide) (by decide) (by decide) (by decide) (by decide) (by decide), sa_eq]
          have o10z : o10 2 0 = nI 0 := by rw [f10 2 (by omega), f1 2 (by omega)]; exact b2.1
          have hft : ∀ (o : Ob) (f : Nat), FtC o f 2 0 = nI f := fun o f => by unfold FtC; simp (disch := omega) only [si_eq, si_ne, sa_eq, sa_ne, upd_eq, upd_ne, updN_eq, updN_ne]
          rcases num_step h10 t10 (8 + τ 2) (lo := 1) (hi := 6) (by decide) (by decide) with ⟨v1, o12, M12, a12, x12, k12, va, vb, et, en, ev, en2, f12, fr12, t12, m13, m17, m18, hx12, h12⟩ | ⟨f, g1, g2, et, en⟩
          · have o12z : o12 2 0 = nI 0 := by rw [f12 2 (by omega)]; exact o10z
            rcases num_step h12 t12 (16 + τ 2) (lo := 1) (hi := 60) (by decide) (by decide) with ⟨v2, o14, M14, a14, x14, k14, vc, vd, et', en', ev', en2', f14, fr14, t14, m13', m17', m18', hx14, h14⟩ | ⟨f, g1, g2, et', en'⟩
            · have o14z : o14 2 0 = nI 0 := by rw [f14 2 (by omega)]; exact o12z
              have fr14' : FrL M M14 := FrL_tr fr10 (FrL_tr fr12 fr14)
              rcases num_both h14 (lo := 1) (hi := 20) (by decide) (by decide) with ⟨v3, o15, M15, a15, x15, k15, ve, vf, et'', en'', ev'', ea, -, f15, -, hx15, -⟩ | ⟨f, g1, g2, et'', en''⟩
              · have hit : updN (updN (updN (updN τ1 (8 + τ 2) v1) (16 + τ 2) v2) (24 + τ 2) v3) 2 (τ 2 + 1) = itN τ t a' (x' - a') v1 v2 v3 := by
                  unfold itN
                  rw [hT1]
                generalize hτ' : itN τ t a' (x' - a') v1 v2 v3 = τ' at hit
                have hF : TS o14 (sa M14 3 (rw τ')) t n a14 x14 k14 := by
                  refine TS_fr h14 rfl rfl rfl rfl rfl rfl ?_ ?_ ?_ ?_ ?_ ?_ ?_ ?_ <;> simp (disch := omega) only [si_eq, si_ne, sa_eq, sa_ne, upd_eq, upd_ne, updN_eq, updN_ne]
                obtain ⟨o16, M16, a16, x16, k16, e3, e4, f3, f4, hx4, h16⟩ := adv_both hF
                have eo : o16 = o15 := Option.some.inj (e3.symm.trans ea)
                subst eo
                have o16z : o16 2 0 = nI 0 := by rw [f3 2 (by omega)]; exact o14z
                have fo : ∀ j, j < 13 → o16 j = o j := fun j hj => by rw [f3 j (by omega), f14 j (by omega), f12 j (by omega), f10 j (by omega), f1 j (by omega)]
                have fm : ∀ j, j = 13 ∨ j = 17 ∨ j = 18 → M16 j = M j := fun j hj => by
                  have e1 : M16 j = M14 j := by rw [f4 j (by omega) (by omega) (by omega) (by omega) (by omega) (by omega), sa_ne (by omega)]
                  have e2 : M14 j = M12 j := by rcases hj with rfl | rfl | rfl <;> assumption
                  have e3 : M12 j = M10 j := by rcases hj with rfl | rfl | rfl <;> assumption
                  rw [e1, e2, e3, g10 j (by omega) (by omega) (by omega) (by omega) (by omega) (by omega), sa_ne (by omega), f2 j (by omega) (by omega) (by omega) (by omega) (by omega) (by omega)]
                have h3' : M16 3 = rw (itN τ t a' (x' - a') v1 v2 v3) := by rw [f4 3 (by decide) (by decide) (by decide) (by decide) (by decide) (by decide), sa_eq, hτ']
                have hDR := DR_it (o' := o16) (M' := M16) hD0 hc w1 w6 ws ⟨va, vb⟩ ⟨vc, vd⟩ ⟨ve, vf⟩ h3' (fo 4 (by decide)) (fo 5 (by decide)) (fo 6 (by decide)) (fo 7 (by decide)) (fo 2 (by decide)) (fm 17 (by omega)) (fm 18 (by omega)) (fm 13 (by omega))
                refine Or.inl ⟨o16, _, M16, _, a16, x16, k16, ?_, ?_, h16, hDR, ?_, ?_⟩
                · unfold f_X6_readItem
                  simp (maxSteps := 3000000) (disch := omega) only [↓z1, ↓zcn, ↓zc, ↓nx_q, zb0_s, zb1_s, zb2_s, zb3_s, zb4_s, zb5_s, zb6_s, zb7_s, zb8_s, zb9_s, zb10_s, zb11_s, zb12_s, zb13_s, zb14_s, q_lit, nI_add, pk_mul, e_cl, gi_in, gz_n0, gz_n1, e_gz, si_eq, si_ne, sa_eq, sa_ne, if_true, if_false, ↓reduceIte, k_ltT, k_ltF, k_leT, k_leF, k_eqT, k_eqF, k_m1lt, k_nm1, not_true_eq_false, not_false_eq_true, d0, e10, et, et', et'', o12z, o14z, o16z, e16]
                · unfold f_X12_item
                  simp (maxSteps := 3000000) (disch := omega) only [↓z2, ↓zmn, ↓zm, ↓nx_q, zb0_s, zb1_s, zb2_s, zb3_s, zb4_s, zb5_s, zb6_s, zb7_s, zb8_s, zb9_s, zb10_s, zb11_s, zb12_s, zb13_s, zb14_s, q_lit, nI_add, pk_mul, e_cl, gi_in, gz_n0, gz_n1, e_gz, si_eq, si_ne, sa_eq, sa_ne, if_true, if_false, ↓reduceIte, k_ltT, k_ltF, k_leT, k_leF, k_eqT, k_eqF, k_m1lt, k_nm1, not_true_eq_false, not_false_eq_true, a1, rw_ap, upd_rw, sa_sa, jn_l, jn_r, jn_4, jn_5, jn_6, jn_ul, jn_ur, jn_u4, jn_u5, jn_u6, hm3]
                  rw [zb1_of (hlet _ (fun o k => by simp (maxSteps := 3000000) (disch := omega) only [↓nx_q, zb0_s, zb1_s, zb2_s, zb3_s, zb4_s, zb5_s, zb6_s, zb7_s, zb8_s, zb9_s, zb10_s, zb11_s, zb12_s, zb13_s, zb14_s, q_lit, nI_add, pk_mul, e_cl, gi_in, gz_n0, gz_n1, e_gz, si_eq, si_ne, sa_eq, sa_ne, if_true, if_false, ↓reduceIte, k_ltT, k_ltF, k_leT, k_leF, k_eqT, k_eqF, k_m1lt, k_nm1, not_true_eq_false, not_false_eq_true]))]
                  simp (maxSteps := 3000000) (disch := omega) only [↓nx_q, zb0_s, zb1_s, zb2_s, zb3_s, zb4_s, zb5_s, zb6_s, zb7_s, zb8_s, zb9_s, zb10_s, zb11_s, zb12_s, zb13_s, zb14_s, q_lit, nI_add, pk_mul, e_cl, gi_in, gz_n0, gz_n1, e_gz, si_eq, si_ne, sa_eq, sa_ne, if_true, if_false, ↓reduceIte, k_ltT, k_ltF, k_leT, k_leF, k_eqT, k_eqF, k_m1lt, k_nm1, not_true_eq_false, not_false_eq_true, n10, en, ev, t10, rw_ap, upd_rw, sa_sa, jn_l, jn_r, jn_4, jn_5, jn_6, jn_ul, jn_ur, jn_u4, jn_u5, jn_u6, en2, en', ev', t12, en2', en'', ev'', t14, updN_ne, t2, hit, e4]
                · have := h2.2.2.1.1
                  have := h10.2.2.1.1
                  have := h12.2.2.1.1
                  have := h14.2.2.1.1
                  omega
                · exact FrL_tr fr14' (FrL_tr (M' := sa M14 3 (rw τ')) (fun j a b c d e f k l m n p => by simp (disch := omega) only [si_eq, si_ne, sa_eq, sa_ne, upd_eq, upd_ne, updN_eq, updN_ne]) (FrN_L f4))
              · have : ∃ d', f_X6_readItem o d = some (FtC o14 f, d', nI 0) := by
                  unfold f_X6_readItem
                  simp (maxSteps := 3000000) (disch := omega) only [↓z1, ↓zcn, ↓zc, ↓nx_q, zb0_s, zb1_s, zb2_s, zb3_s, zb4_s, zb5_s, zb6_s, zb7_s, zb8_s, zb9_s, zb10_s, zb11_s, zb12_s, zb13_s, zb14_s, q_lit, nI_add, pk_mul, e_cl, gi_in, gz_n0, gz_n1, e_gz, si_eq, si_ne, sa_eq, sa_ne, if_true, if_false, ↓reduceIte, k_ltT, k_ltF, k_leT, k_leF, k_eqT, k_eqF, k_m1lt, k_nm1, not_true_eq_false, not_false_eq_true, d0, e10, et, et', et'', o12z, o14z, hft]
                  exact ⟨_, rfl⟩
                obtain ⟨d', ed⟩ := this
                refine Or.inr ⟨FtC o14 f, d', FtM M14 f, ed, ?_, lft h14 ⟨g1, by omega⟩ fr14'⟩
                unfold f_X12_item
                simp (maxSteps := 3000000) (disch := omega) only [↓z2, ↓zmn, ↓zm, ↓nx_q, zb0_s, zb1_s, zb2_s, zb3_s, zb4_s, zb5_s, zb6_s, zb7_s, zb8_s, zb9_s, zb10_s, zb11_s, zb12_s, zb13_s, zb14_s, q_lit, nI_add, pk_mul, e_cl, gi_in, gz_n0, gz_n1, e_gz, si_eq, si_ne, sa_eq, sa_ne, if_true, if_false, ↓reduceIte, k_ltT, k_ltF, k_leT, k_leF, k_eqT, k_eqF, k_m1lt, k_nm1, not_true_eq_false, not_false_eq_true, a1, rw_ap, upd_rw, sa_sa, jn_l, jn_r, jn_4, jn_5, jn_6, jn_ul, jn_ur, jn_u4, jn_u5, jn_u6, hm3]
                rw [zb1_of (hlet _ (fun o k => by simp (maxSteps := 3000000) (disch := omega) only [↓nx_q, zb0_s, zb1_s, zb2_s, zb3_s, zb4_s, zb5_s, zb6_s, zb7_s, zb8_s, zb9_s, zb10_s, zb11_s, zb12_s, zb13_s, zb14_s, q_lit, nI_add, pk_mul, e_cl, gi_in, gz_n0, gz_n1, e_gz, si_eq, si_ne, sa_eq, sa_ne, if_true, if_false, ↓reduceIte, k_ltT, k_ltF, k_leT, k_leF, k_eqT, k_eqF, k_m1lt, k_nm1, not_true_eq_false, not_false_eq_true]))]
                simp (maxSteps := 3000000) (disch := omega) only [↓nx_q, zb0_s, zb1_s, zb2_s, zb3_s, zb4_s, zb5_s, zb6_s, zb7_s, zb8_s, zb9_s, zb10_s, zb11_s, zb12_s, zb13_s, zb14_s, q_lit, nI_add, pk_mul, e_cl, gi_in, gz_n0, gz_n1, e_gz, si_eq, si_ne, sa_eq, sa_ne, if_true, if_false, ↓reduceIte, k_ltT, k_ltF, k_leT, k_leF, k_eqT, k_eqF, k_m1lt, k_nm1, not_true_eq_false, not_false_eq_true, n10, en, ev, t10, rw_ap, upd_rw, sa_sa, jn_l, jn_r, jn_4, jn_5, jn_6, jn_ul, jn_ur, jn_u4, jn_u5, jn_u6, en2, en', ev', t12, en2', en'']
            · have : ∃ d', f_X6_readItem o d = some (FtC o12 f, d', nI 0) := by
                unfold f_X6_readItem
                simp (maxSteps := 3000000) (disch := omega) only [↓z1, ↓zcn, ↓zc, ↓nx_q, zb0_s, zb1_s, zb2_s, zb3_s, zb4_s, zb5_s, zb6_s, zb7_s, zb8_s, zb9_s, zb10_s, zb11_s, zb12_s, zb13_s, zb14_s, q_lit, nI_add, pk_mul, e_cl, gi_in, gz_n0, gz_n1, e_gz, si_eq, si_ne, sa_eq, sa_ne, if_true, if_false, ↓reduceIte, k_ltT, k_ltF, k_leT, k_leF, k_eqT, k_eqF, k_m1lt, k_nm1, not_true_eq_false, not_false_eq_true, d0, e10, et, et', o12z, hft]
                exact ⟨_, rfl⟩
              obtain ⟨d', ed⟩ := this
              refine Or.inr ⟨FtC o12 f, d', FtM M12 f, ed, ?_, lft h12 ⟨g1, by omega⟩ (FrL_tr fr10 fr12)⟩
              unfold f_X12_item
              simp (maxSteps := 3000000) (disch := omega) only [↓z2, ↓zmn, ↓zm, ↓nx_q, zb0_s, zb1_s, zb2_s, zb3_s, zb4_s, zb5_s, zb6_s, zb7_s, zb8_s, zb9_s, zb10_s, zb11_s, zb12_s, zb13_s, zb14_s, q_lit, nI_add, pk_mul, e_cl, gi_in, gz_n0, gz_n1, e_gz, si_eq, si_ne, sa_eq, sa_ne, if_true, if_false, ↓reduceIte, k_ltT, k_ltF, k_leT, k_leF, k_eqT, k_eqF, k_m1lt, k_nm1, not_true_eq_false, not_false_eq_true, a1, rw_ap, upd_rw, sa_sa, jn_l, jn_r, jn_4, jn_5, jn_6, jn_ul, jn_ur, jn_u4, jn_u5, jn_u6, hm3]
              rw [zb1_of (hlet _ (fun o k => by simp (maxSteps := 3000000) (disch := omega) only [↓nx_q, zb0_s, zb1_s, zb2_s, zb3_s, zb4_s, zb5_s, zb6_s, zb7_s, zb8_s, zb9_s, zb10_s, zb11_s, zb12_s, zb13_s, zb14_s, q_lit, nI_add, pk_mul, e_cl, gi_in, gz_n0, gz_n1, e_gz, si_eq, si_ne, sa_eq, sa_ne, if_true, if_false, ↓reduceIte, k_ltT, k_ltF, k_leT, k_leF, k_eqT, k_eqF, k_m1lt, k_nm1, not_true_eq_false, not_false_eq_true]))]
              simp (maxSteps := 3000000) (disch := omega) only [↓nx_q, zb0_s, zb1_s, zb2_s, zb3_s, zb4_s, zb5_s, zb6_s, zb7_s, zb8_s, zb9_s, zb10_s, zb11_s, zb12_s, zb13_s, zb14_s, q_lit, nI_add, pk_mul, e_cl, gi_in, gz_n0, gz_n1, e_gz, si_eq, si_ne, sa_eq, sa_ne, if_true, if_false, ↓reduceIte, k_ltT, k_ltF, k_leT, k_leF, k_eqT, k_eqF, k_m1lt, k_nm1, not_true_eq_false, not_false_eq_true, n10, en, ev, t10, rw_ap, upd_rw, sa_sa, jn_l, jn_r, jn_4, jn_5, jn_6, jn_ul, jn_ur, jn_u4, jn_u5, jn_u6, en2, en']
          · have : ∃ d', f_X6_readItem o d = some (FtC o10 f, d', nI 0) := by
              unfold f_X6_readItem
              simp (maxSteps := 3000000) (disch := omega) only [↓z1, ↓zcn, ↓zc, ↓nx_q, zb0_s, zb1_s, zb2_s, zb3_s, zb4_s, zb5_s, zb6_s, zb7_s, zb8_s, zb9_s, zb10_s, zb11_s, zb12_s, zb13_s, zb14_s, q_lit, nI_add, pk_mul, e_cl, gi_in, gz_n0, gz_n1, e_gz, si_eq, si_ne, sa_eq, sa_ne, if_true, if_false, ↓reduceIte, k_ltT, k_ltF, k_leT, k_leF, k_eqT, k_eqF, k_m1lt, k_nm1, not_true_eq_false, not_false_eq_true, d0, e10, et, hft]
              exact ⟨_, rfl⟩
            obtain ⟨d', ed⟩ := this
            refine Or.inr ⟨FtC o10 f, d', FtM M10 f, ed, ?_, lft h10 ⟨g1, by omega⟩ fr10⟩
            unfold f_X12_item
            simp (maxSteps := 3000000) (disch := omega) only [↓z2, ↓zmn, ↓zm, ↓nx_q, zb0_s, zb1_s, zb2_s, zb3_s, zb4_s, zb5_s, zb6_s, zb7_s, zb8_s, zb9_s, zb10_s, zb11_s, zb12_s, zb13_s, zb14_s, q_lit, nI_add, pk_mul, e_cl, gi_in, gz_n0, gz_n1, e_gz, si_eq, si_ne, sa_eq, sa_ne, if_true, if_false, ↓reduceIte, k_ltT, k_ltF, k_leT, k_leF, k_eqT, k_eqF, k_m1lt, k_nm1, not_true_eq_false, not_false_eq_true, a1, rw_ap, upd_rw, sa_sa, jn_l, jn_r, jn_4, jn_5, jn_6, jn_ul, jn_ur, jn_u4, jn_u5, jn_u6, hm3]
            rw [zb1_of (hlet _ (fun o k => by simp (maxSteps := 3000000) (disch := omega) only [↓nx_q, zb0_s, zb1_s, zb2_s, zb3_s, zb4_s, zb5_s, zb6_s, zb7_s, zb8_s, zb9_s, zb10_s, zb11_s, zb12_s, zb13_s, zb14_s, q_lit, nI_add, pk_mul, e_cl, gi_in, gz_n0, gz_n1, e_gz, si_eq, si_ne, sa_eq, sa_ne, if_true, if_false, ↓reduceIte, k_ltT, k_ltF, k_leT, k_leF, k_eqT, k_eqF, k_m1lt, k_nm1, not_true_eq_false, not_false_eq_true]))]
            simp (maxSteps := 3000000) (disch := omega) only [↓nx_q, zb0_s, zb1_s, zb2_s, zb3_s, zb4_s, zb5_s, zb6_s, zb7_s, zb8_s, zb9_s, zb10_s, zb11_s, zb12_s, zb13_s, zb14_s, q_lit, nI_add, pk_mul, e_cl, gi_in, gz_n0, gz_n1, e_gz, si_eq, si_ne, sa_eq, sa_ne, if_true, if_false, ↓reduceIte, k_ltT, k_ltF, k_leT, k_leF, k_eqT, k_eqF, k_m1lt, k_nm1, not_true_eq_false, not_false_eq_true, n10, en]
    · have cn := cn.2 qn
      have mn := mn.2 qn
      have zcn : ∀ {β : Type} {f : Int32 → Option β}, zb1 (f_X6_isName o2) f = f (nI 0) := fun {_ _} => zb1_of cn
      have zmn : ∀ {β : Type} {f : Int32 → Option β}, zb1 (f_X12_isName M2) f = f (nI 0) := fun {_ _} => zb1_of mn
      refine Or.inr ⟨FtC o2 1, d, FtM M2 1, ?_, ?_, lft h2 ⟨by decide, by decide⟩ fr2⟩
      · unfold f_X6_readItem
        simp (maxSteps := 3000000) (disch := omega) only [↓z1, ↓zcn, ↓nx_q, zb0_s, zb1_s, zb2_s, zb3_s, zb4_s, zb5_s, zb6_s, zb7_s, zb8_s, zb9_s, zb10_s, zb11_s, zb12_s, zb13_s, zb14_s, q_lit, nI_add, pk_mul, e_cl, gi_in, gz_n0, gz_n1, e_gz, si_eq, si_ne, sa_eq, sa_ne, if_true, if_false, ↓reduceIte, k_ltT, k_ltF, k_leT, k_leF, k_eqT, k_eqF, k_m1lt, k_nm1, not_true_eq_false, not_false_eq_true, d0, c_fail]
      · unfold f_X12_item
        simp (maxSteps := 3000000) (disch := omega) only [↓z2, ↓zmn, ↓nx_q, zb0_s, zb1_s, zb2_s, zb3_s, zb4_s, zb5_s, zb6_s, zb7_s, zb8_s, zb9_s, zb10_s, zb11_s, zb12_s, zb13_s, zb14_s, q_lit, nI_add, pk_mul, e_cl, gi_in, gz_n0, gz_n1, e_gz, si_eq, si_ne, sa_eq, sa_ne, if_true, if_false, ↓reduceIte, k_ltT, k_ltF, k_leT, k_leF, k_eqT, k_eqF, k_m1lt, k_nm1, not_true_eq_false, not_false_eq_true, a1, rw_ap, upd_rw, sa_sa, jn_l, jn_r, jn_4, jn_5, jn_6, jn_ul, jn_ur, jn_u4, jn_u5, jn_u6, m_badHere]
