set_option maxRecDepth 20000 in
theorem h_X12_isPlan_X12 : ∀ w ∈ wsX120, w ∈ wsX12_isPlan := by decide +kernel
set_option maxRecDepth 20000 in
theorem k_X12_isPlan_7 : ZF wsX12_isPlan RX12 7 12 0 RX12 TX12 47 := ⟨rfl, by decide, h_X12_isPlan_X12, by decide +kernel⟩
set_option maxRecDepth 20000 in
theorem k_X12_isPlan_278 : ZF wsX12_isPlan RX12 278 12 31 RX12 TX12 47 := ⟨rfl, by decide, h_X12_isPlan_X12, by decide +kernel⟩
set_option maxRecDepth 20000 in
theorem k_X12_isPlan_281 : ZF wsX12_isPlan RX12 281 12 33 RX12 TX12 47 := ⟨rfl, by decide, h_X12_isPlan_X12, by decide +kernel⟩
set_option maxHeartbeats 8000000 in
set_option maxRecDepth 100000 in
theorem c_X12_isPlan (l : Launch) (D : va_G) (cA : Nat → ClassId) (g : Nat → Nat) (sz : Nat) (h_t : Nat) (a_t : Nat → Nat) (o_t : Ob) (v1 : Int32) (v2 : Int32) (rv : Int32) (hF : f_X12_isPlan o_t v1 v2 = some rv) : Met l yX12_isPlan wsX12_isPlan ({ frames := 2, cells := 0, slots := 0, locals := 44 }) (va_Pc [.ref h_t, .int v1, .int v2] (PreW D cA g sz (w_X12_four cA h_t a_t o_t))) (va_Qi (fun (r : Int32) (_ : Unit) => r = rv) (PostW D cA sz (w_X12_four cA h_t a_t o_t) (w_X12_four cA h_t a_t o_t)) (va_A (w_X12_four cA h_t a_t o_t) sz)) 0 0 (va_A (w_X12_four cA h_t a_t o_t) sz) := by
  refine z_start (cc := cX12_isPlan) (maxL := 4) (ret := (some .boolean)) (lv0 := [(0, .ref h_t), (1, .int v1), (2, .int v2)]) (Qc := fun sz => va_Qi (fun (r : Int32) (_ : Unit) => r = rv) (PostW D cA sz (w_X12_four cA h_t a_t o_t) (w_X12_four cA h_t a_t o_t)) (va_A (w_X12_four cA h_t a_t o_t) sz)) (free := fun sz => va_A (w_X12_four cA h_t a_t o_t) sz) (by decide +kernel) rfl rfl (Nat.le_of_ble_eq_true rfl) ?_
  intro p e R s m args below meth c A Q hR hA hQ X hr hin
  unfold f_X12_isPlan at hF
  refine z_aload_n X dX12_isPlan_0 rfl 0 rfl ?_
  refine z_get (v := .ref (a_t 0)) X k_X12_isPlan_7 0 rfl rfl dX12_isPlan_1 ?_
  refine z_bipush (v := (104 : Int32)) X dX12_isPlan_4 (by decide) ?_
  refine z_iload_n X dX12_isPlan_6 rfl 1 rfl ?_
  refine z_iadd X dX12_isPlan_7 ?_
  obtain ⟨g1, hF⟩ := gi_e hF
  refine z_iald X 1 rfl g1 dX12_isPlan_8 ?_
  obtain ⟨x2, ex2, hF⟩ := nx_e hF
  refine z_nm ex2 ?_
  refine z_istore_n (lv' := [(3, .int x2), (0, .ref h_t), (1, .int v1), (2, .int v2)]) X dX12_isPlan_9 rfl (by decide) rfl ?_
  refine z_aload_n X dX12_isPlan_10 rfl 1 rfl ?_
  refine z_iload_n X dX12_isPlan_11 rfl 3 rfl ?_
  obtain ⟨r3, hc4, hF⟩ := zb1_e hF
  refine z_Vi (As := [.int v2]) (rest := []) (wc := (w_X12_four cA h_t a_t o_t)) (wc' := (w_X12_four cA h_t a_t o_t)) (ws' := (w_X12_four cA h_t a_t o_t)) (rv := r3) X (cwV 1 X.2.2.2.2.1 gX12_isPlan_X12_sizeOf rfl rfl rfl (by decide +kernel) (by rw [hR]; exact ⟨Nat.le_of_ble_eq_true rfl, Nat.le_of_ble_eq_true rfl⟩)) (fun sz => c_X12_sizeOf l D cA g sz h_t a_t o_t v2 r3 hc4) [0, 1, 2, 3, 4, 5, 6, 7, 8, 9, 10, 11, 12, 13, 14, 15, 16, 17, 18, 19, 20, 21] [1000, 1001, 1002, 1003, 1004, 1005, 1006, 1007, 1008, 1009, 1010, 1011, 1012, 1013, 1014, 1015, 1016, 1017, 1018, 1019, 1020, 1021] rfl (by decide) rfl (by decide) rfl rfl rfl rfl rfl rfl (Nat.le_of_ble_eq_true rfl) dX12_isPlan_12 ⟨Nat.zero_le _, Nat.zero_le _⟩ ?_
  refine z_aload_n X dX12_isPlan_15 rfl 1 rfl ?_
  refine z_get (v := .int (o_t 31 0)) X k_X12_isPlan_278 0 rfl rfl dX12_isPlan_16 ?_
  have hF := if_e hF
  refine z_icmp_gt (tgt := 35) X dX12_isPlan_19 (by decide) (fun c13 => ?_) (fun c13 => ?_)
  · have hF := hF.1 c13
    refine z_iconst (v := (0 : Int32)) X dX12_isPlan_35 (by decide) ?_
    cases hF
    exact z_zret X hA hQ hr (Or.inl rfl)  rfl dX12_isPlan_36 (Nat.le_refl _) (Nat.le_refl _)
  · have hF := hF.2 c13
    refine z_iload_n X dX12_isPlan_22 rfl 3 rfl ?_
    refine z_aload_n X dX12_isPlan_23 rfl 1 rfl ?_
    refine z_get (v := .int (o_t 33 0)) X k_X12_isPlan_281 0 rfl rfl dX12_isPlan_24 ?_
    refine z_iand X dX12_isPlan_27 ?_
    refine z_aload_n X dX12_isPlan_28 rfl 1 rfl ?_
    refine z_get (v := .int (o_t 33 0)) X k_X12_isPlan_281 0 rfl rfl dX12_isPlan_29 ?_
    have hF := if_e hF
    refine z_icmp_eq (tgt := 37) X dX12_isPlan_32 (by decide) (fun c12 => ?_) (fun c12 => ?_)
    · have hF := hF.1 c12
      refine z_iload_n X dX12_isPlan_37 rfl 3 rfl ?_
      refine z_iload_n X dX12_isPlan_38 rfl 0 rfl ?_
      obtain ⟨r5, hc6, hF⟩ := zb1_e hF
      refine z_Si (As := [.int v2, .int x2]) (rest := []) (wc := ([] : va_W)) (wc' := ([] : va_W)) (ws' := (w_X12_four cA h_t a_t o_t)) (rv := r5) X (va_cwS 2 X.2.2.2.2.1 gX12_isPlan_X12_bitOf rfl rfl rfl (by decide +kernel) (by rw [hR]; exact ⟨Nat.le_of_ble_eq_true rfl, Nat.le_of_ble_eq_true rfl⟩)) (fun sz => c_X12_bitOf l D cA g sz v2 x2 r5 hc6) [] [0, 1, 2, 3, 4, 5, 6, 7, 8, 9, 10, 11, 12, 13, 14, 15, 16, 17, 18, 19, 20, 21] rfl (by decide) rfl (by decide) rfl rfl rfl (Nat.le_of_ble_eq_true rfl) dX12_isPlan_39 ⟨Nat.zero_le _, Nat.zero_le _⟩ ?_
      have hF := if_e hF
      refine z_if_ne (tgt := 70) X dX12_isPlan_42 (by decide) (fun c11 => ?_) (fun c11 => ?_)
      · have hF := hF.2 c11
        refine z_iconst (v := (1 : Int32)) X dX12_isPlan_70 (by decide) ?_
        refine z_goto (tgt := 75) X dX12_isPlan_71 (by decide) ?_
        cases hF
        exact z_zret X hA hQ hr (Or.inr rfl)  rfl dX12_isPlan_75 (Nat.le_refl _) (Nat.le_refl _)
      · have hF := hF.1 c11
        refine z_aload_n X dX12_isPlan_45 rfl 1 rfl ?_
        refine z_get (v := .ref (a_t 0)) X k_X12_isPlan_7 0 rfl rfl dX12_isPlan_46 ?_
        refine z_iconst (v := (1 : Int32)) X dX12_isPlan_49 (by decide) ?_
        obtain ⟨g7, hF⟩ := gi_e hF
        refine z_iald X 1 rfl g7 dX12_isPlan_50 ?_
        have hF := if_e hF
        refine z_if_gt (tgt := 70) X dX12_isPlan_51 (by decide) (fun c10 => ?_) (fun c10 => ?_)
        · have hF := hF.1 c10
          refine z_iconst (v := (1 : Int32)) X dX12_isPlan_70 (by decide) ?_
          refine z_goto (tgt := 75) X dX12_isPlan_71 (by decide) ?_
          cases hF
          exact z_zret X hA hQ hr (Or.inr rfl)  rfl dX12_isPlan_75 (Nat.le_refl _) (Nat.le_refl _)
        · have hF := hF.2 c10
          refine z_aload_n X dX12_isPlan_54 rfl 1 rfl ?_
          refine z_get (v := .ref (a_t 0)) X k_X12_isPlan_7 0 rfl rfl dX12_isPlan_55 ?_
          refine z_bipush (v := (8 : Int32)) X dX12_isPlan_58 (by decide) ?_
          refine z_iload_n X dX12_isPlan_60 rfl 0 rfl ?_
          refine z_iadd X dX12_isPlan_61 ?_
          obtain ⟨g8, hF⟩ := gi_e hF
          refine z_iald X 1 rfl g8 dX12_isPlan_62 ?_
          refine z_aload_n X dX12_isPlan_63 rfl 1 rfl ?_
          refine z_get (v := .int (o_t 31 0)) X k_X12_isPlan_278 0 rfl rfl dX12_isPlan_64 ?_
          have hF := if_e hF
          refine z_icmp_le (tgt := 74) X dX12_isPlan_67 (by decide) (fun c9 => ?_) (fun c9 => ?_)
          · have hF := hF.1 c9
            refine z_iconst (v := (0 : Int32)) X dX12_isPlan_74 (by decide) ?_
            cases hF
            exact z_zret X hA hQ hr (Or.inl rfl)  rfl dX12_isPlan_75 (Nat.le_refl _) (Nat.le_refl _)
          · have hF := hF.2 c9
            refine z_iconst (v := (1 : Int32)) X dX12_isPlan_70 (by decide) ?_
            refine z_goto (tgt := 75) X dX12_isPlan_71 (by decide) ?_
            cases hF
            exact z_zret X hA hQ hr (Or.inr rfl)  rfl dX12_isPlan_75 (Nat.le_refl _) (Nat.le_refl _)
    · have hF := hF.2 c12
      refine z_iconst (v := (0 : Int32)) X dX12_isPlan_35 (by decide) ?_
      cases hF
      exact z_zret X hA hQ hr (Or.inl rfl)  rfl dX12_isPlan_36 (Nat.le_refl _) (Nat.le_refl _)
set_option maxRecDepth 20000 in
theorem h_X12_rentAt_X12 : ∀ w ∈ wsX120, w ∈ wsX12_rentAt := by decide +kernel
set_option maxRecDepth 20000 in
theorem k_X12_rentAt_7 : ZF wsX12_rentAt RX12 7 12 0 RX12 TX12 47 := ⟨rfl, by decide, h_X12_rentAt_X12, by decide +kernel⟩
set_option maxHeartbeats 8000000 in
set_option maxRecDepth 100000 in
theorem c_X12_rentAt (l : Launch) (D : va_G) (cA : Nat → ClassId) (g : Nat → Nat) (sz : Nat) (h_t : Nat) (a_t : Nat → Nat) (o_t : Ob) (v1 : Int32) (v2 : Int32) (rv : Int32) (hF : f_X12_rentAt o_t v1 v2 = some rv) : Met l yX12_rentAt wsX12_rentAt ({ frames := 1, cells := 0, slots := 0, locals := 21 }) (va_Pc [.ref h_t, .int v1, .int v2] (PreW D cA g sz (w_X12_four cA h_t a_t o_t))) (va_Qi (fun (r : Int32) (_ : Unit) => r = rv) (PostW D cA sz (w_X12_four cA h_t a_t o_t) (w_X12_four cA h_t a_t o_t)) (va_A (w_X12_four cA h_t a_t o_t) sz)) 0 0 (va_A (w_X12_four cA h_t a_t o_t) sz) := by
  refine z_start (cc := cX12_rentAt) (maxL := 3) (ret := (some .int)) (lv0 := [(0, .ref h_t), (1, .int v1), (2, .int v2)]) (Qc := fun sz => va_Qi (fun (r : Int32) (_ : Unit) => r = rv) (PostW D cA sz (w_X12_four cA h_t a_t o_t) (w_X12_four cA h_t a_t o_t)) (va_A (w_X12_four cA h_t a_t o_t) sz)) (free := fun sz => va_A (w_X12_four cA h_t a_t o_t) sz) (by decide +kernel) rfl rfl (Nat.le_of_ble_eq_true rfl) ?_
  intro p e R s m args below meth c A Q hR hA hQ X hr hin
  unfold f_X12_rentAt at hF
  refine z_iload_n X dX12_rentAt_0 rfl 2 rfl ?_
  refine z_aload_n X dX12_rentAt_1 rfl 0 rfl ?_
  refine z_get (v := .ref (a_t 0)) X k_X12_rentAt_7 0 rfl rfl dX12_rentAt_2 ?_
  refine z_bipush (v := (104 : Int32)) X dX12_rentAt_5 (by decide) ?_
  refine z_iload_n X dX12_rentAt_7 rfl 1 rfl ?_
  refine z_iadd X dX12_rentAt_8 ?_
  obtain ⟨g1, hF⟩ := gi_e hF
  refine z_iald X 1 rfl g1 dX12_rentAt_9 ?_
  obtain ⟨r2, hc3, hF⟩ := zb1_e hF
  refine z_Si (As := [.int v2, .int (o_t 0 (Int32.toNatClampNeg ((104 : Int32) + v1)))]) (rest := []) (wc := ([] : va_W)) (wc' := ([] : va_W)) (ws' := (w_X12_four cA h_t a_t o_t)) (rv := r2) X (va_cwS 2 X.2.2.2.2.1 gX12_rentAt_X12_bitOf rfl rfl rfl (by decide +kernel) (by rw [hR]; exact ⟨Nat.le_of_ble_eq_true rfl, Nat.le_of_ble_eq_true rfl⟩)) (fun sz => c_X12_bitOf l D cA g sz v2 (o_t 0 (Int32.toNatClampNeg ((104 : Int32) + v1))) r2 hc3) [] [0, 1, 2, 3, 4, 5, 6, 7, 8, 9, 10, 11, 12, 13, 14, 15, 16, 17, 18, 19, 20, 21] rfl (by decide) rfl (by decide) rfl rfl rfl (Nat.le_of_ble_eq_true rfl) dX12_rentAt_10 ⟨Nat.zero_le _, Nat.zero_le _⟩ ?_
  have hF := if_e hF
  refine z_if_eq (tgt := 20) X dX12_rentAt_13 (by decide) (fun c6 => ?_) (fun c6 => ?_)
  · have hF := hF.1 c6
    refine z_aload_n X dX12_rentAt_20 rfl 0 rfl ?_
    refine z_get (v := .ref (a_t 0)) X k_X12_rentAt_7 0 rfl rfl dX12_rentAt_21 ?_
    refine z_bipush (v := (24 : Int32)) X dX12_rentAt_24 (by decide) ?_
    refine z_aload_n X dX12_rentAt_26 rfl 0 rfl ?_
    refine z_get (v := .ref (a_t 0)) X k_X12_rentAt_7 0 rfl rfl dX12_rentAt_27 ?_
    refine z_bipush (v := (104 : Int32)) X dX12_rentAt_30 (by decide) ?_
    refine z_iload_n X dX12_rentAt_32 rfl 1 rfl ?_
    refine z_iadd X dX12_rentAt_33 ?_
    obtain ⟨g4, hF⟩ := gi_e hF
    refine z_iald X 1 rfl g4 dX12_rentAt_34 ?_
    refine z_iadd X dX12_rentAt_35 ?_
    obtain ⟨g5, hF⟩ := gi_e hF
    refine z_iald X 1 rfl g5 dX12_rentAt_36 ?_
    cases hF
    exact z_iret X hA hQ hr rfl dX12_rentAt_37 (Nat.le_refl _) (Nat.le_refl _)
  · have hF := hF.2 c6
    refine z_iconst (v := (0 : Int32)) X dX12_rentAt_16 (by decide) ?_
    refine z_goto (tgt := 37) X dX12_rentAt_17 (by decide) ?_
    cases hF
    exact z_iret X hA hQ hr rfl dX12_rentAt_37 (Nat.le_refl _) (Nat.le_refl _)
set_option maxRecDepth 20000 in
theorem h_X12_paidAhead_X12 : ∀ w ∈ wsX120, w ∈ wsX12_paidAhead := by decide +kernel
set_option maxRecDepth 20000 in
theorem k_X12_paidAhead_48 : ZF wsX12_paidAhead RX12 48 12 28 RX12 TX12 47 := ⟨rfl, by decide, h_X12_paidAhead_X12, by decide +kernel⟩
set_option maxRecDepth 20000 in
theorem k_X12_paidAhead_c284 : Cond.constant RX12 284 (100000000) ∈ wsX12_paidAhead := by decide +kernel
set_option maxHeartbeats 8000000 in
set_option maxRecDepth 100000 in
theorem c_X12_paidAhead (l : Launch) (D : va_G) (cA : Nat → ClassId) (g : Nat → Nat) (sz : Nat) (h_t : Nat) (a_t : Nat → Nat) (o_t : Ob) (v1 : Int32) (v2 : Int32) (rv : Int32) (hF : f_X12_paidAhead o_t v1 v2 = some rv) : Met l yX12_paidAhead wsX12_paidAhead ({ frames := 0, cells := 0, slots := 0, locals := 0 }) (va_Pc [.ref h_t, .int v1, .int v2] (PreW D cA g sz (w_X12_four cA h_t a_t o_t))) (va_Qi (fun (r : Int32) (_ : Unit) => r = rv) (PostW D cA sz (w_X12_four cA h_t a_t o_t) (w_X12_four cA h_t a_t o_t)) (va_A (w_X12_four cA h_t a_t o_t) sz)) 0 0 (va_A (w_X12_four cA h_t a_t o_t) sz) := by
  refine z_start (cc := cX12_paidAhead) (maxL := 3) (ret := (some .int)) (lv0 := [(0, .ref h_t), (1, .int v1), (2, .int v2)]) (Qc := fun sz => va_Qi (fun (r : Int32) (_ : Unit) => r = rv) (PostW D cA sz (w_X12_four cA h_t a_t o_t) (w_X12_four cA h_t a_t o_t)) (va_A (w_X12_four cA h_t a_t o_t) sz)) (free := fun sz => va_A (w_X12_four cA h_t a_t o_t) sz) (by decide +kernel) rfl rfl (Nat.le_of_ble_eq_true rfl) ?_
  intro p e R s m args below meth c A Q hR hA hQ X hr hin
  unfold f_X12_paidAhead at hF
  refine z_iload_n X dX12_paidAhead_0 rfl 1 rfl ?_
  have hF := if_e hF
  refine z_if_ne (tgt := 18) X dX12_paidAhead_1 (by decide) (fun c3 => ?_) (fun c3 => ?_)
  · have hF := hF.2 c3
    refine z_aload_n X dX12_paidAhead_18 rfl 0 rfl ?_
    refine z_get (v := .ref (a_t 28)) X k_X12_paidAhead_48 0 rfl rfl dX12_paidAhead_19 ?_
    refine z_sipush (v := (256 : Int32)) X dX12_paidAhead_22 (by decide) ?_
    refine z_iload_n X dX12_paidAhead_25 rfl 1 rfl ?_
    refine z_iconst (v := (1 : Int32)) X dX12_paidAhead_26 (by decide) ?_
    refine z_isub X dX12_paidAhead_27 ?_
    refine z_imul X dX12_paidAhead_28 ?_
    refine z_iload_n X dX12_paidAhead_29 rfl 2 rfl ?_
    refine z_iadd X dX12_paidAhead_30 ?_
    obtain ⟨g1, hF⟩ := gi_e hF
    refine z_iald X 13 rfl g1 dX12_paidAhead_31 ?_
    cases hF
    exact z_iret X hA hQ hr rfl dX12_paidAhead_32 (Nat.le_refl _) (Nat.le_refl _)
  · have hF := hF.1 c3
    refine z_iload_n X dX12_paidAhead_4 rfl 2 rfl ?_
    have hF := if_e hF
    refine z_if_ne (tgt := 12) X dX12_paidAhead_5 (by decide) (fun c2 => ?_) (fun c2 => ?_)
    · have hF := hF.2 c2
      refine z_ldcw X k_X12_paidAhead_c284 dX12_paidAhead_12 ?_
      refine z_goto (tgt := 32) X dX12_paidAhead_15 (by decide) ?_
      cases hF
      exact z_iret X hA hQ hr rfl dX12_paidAhead_32 (Nat.le_refl _) (Nat.le_refl _)
    · have hF := hF.1 c2
      refine z_iconst (v := (0 : Int32)) X dX12_paidAhead_8 (by decide) ?_
      refine z_goto (tgt := 32) X dX12_paidAhead_9 (by decide) ?_
      cases hF
      exact z_iret X hA hQ hr rfl dX12_paidAhead_32 (Nat.le_refl _) (Nat.le_refl _)
set_option maxRecDepth 20000 in
theorem h_X12_bestAt_X12 : ∀ w ∈ wsX120, w ∈ wsX12_bestAt := by decide +kernel
set_option maxRecDepth 20000 in
theorem k_X12_bestAt_7 : ZF wsX12_bestAt RX12 7 12 0 RX12 TX12 47 := ⟨rfl, by decide, h_X12_bestAt_X12, by decide +kernel⟩
set_option maxRecDepth 20000 in
theorem k_X12_bestAt_54 : ZF wsX12_bestAt RX12 54 12 30 RX12 TX12 47 := ⟨rfl, by decide, h_X12_bestAt_X12, by decide +kernel⟩
set_option maxRecDepth 20000 in
theorem k_X12_bestAt_c284 : Cond.constant RX12 284 (100000000) ∈ wsX12_bestAt := by decide +kernel
set_option maxHeartbeats 8000000 in
set_option maxRecDepth 100000 in
theorem c_X12_bestAt (l : Launch) (D : va_G) (cA : Nat → ClassId) (g : Nat → Nat) (sz : Nat) (h_t : Nat) (a_t : Nat → Nat) (o_t : Ob) (v1 : Int32) (v2 : Int32) (rv : Int32) (hF : f_X12_bestAt o_t v1 v2 = some rv) : Met l yX12_bestAt wsX12_bestAt ({ frames := 2, cells := 0, slots := 0, locals := 43 }) (va_Pc [.ref h_t, .int v1, .int v2] (PreW D cA g sz (w_X12_four cA h_t a_t o_t))) (va_Qi (fun (r : Int32) (_ : Unit) => r = rv) (PostW D cA sz (w_X12_four cA h_t a_t o_t) (w_X12_four cA h_t a_t o_t)) (va_A (w_X12_four cA h_t a_t o_t) sz)) 0 0 (va_A (w_X12_four cA h_t a_t o_t) sz) := by
  refine z_start (cc := cX12_bestAt) (maxL := 7) (ret := (some .int)) (lv0 := [(0, .ref h_t), (1, .int v1), (2, .int v2)]) (Qc := fun sz => va_Qi (fun (r : Int32) (_ : Unit) => r = rv) (PostW D cA sz (w_X12_four cA h_t a_t o_t) (w_X12_four cA h_t a_t o_t)) (va_A (w_X12_four cA h_t a_t o_t) sz)) (free := fun sz => va_A (w_X12_four cA h_t a_t o_t) sz) (by decide +kernel) rfl rfl (Nat.le_of_ble_eq_true rfl) ?_
  intro p e R s m args below meth c A Q hR hA hQ X hr hin
  unfold f_X12_bestAt at hF
  refine z_ldcw X k_X12_bestAt_c284 dX12_bestAt_0 ?_
  obtain ⟨x1, ex1, hF⟩ := nx_e hF
  refine z_nm ex1 ?_
  refine z_istore_n (lv' := [(3, .int x1), (0, .ref h_t), (1, .int v1), (2, .int v2)]) X dX12_bestAt_3 rfl (by decide) rfl ?_
  refine z_iconst (v := (0 : Int32)) X dX12_bestAt_4 (by decide) ?_
  refine z_istore (lv' := [(4, .int (0 : Int32)), (3, .int x1), (0, .ref h_t), (1, .int v1), (2, .int v2)]) X dX12_bestAt_5 (by decide) rfl ?_
  obtain ⟨k23, hL, hF⟩ := zb1_e hF
  have L27_x : ∀ (k23' : Int32), k23' = k23 → ZW p l e R s m args below meth c D A 7 0 0 Q (w_X12_four cA h_t a_t o_t) [(0, .ref h_t), (1, .int v1), (2, .int v2), (3, .int k23')] 83 [] := by
    intro k23' hz
    cases hz
    refine z_iload_n X dX12_bestAt_83 rfl 3 rfl ?_
    refine z_ldcw X k_X12_bestAt_c284 dX12_bestAt_84 ?_
    have hF := if_e hF
    refine z_icmp_lt (tgt := 96) X dX12_bestAt_87 (by decide) (fun c26 => ?_) (fun c26 => ?_)
    · have hF := hF.1 c26
      refine z_iload_n X dX12_bestAt_96 rfl 3 rfl ?_
      refine z_aload_n X dX12_bestAt_97 rfl 0 rfl ?_
      refine z_iload_n X dX12_bestAt_98 rfl 1 rfl ?_
      refine z_iload_n X dX12_bestAt_99 rfl 2 rfl ?_
      obtain ⟨r24, hc25, hF⟩ := zb1_e hF
      refine z_Vi (As := [.int v1, .int v2]) (rest := [.int k23]) (wc := (w_X12_four cA h_t a_t o_t)) (wc' := (w_X12_four cA h_t a_t o_t)) (ws' := (w_X12_four cA h_t a_t o_t)) (rv := r24) X (cwV 2 X.2.2.2.2.1 gX12_bestAt_X12_rentAt rfl rfl rfl (by decide +kernel) (by rw [hR]; exact ⟨Nat.le_of_ble_eq_true rfl, Nat.le_of_ble_eq_true rfl⟩)) (fun sz => c_X12_rentAt l D cA g sz h_t a_t o_t v1 v2 r24 hc25) [0, 1, 2, 3, 4, 5, 6, 7, 8, 9, 10, 11, 12, 13, 14, 15, 16, 17, 18, 19, 20, 21] [1000, 1001, 1002, 1003, 1004, 1005, 1006, 1007, 1008, 1009, 1010, 1011, 1012, 1013, 1014, 1015, 1016, 1017, 1018, 1019, 1020, 1021] rfl (by decide) rfl (by decide) rfl rfl rfl rfl rfl rfl (Nat.le_of_ble_eq_true rfl) dX12_bestAt_100 ⟨Nat.zero_le _, Nat.zero_le _⟩ ?_
      refine z_iadd X dX12_bestAt_103 ?_
      cases hF
      exact z_iret X hA hQ hr rfl dX12_bestAt_104 (Nat.le_refl _) (Nat.le_refl _)
    · have hF := hF.2 c26
      refine z_ldcw X k_X12_bestAt_c284 dX12_bestAt_90 ?_
      refine z_goto (tgt := 104) X dX12_bestAt_93 (by decide) ?_
      cases hF
      exact z_iret X hA hQ hr rfl dX12_bestAt_104 (Nat.le_refl _) (Nat.le_refl _)
  obtain ⟨B45, hBB45, hL⟩ := zl2_b hL
  have L27 : ∀ (n : Nat) (k21 : Int32) (k22 : Int32), zl2 B45 n k21 k22 = some k23 → ZW p l e R s m args below meth c D A 7 0 0 Q (w_X12_four cA h_t a_t o_t) [(0, .ref h_t), (1, .int v1), (2, .int v2), (3, .int k21), (4, .int k22)] 7 [] := by
    intro n
    induction n with
    | zero => intro k21 k22 hL; cases hL
    | succ n ih =>
      intro k21 k22 hL
      obtain ⟨zz28, hF, hL⟩ := zl2_e hL
      rw [hBB45] at hF
      refine z_iload X dX12_bestAt_7 4 rfl ?_
      refine z_iload_n X dX12_bestAt_9 rfl 1 rfl ?_
      obtain ⟨K32, eK32, hF⟩ := nx_e hF
      have K32_l : ∀ (j31 : Int32), K32 j31 = some zz28 → ZW p l e R s m args below meth c D A 7 0 0 Q (w_X12_four cA h_t a_t o_t) [(0, .ref h_t), (1, .int v1), (2, .int v2), (3, .int k21), (4, .int k22)] 25 [.int j31, .int k22] := by
        intro j31 hF
        rw [eK32] at hF
        have hF := if_e hF
        refine z_icmp_ge (tgt := 83) X dX12_bestAt_25 (by decide) (fun c42 => ?_) (fun c42 => ?_)
        · have hF := hF.1 c42
          cases hF
          have hL := Option.some.inj hL
          refine z_lv (lv' := [(0, .ref h_t), (1, .int v1), (2, .int v2), (3, .int k21)]) [0, 1, 2, 3] rfl ?_
          exact L27_x k21 hL
        · have hF := hF.2 c42
          refine z_aload_n X dX12_bestAt_28 rfl 0 rfl ?_
          refine z_iload_n X dX12_bestAt_29 rfl 1 rfl ?_
          refine z_iload X dX12_bestAt_30 4 rfl ?_
          obtain ⟨r33, hc34, hF⟩ := zb1_e hF
          refine z_Vi (As := [.int v1, .int k22]) (rest := []) (wc := (w_X12_four cA h_t a_t o_t)) (wc' := (w_X12_four cA h_t a_t o_t)) (ws' := (w_X12_four cA h_t a_t o_t)) (rv := r33) X (cwV 2 X.2.2.2.2.1 gX12_bestAt_X12_paidAhead rfl rfl rfl (by decide +kernel) (by rw [hR]; exact ⟨Nat.le_of_ble_eq_true rfl, Nat.le_of_ble_eq_true rfl⟩)) (fun sz => c_X12_paidAhead l D cA g sz h_t a_t o_t v1 k22 r33 hc34) [0, 1, 2, 3, 4, 5, 6, 7, 8, 9, 10, 11, 12, 13, 14, 15, 16, 17, 18, 19, 20, 21] [1000, 1001, 1002, 1003, 1004, 1005, 1006, 1007, 1008, 1009, 1010, 1011, 1012, 1013, 1014, 1015, 1016, 1017, 1018, 1019, 1020, 1021] rfl (by decide) rfl (by decide) rfl rfl rfl rfl rfl rfl (Nat.le_of_ble_eq_true rfl) dX12_bestAt_32 ⟨Nat.zero_le _, Nat.zero_le _⟩ ?_
          refine z_istore (lv' := [(5, .int r33), (0, .ref h_t), (1, .int v1), (2, .int v2), (3, .int k21), (4, .int k22)]) X dX12_bestAt_35 (by decide) rfl ?_
          refine z_iload X dX12_bestAt_37 0 rfl ?_
          refine z_ldcw X k_X12_bestAt_c284 dX12_bestAt_39 ?_
          have hF := if_e hF
          refine z_icmp_lt (tgt := 48) X dX12_bestAt_42 (by decide) (fun c41 => ?_) (fun c41 => ?_)
          · have hF := hF.1 c41
            refine z_iload X dX12_bestAt_48 0 rfl ?_
            refine z_aload_n X dX12_bestAt_50 rfl 1 rfl ?_
            refine z_get (v := .ref (a_t 30)) X k_X12_bestAt_54 0 rfl rfl dX12_bestAt_51 ?_
            refine z_iload_n X dX12_bestAt_54 rfl 3 rfl ?_
            refine z_iload X dX12_bestAt_55 5 rfl ?_
            refine z_iconst (v := (-1 : Int32)) X dX12_bestAt_57 (by decide) ?_
            refine z_ixor X dX12_bestAt_58 ?_
            refine z_iand X dX12_bestAt_59 ?_
            obtain ⟨g35, hF⟩ := gi_e hF
            refine z_iald X 15 rfl g35 dX12_bestAt_60 ?_
            refine z_iadd X dX12_bestAt_61 ?_
            obtain ⟨x36, ex36, hF⟩ := nx_e hF
            refine z_nm ex36 ?_
            refine z_istore (lv' := [(6, .int x36), (5, .int r33), (0, .ref h_t), (1, .int v1), (2, .int v2), (3, .int k21), (4, .int k22)]) X dX12_bestAt_62 (by decide) rfl ?_
            refine z_iload X dX12_bestAt_64 0 rfl ?_
            refine z_iload_n X dX12_bestAt_66 rfl 5 rfl ?_
            have hF := if_e hF
            refine z_icmp_ge (tgt := 75) X dX12_bestAt_67 (by decide) (fun c39 => ?_) (fun c39 => ?_)
            · have hF := hF.1 c39
              refine z_iload_n X dX12_bestAt_75 rfl 5 rfl ?_
              refine z_istore_n (lv' := [(3, .int k21), (6, .int x36), (5, .int r33), (0, .ref h_t), (1, .int v1), (2, .int v2), (4, .int k22)]) X dX12_bestAt_76 rfl (by decide) rfl ?_
              obtain ⟨x37, ex37, hF⟩ := nx_e hF
              refine z_iinc (v := x37) (lv' := [(4, .int x37), (3, .int k21), (6, .int x36), (5, .int r33), (0, .ref h_t), (1, .int v1), (2, .int v2)]) (j := 6) X dX12_bestAt_77 rfl (by rw [ex37]; rfl) (by decide) rfl ?_
              refine z_goto (tgt := 7) X dX12_bestAt_80 (by decide) ?_
              cases hF
              refine z_lv (lv' := [(0, .ref h_t), (1, .int v1), (2, .int v2), (3, .int k21), (4, .int x37)]) [4, 5, 6, 1, 0] rfl ?_
              exact ih k21 x37 hL
            · have hF := hF.2 c39
              refine z_iload X dX12_bestAt_70 0 rfl ?_
              refine z_goto (tgt := 76) X dX12_bestAt_72 (by decide) ?_
              refine z_istore_n (lv' := [(3, .int x36), (6, .int x36), (5, .int r33), (0, .ref h_t), (1, .int v1), (2, .int v2), (4, .int k22)]) X dX12_bestAt_76 rfl (by decide) rfl ?_
              obtain ⟨x38, ex38, hF⟩ := nx_e hF
              refine z_iinc (v := x38) (lv' := [(4, .int x38), (3, .int x36), (6, .int x36), (5, .int r33), (0, .ref h_t), (1, .int v1), (2, .int v2)]) (j := 6) X dX12_bestAt_77 rfl (by rw [ex38]; rfl) (by decide) rfl ?_
              refine z_goto (tgt := 7) X dX12_bestAt_80 (by decide) ?_
              cases hF
              refine z_lv (lv' := [(0, .ref h_t), (1, .int v1), (2, .int v2), (3, .int x36), (4, .int x38)]) [4, 5, 6, 1, 0] rfl ?_
              exact ih x36 x38 hL
          · have hF := hF.2 c41
            refine z_goto (tgt := 77) X dX12_bestAt_45 (by decide) ?_
            obtain ⟨x40, ex40, hF⟩ := nx_e hF
            refine z_iinc (v := x40) (lv' := [(4, .int x40), (5, .int r33), (0, .ref h_t), (1, .int v1), (2, .int v2), (3, .int k21)]) (j := 5) X dX12_bestAt_77 rfl (by rw [ex40]; rfl) (by decide) rfl ?_
            refine z_goto (tgt := 7) X dX12_bestAt_80 (by decide) ?_
            cases hF
            refine z_lv (lv' := [(0, .ref h_t), (1, .int v1), (2, .int v2), (3, .int k21), (4, .int x40)]) [2, 3, 4, 5, 0] rfl ?_
            exact ih k21 x40 hL
      have hF := if_e hF
      refine z_if_ne (tgt := 17) X dX12_bestAt_10 (by decide) (fun c44 => ?_) (fun c44 => ?_)
      · have hF := hF.2 c44
        refine z_iconst (v := (1 : Int32)) X dX12_bestAt_17 (by decide) ?_
        refine z_aload_n X dX12_bestAt_18 rfl 0 rfl ?_
        refine z_get (v := .ref (a_t 0)) X k_X12_bestAt_7 0 rfl rfl dX12_bestAt_19 ?_
        refine z_iconst (v := (2 : Int32)) X dX12_bestAt_22 (by decide) ?_
        obtain ⟨g43, hF⟩ := gi_e hF
        refine z_iald X 1 rfl g43 dX12_bestAt_23 ?_
        refine z_ishl X dX12_bestAt_24 ?_
        refine z_lv (lv' := [(0, .ref h_t), (1, .int v1), (2, .int v2), (3, .int k21), (4, .int k22)]) [0, 1, 2, 3, 4] rfl ?_
        exact K32_l ((1 : Int32) <<< ((o_t 0 (Int32.toNatClampNeg (2 : Int32))) &&& 31)) hF
      · have hF := hF.1 c44
        refine z_iconst (v := (1 : Int32)) X dX12_bestAt_13 (by decide) ?_
        refine z_goto (tgt := 25) X dX12_bestAt_14 (by decide) ?_
        refine z_lv (lv' := [(0, .ref h_t), (1, .int v1), (2, .int v2), (3, .int k21), (4, .int k22)]) [0, 1, 2, 3, 4] rfl ?_
        exact K32_l (1 : Int32) hF
  refine z_lv (lv' := [(0, .ref h_t), (1, .int v1), (2, .int v2), (3, .int x1), (4, .int (0 : Int32))]) [2, 3, 4, 1, 0] rfl ?_
  exact L27 FU x1 (0 : Int32) hL
set_option maxRecDepth 20000 in
theorem h_X12_plans_X12 : ∀ w ∈ wsX120, w ∈ wsX12_plans := by decide +kernel
set_option maxRecDepth 20000 in
theorem k_X12_plans_7 : ZF wsX12_plans RX12 7 12 0 RX12 TX12 47 := ⟨rfl, by decide, h_X12_plans_X12, by decide +kernel⟩
set_option maxRecDepth 20000 in
theorem k_X12_plans_48 : ZF wsX12_plans RX12 48 12 28 RX12 TX12 47 := ⟨rfl, by decide, h_X12_plans_X12, by decide +kernel⟩
set_option maxRecDepth 20000 in
theorem k_X12_plans_54 : ZF wsX12_plans RX12 54 12 30 RX12 TX12 47 := ⟨rfl, by decide, h_X12_plans_X12, by decide +kernel⟩
set_option maxRecDepth 20000 in
theorem k_X12_plans_278 : ZF wsX12_plans RX12 278 12 31 RX12 TX12 47 := ⟨rfl, by decide, h_X12_plans_X12, by decide +kernel⟩
set_option maxRecDepth 20000 in
theorem k_X12_plans_281 : ZF wsX12_plans RX12 281 12 33 RX12 TX12 47 := ⟨rfl, by decide, h_X12_plans_X12, by decide +kernel⟩
set_option maxRecDepth 20000 in
theorem k_X12_plans_292 : ZF wsX12_plans RX12 292 12 32 RX12 TX12 47 := ⟨rfl, by decide, h_X12_plans_X12, by decide +kernel⟩
set_option maxRecDepth 20000 in
theorem k_X12_plans_c284 : Cond.constant RX12 284 (100000000) ∈ wsX12_plans := by decide +kernel
set_option maxHeartbeats 8000000 in
set_option maxRecDepth 100000 in
theorem c_X12_plans (l : Launch) (D : va_G) (cA : Nat → ClassId) (g : Nat → Nat) (sz : Nat) (h_t : Nat) (a_t : Nat → Nat) (o_t : Ob) (v1 : Int32) (v2 : Int32) (v3 : Int32) (o_t' : Ob) (rv : Int32) (hF : f_X12_plans o_t v1 v2 v3 = some (o_t', rv)) : Met l yX12_plans wsX12_plans ({ frames := 3, cells := 0, slots := 0, locals := 69 }) (va_Pc [.ref h_t, .int v1, .int v2, .int v3] (PreW D cA g sz (w_X12_four cA h_t a_t o_t))) (va_Qi (fun (r : Int32) (_ : Unit) => r = rv) (PostW D cA sz (w_X12_four cA h_t a_t o_t) (w_X12_four cA h_t a_t o_t')) (va_A (w_X12_four cA h_t a_t o_t) sz)) 0 0 (va_A (w_X12_four cA h_t a_t o_t) sz) := by
  refine z_start (cc := cX12_plans) (maxL := 6) (ret := (some .int)) (lv0 := [(0, .ref h_t), (1, .int v1), (2, .int v2), (3, .int v3)]) (Qc := fun sz => va_Qi (fun (r : Int32) (_ : Unit) => r = rv) (PostW D cA sz (w_X12_four cA h_t a_t o_t) (w_X12_four cA h_t a_t o_t')) (va_A (w_X12_four cA h_t a_t o_t) sz)) (free := fun sz => va_A (w_X12_four cA h_t a_t o_t) sz) (by decide +kernel) rfl rfl (Nat.le_of_ble_eq_true rfl) ?_
  intro p e R s m args below meth c A Q hR hA hQ X hr hin
  unfold f_X12_plans at hF
  refine z_aload_n X dX12_plans_0 rfl 0 rfl ?_
  refine z_iload_n X dX12_plans_1 rfl 2 rfl ?_
  obtain ⟨o1, eo1, hF⟩ := nx_e hF
  refine z_put (ws' := (w_X12_four cA h_t a_t o1)) X k_X12_plans_278 tyX12 tyX12_ok nmX12 rfl rfl 0 rfl (Nat.le_of_ble_eq_true rfl) (by rw [eo1]; rfl) dX12_plans_2 ?_
  refine z_aload_n X dX12_plans_5 rfl 0 rfl ?_
  refine z_iload_n X dX12_plans_6 rfl 1 rfl ?_
  obtain ⟨o2, eo2, hF⟩ := nx_e hF
  refine z_put (ws' := (w_X12_four cA h_t a_t o2)) X k_X12_plans_292 tyX12 tyX12_ok nmX12 rfl rfl 0 rfl (Nat.le_of_ble_eq_true rfl) (by rw [eo2]; rfl) dX12_plans_7 ?_
  refine z_aload_n X dX12_plans_10 rfl 0 rfl ?_
  refine z_iload_n X dX12_plans_11 rfl 3 rfl ?_
  obtain ⟨o3, eo3, hF⟩ := nx_e hF
  refine z_put (ws' := (w_X12_four cA h_t a_t o3)) X k_X12_plans_281 tyX12 tyX12_ok nmX12 rfl rfl 0 rfl (Nat.le_of_ble_eq_true rfl) (by rw [eo3]; rfl) dX12_plans_12 ?_
  refine z_iconst (v := (0 : Int32)) X dX12_plans_15 (by decide) ?_
  refine z_istore (lv' := [(4, .int (0 : Int32)), (0, .ref h_t), (1, .int v1), (2, .int v2), (3, .int v3)]) X dX12_plans_16 (by decide) rfl ?_
  obtain ⟨o15, hL, hF⟩ := zb1_e hF
  have L125_x : ∀ (o15' : Ob), o15' = o15 → ZW p l e R s m args below meth c D A 6 0 0 Q (w_X12_four cA h_t a_t o15') [(0, .ref h_t), (1, .int v1)] 50 [] := by
    intro o15' hz
    cases hz
    refine z_iconst (v := (0 : Int32)) X dX12_plans_50 (by decide) ?_
    refine z_istore (lv' := [(4, .int (0 : Int32)), (0, .ref h_t), (1, .int v1)]) X dX12_plans_51 (by decide) rfl ?_
    obtain ⟨o56, hL, hF⟩ := zb1_e hF
    have L86_x : ∀ (o56' : Ob), o56' = o56 → ZW p l e R s m args below meth c D A 6 0 0 Q (w_X12_four cA h_t a_t o56') [(0, .ref h_t), (1, .int v1)] 126 [] := by
      intro o56' hz
      cases hz
      refine z_ldcw X k_X12_plans_c284 dX12_plans_126 ?_
      obtain ⟨x57, ex57, hF⟩ := nx_e hF
      refine z_nm ex57 ?_
      refine z_istore (lv' := [(4, .int x57), (0, .ref h_t), (1, .int v1)]) X dX12_plans_129 (by decide) rfl ?_
      refine z_iconst (v := (0 : Int32)) X dX12_plans_131 (by decide) ?_
      refine z_istore (lv' := [(5, .int (0 : Int32)), (4, .int x57), (0, .ref h_t), (1, .int v1)]) X dX12_plans_132 (by decide) rfl ?_
      obtain ⟨k72, hL, hF⟩ := zb1_e hF
      have L74_x : ∀ (k72' : Int32), k72' = k72 → ZW p l e R s m args below meth c D A 6 0 0 Q (w_X12_four cA h_t a_t o56) [(1, .int v1), (4, .int k72')] 199 [] := by
        intro k72' hz
        cases hz
        refine z_iload_n X dX12_plans_199 rfl 0 rfl ?_
        have hF := if_e hF
        refine z_if_ne (tgt := 207) X dX12_plans_200 (by decide) (fun c73 => ?_) (fun c73 => ?_)
        · have hF := hF.2 c73
          refine z_iload X dX12_plans_207 1 rfl ?_
          cases hF
          exact z_iret X hA hQ hr rfl dX12_plans_209 (Nat.le_refl _) (Nat.le_refl _)
        · have hF := hF.1 c73
          refine z_iconst (v := (0 : Int32)) X dX12_plans_203 (by decide) ?_
          refine z_goto (tgt := 209) X dX12_plans_204 (by decide) ?_
          cases hF
          exact z_iret X hA hQ hr rfl dX12_plans_209 (Nat.le_refl _) (Nat.le_refl _)
      obtain ⟨B85, hBB85, hL⟩ := zl2_b hL
      have L74 : ∀ (n : Nat) (k70 : Int32) (k71 : Int32), zl2 B85 n k70 k71 = some k72 → ZW p l e R s m args below meth c D A 6 0 0 Q (w_X12_four cA h_t a_t o56) [(0, .ref h_t), (1, .int v1), (4, .int k70), (5, .int k71)] 134 [] := by
        intro n
        induction n with
        | zero => intro k70 k71 hL; cases hL
        | succ n ih =>
          intro k70 k71 hL
          obtain ⟨zz75, hF, hL⟩ := zl2_e hL
          rw [hBB85] at hF
          refine z_iload X dX12_plans_134 3 rfl ?_
          refine z_iconst (v := (1 : Int32)) X dX12_plans_136 (by decide) ?_
          refine z_aload_n X dX12_plans_137 rfl 0 rfl ?_
          refine z_get (v := .ref (a_t 0)) X k_X12_plans_7 0 rfl rfl dX12_plans_138 ?_
          refine z_iconst (v := (2 : Int32)) X dX12_plans_141 (by decide) ?_
          obtain ⟨g76, hF⟩ := gi_e hF
          refine z_iald X 1 rfl g76 dX12_plans_142 ?_
          refine z_ishl X dX12_plans_143 ?_
          have hF := if_e hF
          refine z_icmp_ge (tgt := 199) X dX12_plans_144 (by decide) (fun c84 => ?_) (fun c84 => ?_)
          · have hF := hF.1 c84
            cases hF
            have hL := Option.some.inj hL
            refine z_lv (lv' := [(1, .int v1), (4, .int k70)]) [1, 2] rfl ?_
            exact L74_x k70 hL
          · have hF := hF.2 c84
            refine z_iload_n X dX12_plans_147 rfl 1 rfl ?_
            have hF := if_e hF
            refine z_if_le (tgt := 199) X dX12_plans_148 (by decide) (fun c83 => ?_) (fun c83 => ?_)
            · have hF := hF.1 c83
              cases hF
              have hL := Option.some.inj hL
              refine z_lv (lv' := [(1, .int v1), (4, .int k70)]) [1, 2] rfl ?_
              exact L74_x k70 hL
            · have hF := hF.2 c83
              refine z_aload_n X dX12_plans_151 rfl 0 rfl ?_
              refine z_get (v := .ref (a_t 28)) X k_X12_plans_48 0 rfl rfl dX12_plans_152 ?_
              refine z_sipush (v := (256 : Int32)) X dX12_plans_155 (by decide) ?_
              refine z_iload_n X dX12_plans_158 rfl 1 rfl ?_
              refine z_iconst (v := (1 : Int32)) X dX12_plans_159 (by decide) ?_
              refine z_isub X dX12_plans_160 ?_
              refine z_imul X dX12_plans_161 ?_
              refine z_iload X dX12_plans_162 3 rfl ?_
              refine z_iadd X dX12_plans_164 ?_
              obtain ⟨g77, hF⟩ := gi_e hF
              refine z_iald X 13 rfl g77 dX12_plans_165 ?_
              refine z_iload X dX12_plans_166 2 rfl ?_
              have hF := if_e hF
              refine z_icmp_ge (tgt := 189) X dX12_plans_168 (by decide) (fun c82 => ?_) (fun c82 => ?_)
              · have hF := hF.1 c82
                refine z_iload X dX12_plans_189 2 rfl ?_
                refine z_istore (lv' := [(4, .int k70), (0, .ref h_t), (1, .int v1), (5, .int k71)]) X dX12_plans_191 (by decide) rfl ?_
                obtain ⟨x78, ex78, hF⟩ := nx_e hF
                refine z_iinc (v := x78) (lv' := [(5, .int x78), (4, .int k70), (0, .ref h_t), (1, .int v1)]) (j := 3) X dX12_plans_193 rfl (by rw [ex78]; rfl) (by decide) rfl ?_
                refine z_goto (tgt := 134) X dX12_plans_196 (by decide) ?_
                cases hF
                refine z_lv (lv' := [(0, .ref h_t), (1, .int v1), (4, .int k70), (5, .int x78)]) [2, 3, 1, 0] rfl ?_
                exact ih k70 x78 hL
              · have hF := hF.2 c82
                refine z_aload_n X dX12_plans_171 rfl 0 rfl ?_
                refine z_get (v := .ref (a_t 28)) X k_X12_plans_48 0 rfl rfl dX12_plans_172 ?_
                refine z_sipush (v := (256 : Int32)) X dX12_plans_175 (by decide) ?_
                refine z_iload_n X dX12_plans_178 rfl 1 rfl ?_
                refine z_iconst (v := (1 : Int32)) X dX12_plans_179 (by decide) ?_
                refine z_isub X dX12_plans_180 ?_
                refine z_imul X dX12_plans_181 ?_
                refine z_iload X dX12_plans_182 3 rfl ?_
                refine z_iadd X dX12_plans_184 ?_
                obtain ⟨g79, hF⟩ := gi_e hF
                refine z_iald X 13 rfl g79 dX12_plans_185 ?_
                refine z_goto (tgt := 191) X dX12_plans_186 (by decide) ?_
                obtain ⟨x80, ex80, hF⟩ := nx_e hF
                refine z_nm ex80 ?_
                refine z_istore (lv' := [(4, .int x80), (0, .ref h_t), (1, .int v1), (5, .int k71)]) X dX12_plans_191 (by decide) rfl ?_
                obtain ⟨x81, ex81, hF⟩ := nx_e hF
                refine z_iinc (v := x81) (lv' := [(5, .int x81), (4, .int x80), (0, .ref h_t), (1, .int v1)]) (j := 3) X dX12_plans_193 rfl (by rw [ex81]; rfl) (by decide) rfl ?_
                refine z_goto (tgt := 134) X dX12_plans_196 (by decide) ?_
                cases hF
                refine z_lv (lv' := [(0, .ref h_t), (1, .int v1), (4, .int x80), (5, .int x81)]) [2, 3, 1, 0] rfl ?_
                exact ih x80 x81 hL
      refine z_lv (lv' := [(0, .ref h_t), (1, .int v1), (4, .int x57), (5, .int (0 : Int32))]) [2, 3, 1, 0] rfl ?_
      exact L74 FU x57 (0 : Int32) hL
    obtain ⟨B124, hBB124, hL⟩ := zl2_b hL
    have L86 : ∀ (n : Nat) (o54 : Ob) (k55 : Int32), zl2 B124 n o54 k55 = some o56 → ZW p l e R s m args below meth c D A 6 0 0 Q (w_X12_four cA h_t a_t o54) [(0, .ref h_t), (1, .int v1), (4, .int k55)] 53 [] := by
      intro n
      induction n with
      | zero => intro o54 k55 hL; cases hL
      | succ n ih =>
        intro o54 k55 hL
        obtain ⟨zz87, hF, hL⟩ := zl2_e hL
        rw [hBB124] at hF
        refine z_iload X dX12_plans_53 2 rfl ?_
        refine z_iload_n X dX12_plans_55 rfl 1 rfl ?_
        have hF := if_e hF
        refine z_icmp_ge (tgt := 126) X dX12_plans_56 (by decide) (fun c123 => ?_) (fun c123 => ?_)
        · have hF := hF.1 c123
          cases hF
          have hL := Option.some.inj hL
          refine z_lv (lv' := [(0, .ref h_t), (1, .int v1)]) [0, 1] rfl ?_
          exact L86_x o54 hL
        · have hF := hF.2 c123
          refine z_iconst (v := (0 : Int32)) X dX12_plans_59 (by decide) ?_
          refine z_istore (lv' := [(5, .int (0 : Int32)), (0, .ref h_t), (1, .int v1), (4, .int k55)]) X dX12_plans_60 (by decide) rfl ?_
          obtain ⟨o105, hL, hF⟩ := zb1_e hF
          have L107_x : ∀ (o105' : Ob), o105' = o105 → ZW p l e R s m args below meth c D A 6 0 0 Q (w_X12_four cA h_t a_t o105') [(0, .ref h_t), (1, .int v1), (4, .int k55)] 120 [] := by
            intro o105' hz
            cases hz
            obtain ⟨x106, ex106, hF⟩ := nx_e hF
            refine z_iinc (v := x106) (lv' := [(4, .int x106), (0, .ref h_t), (1, .int v1)]) (j := 2) X dX12_plans_120 rfl (by rw [ex106]; rfl) (by decide) rfl ?_
            refine z_goto (tgt := 53) X dX12_plans_123 (by decide) ?_
            cases hF
            refine z_lv (lv' := [(0, .ref h_t), (1, .int v1), (4, .int x106)]) [1, 2, 0] rfl ?_
            exact ih o105 x106 hL
          obtain ⟨B122, hBB122, hL⟩ := zl2_b hL
          have L107 : ∀ (n : Nat) (o103 : Ob) (k104 : Int32), zl2 B122 n o103 k104 = some o105 → ZW p l e R s m args below meth c D A 6 0 0 Q (w_X12_four cA h_t a_t o103) [(0, .ref h_t), (1, .int v1), (4, .int k55), (5, .int k104)] 62 [] := by
            intro n
            induction n with
            | zero => intro o103 k104 hL; cases hL
            | succ n ih =>
              intro o103 k104 hL
              obtain ⟨zz108, hF, hL⟩ := zl2_e hL
              rw [hBB122] at hF
              refine z_iload X dX12_plans_62 3 rfl ?_
              refine z_iconst (v := (1 : Int32)) X dX12_plans_64 (by decide) ?_
              refine z_aload_n X dX12_plans_65 rfl 0 rfl ?_
              refine z_get (v := .ref (a_t 0)) X k_X12_plans_7 0 rfl rfl dX12_plans_66 ?_
              refine z_iconst (v := (2 : Int32)) X dX12_plans_69 (by decide) ?_
              obtain ⟨g109, hF⟩ := gi_e hF
              refine z_iald X 1 rfl g109 dX12_plans_70 ?_
              refine z_ishl X dX12_plans_71 ?_
              have hF := if_e hF
              refine z_icmp_ge (tgt := 120) X dX12_plans_72 (by decide) (fun c121 => ?_) (fun c121 => ?_)
              · have hF := hF.1 c121
                cases hF
                have hL := Option.some.inj hL
                refine z_lv (lv' := [(0, .ref h_t), (1, .int v1), (4, .int k55)]) [0, 1, 2] rfl ?_
                exact L107_x o103 hL
              · have hF := hF.2 c121
                refine z_aload_n X dX12_plans_75 rfl 0 rfl ?_
                refine z_get (v := .ref (a_t 28)) X k_X12_plans_48 0 rfl rfl dX12_plans_76 ?_
                refine z_sipush (v := (256 : Int32)) X dX12_plans_79 (by decide) ?_
                refine z_iload X dX12_plans_82 2 rfl ?_
                refine z_imul X dX12_plans_84 ?_
                refine z_iload X dX12_plans_85 3 rfl ?_
                refine z_iadd X dX12_plans_87 ?_
                refine z_aload_n X dX12_plans_88 rfl 0 rfl ?_
                refine z_iload X dX12_plans_89 2 rfl ?_
                refine z_iload X dX12_plans_91 3 rfl ?_
                obtain ⟨r110, hc111, hF⟩ := zb1_e hF
                refine z_Vi (As := [.int k55, .int k104]) (rest := [.int (((256 : Int32) * k55) + k104), .ref (a_t 28)]) (wc := (w_X12_four cA h_t a_t o103)) (wc' := (w_X12_four cA h_t a_t o103)) (ws' := (w_X12_four cA h_t a_t o103)) (rv := r110) X (cwV 2 X.2.2.2.2.1 gX12_plans_X12_isPlan rfl rfl rfl (by decide +kernel) (by rw [hR]; exact ⟨Nat.le_of_ble_eq_true rfl, Nat.le_of_ble_eq_true rfl⟩)) (fun sz => c_X12_isPlan l D cA g sz h_t a_t o103 k55 k104 r110 hc111) [0, 1, 2, 3, 4, 5, 6, 7, 8, 9, 10, 11, 12, 13, 14, 15, 16, 17, 18, 19, 20, 21] [1000, 1001, 1002, 1003, 1004, 1005, 1006, 1007, 1008, 1009, 1010, 1011, 1012, 1013, 1014, 1015, 1016, 1017, 1018, 1019, 1020, 1021] rfl (by decide) rfl (by decide) rfl rfl rfl rfl rfl rfl (Nat.le_of_ble_eq_true rfl) dX12_plans_93 ⟨Nat.zero_le _, Nat.zero_le _⟩ ?_
                have hF := if_e hF
                refine z_if_eq (tgt := 110) X dX12_plans_96 (by decide) (fun c120 => ?_) (fun c120 => ?_)
                · have hF := hF.1 c120
                  refine z_ldcw X k_X12_plans_c284 dX12_plans_110 ?_
                  obtain ⟨g112, hF⟩ := gi_e hF
                  obtain ⟨o113, eo113, hF⟩ := nx_e hF
                  refine z_iast (ws' := (w_X12_four cA h_t a_t o113)) X 13 rfl g112 (by rw [eo113]; rfl) dX12_plans_113 ?_
                  obtain ⟨x114, ex114, hF⟩ := nx_e hF
                  refine z_iinc (v := x114) (lv' := [(5, .int x114), (0, .ref h_t), (1, .int v1), (4, .int k55)]) (j := 3) X dX12_plans_114 rfl (by rw [ex114]; rfl) (by decide) rfl ?_
                  refine z_goto (tgt := 62) X dX12_plans_117 (by decide) ?_
                  cases hF
                  refine z_lv (lv' := [(0, .ref h_t), (1, .int v1), (4, .int k55), (5, .int x114)]) [1, 2, 3, 0] rfl ?_
                  exact ih o113 x114 hL
                · have hF := hF.2 c120
                  refine z_aload_n X dX12_plans_99 rfl 0 rfl ?_
                  refine z_iload X dX12_plans_100 2 rfl ?_
                  refine z_iload X dX12_plans_102 3 rfl ?_
                  obtain ⟨r115, hc116, hF⟩ := zb1_e hF
                  refine z_Vi (As := [.int k55, .int k104]) (rest := [.int (((256 : Int32) * k55) + k104), .ref (a_t 28)]) (wc := (w_X12_four cA h_t a_t o103)) (wc' := (w_X12_four cA h_t a_t o103)) (ws' := (w_X12_four cA h_t a_t o103)) (rv := r115) X (cwV 2 X.2.2.2.2.1 gX12_plans_X12_bestAt rfl rfl rfl (by decide +kernel) (by rw [hR]; exact ⟨Nat.le_of_ble_eq_true rfl, Nat.le_of_ble_eq_true rfl⟩)) (fun sz => c_X12_bestAt l D cA g sz h_t a_t o103 k55 k104 r115 hc116) [0, 1, 2, 3, 4, 5, 6, 7, 8, 9, 10, 11, 12, 13, 14, 15, 16, 17, 18, 19, 20, 21] [1000, 1001, 1002, 1003, 1004, 1005, 1006, 1007, 1008, 1009, 1010, 1011, 1012, 1013, 1014, 1015, 1016, 1017, 1018, 1019, 1020, 1021] rfl (by decide) rfl (by decide) rfl rfl rfl rfl rfl rfl (Nat.le_of_ble_eq_true rfl) dX12_plans_104 ⟨Nat.zero_le _, Nat.zero_le _⟩ ?_
                  refine z_goto (tgt := 113) X dX12_plans_107 (by decide) ?_
                  obtain ⟨g117, hF⟩ := gi_e hF
                  obtain ⟨o118, eo118, hF⟩ := nx_e hF
                  refine z_iast (ws' := (w_X12_four cA h_t a_t o118)) X 13 rfl g117 (by rw [eo118]; rfl) dX12_plans_113 ?_
                  obtain ⟨x119, ex119, hF⟩ := nx_e hF
                  refine z_iinc (v := x119) (lv' := [(5, .int x119), (0, .ref h_t), (1, .int v1), (4, .int k55)]) (j := 3) X dX12_plans_114 rfl (by rw [ex119]; rfl) (by decide) rfl ?_
                  refine z_goto (tgt := 62) X dX12_plans_117 (by decide) ?_
                  cases hF
                  refine z_lv (lv' := [(0, .ref h_t), (1, .int v1), (4, .int k55), (5, .int x119)]) [1, 2, 3, 0] rfl ?_
                  exact ih o118 x119 hL
          refine z_lv (lv' := [(0, .ref h_t), (1, .int v1), (4, .int k55), (5, .int (0 : Int32))]) [1, 2, 3, 0] rfl ?_
          exact L107 FU o54 (0 : Int32) hL
    refine z_lv (lv' := [(0, .ref h_t), (1, .int v1), (4, .int (0 : Int32))]) [1, 2, 0] rfl ?_
    exact L86 FU o15 (0 : Int32) hL
  obtain ⟨B134, hBB134, hL⟩ := zl2_b hL
  have L125 : ∀ (n : Nat) (o13 : Ob) (k14 : Int32), zl2 B134 n o13 k14 = some o15 → ZW p l e R s m args below meth c D A 6 0 0 Q (w_X12_four cA h_t a_t o13) [(0, .ref h_t), (1, .int v1), (4, .int k14)] 18 [] := by
    intro n
    induction n with
    | zero => intro o13 k14 hL; cases hL
    | succ n ih =>
      intro o13 k14 hL
      obtain ⟨zz126, hF, hL⟩ := zl2_e hL
      rw [hBB134] at hF
      refine z_iload X dX12_plans_18 2 rfl ?_
      refine z_iconst (v := (1 : Int32)) X dX12_plans_20 (by decide) ?_
      refine z_aload_n X dX12_plans_21 rfl 0 rfl ?_
      refine z_get (v := .ref (a_t 0)) X k_X12_plans_7 0 rfl rfl dX12_plans_22 ?_
      refine z_iconst (v := (2 : Int32)) X dX12_plans_25 (by decide) ?_
      obtain ⟨g127, hF⟩ := gi_e hF
      refine z_iald X 1 rfl g127 dX12_plans_26 ?_
      refine z_ishl X dX12_plans_27 ?_
      have hF := if_e hF
      refine z_icmp_ge (tgt := 50) X dX12_plans_28 (by decide) (fun c133 => ?_) (fun c133 => ?_)
      · have hF := hF.1 c133
        cases hF
        have hL := Option.some.inj hL
        refine z_lv (lv' := [(0, .ref h_t), (1, .int v1)]) [0, 1] rfl ?_
        exact L125_x o13 hL
      · have hF := hF.2 c133
        refine z_aload_n X dX12_plans_31 rfl 0 rfl ?_
        refine z_get (v := .ref (a_t 30)) X k_X12_plans_54 0 rfl rfl dX12_plans_32 ?_
        refine z_iload X dX12_plans_35 2 rfl ?_
        refine z_aload_n X dX12_plans_37 rfl 0 rfl ?_
        refine z_iload X dX12_plans_38 2 rfl ?_
        obtain ⟨r128, hc129, hF⟩ := zb1_e hF
        refine z_Vi (As := [.int k14]) (rest := [.int k14, .ref (a_t 30)]) (wc := (w_X12_four cA h_t a_t o13)) (wc' := (w_X12_four cA h_t a_t o13)) (ws' := (w_X12_four cA h_t a_t o13)) (rv := r128) X (cwV 1 X.2.2.2.2.1 gX12_plans_X12_priceOf rfl rfl rfl (by decide +kernel) (by rw [hR]; exact ⟨Nat.le_of_ble_eq_true rfl, Nat.le_of_ble_eq_true rfl⟩)) (fun sz => c_X12_priceOf l D cA g sz h_t a_t o13 k14 r128 hc129) [0, 1, 2, 3, 4, 5, 6, 7, 8, 9, 10, 11, 12, 13, 14, 15, 16, 17, 18, 19, 20, 21] [1000, 1001, 1002, 1003, 1004, 1005, 1006, 1007, 1008, 1009, 1010, 1011, 1012, 1013, 1014, 1015, 1016, 1017, 1018, 1019, 1020, 1021] rfl (by decide) rfl (by decide) rfl rfl rfl rfl rfl rfl (Nat.le_of_ble_eq_true rfl) dX12_plans_40 ⟨Nat.zero_le _, Nat.zero_le _⟩ ?_
        obtain ⟨g130, hF⟩ := gi_e hF
        obtain ⟨o131, eo131, hF⟩ := nx_e hF
        refine z_iast (ws' := (w_X12_four cA h_t a_t o131)) X 15 rfl g130 (by rw [eo131]; rfl) dX12_plans_43 ?_
        obtain ⟨x132, ex132, hF⟩ := nx_e hF
        refine z_iinc (v := x132) (lv' := [(4, .int x132), (0, .ref h_t), (1, .int v1)]) (j := 2) X dX12_plans_44 rfl (by rw [ex132]; rfl) (by decide) rfl ?_
        refine z_goto (tgt := 18) X dX12_plans_47 (by decide) ?_
        cases hF
        refine z_lv (lv' := [(0, .ref h_t), (1, .int v1), (4, .int x132)]) [1, 2, 0] rfl ?_
        exact ih o131 x132 hL
  refine z_lv (lv' := [(0, .ref h_t), (1, .int v1), (4, .int (0 : Int32))]) [1, 2, 0] rfl ?_
  exact L125 FU o3 (0 : Int32) hL
set_option maxRecDepth 20000 in
theorem h_X12_fits_X12 : ∀ w ∈ wsX120, w ∈ wsX12_fits := by decide +kernel
set_option maxRecDepth 20000 in
theorem k_X12_fits_48 : ZF wsX12_fits RX12 48 12 28 RX12 TX12 47 := ⟨rfl, by decide, h_X12_fits_X12, by decide +kernel⟩
set_option maxRecDepth 20000 in
theorem k_X12_fits_51 : ZF wsX12_fits RX12 51 12 29 RX12 TX12 47 := ⟨rfl, by decide, h_X12_fits_X12, by decide +kernel⟩
set_option maxRecDepth 20000 in
theorem k_X12_fits_292 : ZF wsX12_fits RX12 292 12 32 RX12 TX12 47 := ⟨rfl, by decide, h_X12_fits_X12, by decide +kernel⟩
set_option maxRecDepth 20000 in
theorem k_X12_fits_c284 : Cond.constant RX12 284 (100000000) ∈ wsX12_fits := by decide +kernel
set_option maxHeartbeats 8000000 in
set_option maxRecDepth 100000 in
theorem c_X12_fits (l : Launch) (D : va_G) (cA : Nat → ClassId) (g : Nat → Nat) (sz : Nat) (h_t : Nat) (a_t : Nat → Nat) (o_t : Ob) (v1 : Int32) (v2 : Int32) (v3 : Int32) (rv : Int32) (hF : f_X12_fits o_t v1 v2 v3 = some rv) : Met l yX12_fits wsX12_fits ({ frames := 2, cells := 0, slots := 0, locals := 44 }) (va_Pc [.ref h_t, .int v1, .int v2, .int v3] (PreW D cA g sz (w_X12_four cA h_t a_t o_t))) (va_Qi (fun (r : Int32) (_ : Unit) => r = rv) (PostW D cA sz (w_X12_four cA h_t a_t o_t) (w_X12_four cA h_t a_t o_t)) (va_A (w_X12_four cA h_t a_t o_t) sz)) 0 0 (va_A (w_X12_four cA h_t a_t o_t) sz) := by
  refine z_start (cc := cX12_fits) (maxL := 5) (ret := (some .boolean)) (lv0 := [(0, .ref h_t), (1, .int v1), (2, .int v2), (3, .int v3)]) (Qc := fun sz => va_Qi (fun (r : Int32) (_ : Unit) => r = rv) (PostW D cA sz (w_X12_four cA h_t a_t o_t) (w_X12_four cA h_t a_t o_t)) (va_A (w_X12_four cA h_t a_t o_t) sz)) (free := fun sz => va_A (w_X12_four cA h_t a_t o_t) sz) (by decide +kernel) rfl rfl (Nat.le_of_ble_eq_true rfl) ?_
  intro p e R s m args below meth c A Q hR hA hQ X hr hin
  unfold f_X12_fits at hF
  refine z_aload_n X dX12_fits_0 rfl 0 rfl ?_
  refine z_get (v := .ref (a_t 28)) X k_X12_fits_48 0 rfl rfl dX12_fits_1 ?_
  refine z_sipush (v := (256 : Int32)) X dX12_fits_4 (by decide) ?_
  refine z_iload_n X dX12_fits_7 rfl 1 rfl ?_
  refine z_imul X dX12_fits_8 ?_
  refine z_iload_n X dX12_fits_9 rfl 2 rfl ?_
  refine z_iadd X dX12_fits_10 ?_
  obtain ⟨g1, hF⟩ := gi_e hF
  refine z_iald X 13 rfl g1 dX12_fits_11 ?_
  refine z_ldcw X k_X12_fits_c284 dX12_fits_12 ?_
  have hF := if_e hF
  refine z_icmp_lt (tgt := 20) X dX12_fits_15 (by decide) (fun c13 => ?_) (fun c13 => ?_)
  · have hF := hF.1 c13
    refine z_iload_n X dX12_fits_20 rfl 1 rfl ?_
    refine z_aload_n X dX12_fits_21 rfl 0 rfl ?_
    refine z_get (v := .int (o_t 32 0)) X k_X12_fits_292 0 rfl rfl dX12_fits_22 ?_
    refine z_iconst (v := (1 : Int32)) X dX12_fits_25 (by decide) ?_
    refine z_isub X dX12_fits_26 ?_
    have hF := if_e hF
    refine z_icmp_ne (tgt := 52) X dX12_fits_27 (by decide) (fun c12 => ?_) (fun c12 => ?_)
    · have hF := hF.2 c12
      refine z_aload_n X dX12_fits_52 rfl 0 rfl ?_
      refine z_get (v := .ref (a_t 29)) X k_X12_fits_51 0 rfl rfl dX12_fits_53 ?_
      refine z_iload_n X dX12_fits_56 rfl 1 rfl ?_
      refine z_iconst (v := (1 : Int32)) X dX12_fits_57 (by decide) ?_
      refine z_iadd X dX12_fits_58 ?_
      obtain ⟨g2, hF⟩ := gi_e hF
      refine z_iald X 14 rfl g2 dX12_fits_59 ?_
      obtain ⟨x3, ex3, hF⟩ := nx_e hF
      refine z_nm ex3 ?_
      refine z_istore (lv' := [(4, .int x3), (0, .ref h_t), (1, .int v1), (2, .int v2), (3, .int v3)]) X dX12_fits_60 (by decide) rfl ?_
      refine z_aload_n X dX12_fits_62 rfl 1 rfl ?_
      refine z_get (v := .ref (a_t 28)) X k_X12_fits_48 0 rfl rfl dX12_fits_63 ?_
      refine z_sipush (v := (256 : Int32)) X dX12_fits_66 (by decide) ?_
      refine z_iload_n X dX12_fits_69 rfl 2 rfl ?_
      refine z_imul X dX12_fits_70 ?_
      refine z_iload_n X dX12_fits_71 rfl 3 rfl ?_
      refine z_iadd X dX12_fits_72 ?_
      obtain ⟨g4, hF⟩ := gi_e hF
      refine z_iald X 13 rfl g4 dX12_fits_73 ?_
      refine z_aload_n X dX12_fits_74 rfl 1 rfl ?_
      refine z_iload X dX12_fits_75 0 rfl ?_
      refine z_iload_n X dX12_fits_77 rfl 3 rfl ?_
      refine z_iconst (v := (-1 : Int32)) X dX12_fits_78 (by decide) ?_
      refine z_ixor X dX12_fits_79 ?_
      refine z_iand X dX12_fits_80 ?_
      obtain ⟨r5, hc6, hF⟩ := zb1_e hF
      refine z_Vi (As := [.int (x3 &&& (v2 ^^^ (-1 : Int32)))]) (rest := [.int (o_t 28 (Int32.toNatClampNeg (((256 : Int32) * v1) + v2)))]) (wc := (w_X12_four cA h_t a_t o_t)) (wc' := (w_X12_four cA h_t a_t o_t)) (ws' := (w_X12_four cA h_t a_t o_t)) (rv := r5) X (cwV 1 X.2.2.2.2.1 gX12_fits_X12_priceOf rfl rfl rfl (by decide +kernel) (by rw [hR]; exact ⟨Nat.le_of_ble_eq_true rfl, Nat.le_of_ble_eq_true rfl⟩)) (fun sz => c_X12_priceOf l D cA g sz h_t a_t o_t (x3 &&& (v2 ^^^ (-1 : Int32))) r5 hc6) [0, 1, 2, 3, 4, 5, 6, 7, 8, 9, 10, 11, 12, 13, 14, 15, 16, 17, 18, 19, 20, 21] [1000, 1001, 1002, 1003, 1004, 1005, 1006, 1007, 1008, 1009, 1010, 1011, 1012, 1013, 1014, 1015, 1016, 1017, 1018, 1019, 1020, 1021] rfl (by decide) rfl (by decide) rfl rfl rfl rfl rfl rfl (Nat.le_of_ble_eq_true rfl) dX12_fits_81 ⟨Nat.zero_le _, Nat.zero_le _⟩ ?_
      refine z_iadd X dX12_fits_84 ?_
      refine z_aload_n X dX12_fits_85 rfl 1 rfl ?_
      refine z_iload_n X dX12_fits_86 rfl 2 rfl ?_
      refine z_iconst (v := (1 : Int32)) X dX12_fits_87 (by decide) ?_
      refine z_iadd X dX12_fits_88 ?_
      refine z_iload X dX12_fits_89 0 rfl ?_
      obtain ⟨r7, hc8, hF⟩ := zb1_e hF
      refine z_Vi (As := [.int (v1 + (1 : Int32)), .int x3]) (rest := [.int ((o_t 28 (Int32.toNatClampNeg (((256 : Int32) * v1) + v2))) + r5)]) (wc := (w_X12_four cA h_t a_t o_t)) (wc' := (w_X12_four cA h_t a_t o_t)) (ws' := (w_X12_four cA h_t a_t o_t)) (rv := r7) X (cwV 2 X.2.2.2.2.1 gX12_fits_X12_rentAt rfl rfl rfl (by decide +kernel) (by rw [hR]; exact ⟨Nat.le_of_ble_eq_true rfl, Nat.le_of_ble_eq_true rfl⟩)) (fun sz => c_X12_rentAt l D cA g sz h_t a_t o_t (v1 + (1 : Int32)) x3 r7 hc8) [0, 1, 2, 3, 4, 5, 6, 7, 8, 9, 10, 11, 12, 13, 14, 15, 16, 17, 18, 19, 20, 21] [1000, 1001, 1002, 1003, 1004, 1005, 1006, 1007, 1008, 1009, 1010, 1011, 1012, 1013, 1014, 1015, 1016, 1017, 1018, 1019, 1020, 1021] rfl (by decide) rfl (by decide) rfl rfl rfl rfl rfl rfl (Nat.le_of_ble_eq_true rfl) dX12_fits_91 ⟨Nat.zero_le _, Nat.zero_le _⟩ ?_
      refine z_iadd X dX12_fits_94 ?_
      refine z_iload_n X dX12_fits_95 rfl 4 rfl ?_
      have hF := if_e hF
      refine z_icmp_ne (tgt := 103) X dX12_fits_96 (by decide) (fun c9 => ?_) (fun c9 => ?_)
      · have hF := hF.2 c9
        refine z_iconst (v := (0 : Int32)) X dX12_fits_103 (by decide) ?_
        cases hF
        exact z_zret X hA hQ hr (Or.inl rfl)  rfl dX12_fits_104 (Nat.le_refl _) (Nat.le_refl _)
      · have hF := hF.1 c9
        refine z_iconst (v := (1 : Int32)) X dX12_fits_99 (by decide) ?_
        refine z_goto (tgt := 104) X dX12_fits_100 (by decide) ?_
        cases hF
        exact z_zret X hA hQ hr (Or.inr rfl)  rfl dX12_fits_104 (Nat.le_refl _) (Nat.le_refl _)
    · have hF := hF.1 c12
      refine z_aload_n X dX12_fits_30 rfl 0 rfl ?_
      refine z_get (v := .ref (a_t 28)) X k_X12_fits_48 0 rfl rfl dX12_fits_31 ?_
      refine z_sipush (v := (256 : Int32)) X dX12_fits_34 (by decide) ?_
      refine z_iload_n X dX12_fits_37 rfl 1 rfl ?_
      refine z_imul X dX12_fits_38 ?_
      refine z_iload_n X dX12_fits_39 rfl 2 rfl ?_
      refine z_iadd X dX12_fits_40 ?_
      obtain ⟨g10, hF⟩ := gi_e hF
      refine z_iald X 13 rfl g10 dX12_fits_41 ?_
      refine z_iload_n X dX12_fits_42 rfl 3 rfl ?_
      have hF := if_e hF
      refine z_icmp_ne (tgt := 50) X dX12_fits_43 (by decide) (fun c11 => ?_) (fun c11 => ?_)
      · have hF := hF.2 c11
        refine z_iconst (v := (0 : Int32)) X dX12_fits_50 (by decide) ?_
        cases hF
        exact z_zret X hA hQ hr (Or.inl rfl)  rfl dX12_fits_51 (Nat.le_refl _) (Nat.le_refl _)
      · have hF := hF.1 c11
        refine z_iconst (v := (1 : Int32)) X dX12_fits_46 (by decide) ?_
        refine z_goto (tgt := 51) X dX12_fits_47 (by decide) ?_
        cases hF
        exact z_zret X hA hQ hr (Or.inr rfl)  rfl dX12_fits_51 (Nat.le_refl _) (Nat.le_refl _)
  · have hF := hF.2 c13
    refine z_iconst (v := (0 : Int32)) X dX12_fits_18 (by decide) ?_
    cases hF
    exact z_zret X hA hQ hr (Or.inl rfl)  rfl dX12_fits_19 (Nat.le_refl _) (Nat.le_refl _)
set_option maxRecDepth 20000 in
theorem h_X12_goesBack_X12 : ∀ w ∈ wsX120, w ∈ wsX12_goesBack := by decide +kernel
set_option maxRecDepth 20000 in
theorem k_X12_goesBack_48 : ZF wsX12_goesBack RX12 48 12 28 RX12 TX12 47 := ⟨rfl, by decide, h_X12_goesBack_X12, by decide +kernel⟩
set_option maxRecDepth 20000 in
theorem k_X12_goesBack_51 : ZF wsX12_goesBack RX12 51 12 29 RX12 TX12 47 := ⟨rfl, by decide, h_X12_goesBack_X12, by decide +kernel⟩
set_option maxRecDepth 20000 in
theorem k_X12_goesBack_292 : ZF wsX12_goesBack RX12 292 12 32 RX12 TX12 47 := ⟨rfl, by decide, h_X12_goesBack_X12, by decide +kernel⟩
set_option maxHeartbeats 8000000 in
set_option maxRecDepth 100000 in
theorem c_X12_goesBack (l : Launch) (D : va_G) (cA : Nat → ClassId) (g : Nat → Nat) (sz : Nat) (h_t : Nat) (a_t : Nat → Nat) (o_t : Ob) (v1 : Int32) (o_t' : Ob) (hF : f_X12_goesBack o_t v1 = some o_t') : Met l yX12_goesBack wsX12_goesBack ({ frames := 3, cells := 0, slots := 0, locals := 68 }) (va_Pc [.ref h_t, .int v1] (PreW D cA g sz (w_X12_four cA h_t a_t o_t))) (va_Qv (fun (_ : Unit) => True) (PostW D cA sz (w_X12_four cA h_t a_t o_t) (w_X12_four cA h_t a_t o_t')) (va_A (w_X12_four cA h_t a_t o_t) sz)) 0 0 (va_A (w_X12_four cA h_t a_t o_t) sz) := by
  refine z_start (cc := cX12_goesBack) (maxL := 5) (ret := none) (lv0 := [(0, .ref h_t), (1, .int v1)]) (Qc := fun sz => va_Qv (fun (_ : Unit) => True) (PostW D cA sz (w_X12_four cA h_t a_t o_t) (w_X12_four cA h_t a_t o_t')) (va_A (w_X12_four cA h_t a_t o_t) sz)) (free := fun sz => va_A (w_X12_four cA h_t a_t o_t) sz) (by decide +kernel) rfl rfl (Nat.le_of_ble_eq_true rfl) ?_
  intro p e R s m args below meth c A Q hR hA hQ X hr hin
  unfold f_X12_goesBack at hF
  refine z_iload_n X dX12_goesBack_0 rfl 1 rfl ?_
  refine z_istore_n (lv' := [(2, .int v1), (0, .ref h_t), (1, .int v1)]) X dX12_goesBack_1 rfl (by decide) rfl ?_
  refine z_aload_n X dX12_goesBack_2 rfl 1 rfl ?_
  refine z_get (v := .int (o_t 32 0)) X k_X12_goesBack_292 0 rfl rfl dX12_goesBack_3 ?_
  refine z_iconst (v := (1 : Int32)) X dX12_goesBack_6 (by decide) ?_
  refine z_isub X dX12_goesBack_7 ?_
  obtain ⟨x1, ex1, hF⟩ := nx_e hF
  refine z_nm ex1 ?_
  refine z_istore_n (lv' := [(3, .int x1), (2, .int v1), (0, .ref h_t), (1, .int v1)]) X dX12_goesBack_8 rfl (by decide) rfl ?_
  obtain ⟨o29, hL, hF⟩ := zb1_e hF
  have L30_x : ∀ (o29' : Ob), o29' = o29 → ZW p l e R s m args below meth c D A 5 0 0 Q (w_X12_four cA h_t a_t o29') [] 61 [] := by
    intro o29' hz
    cases hz
    cases hF
    exact z_vret X hA hQ hr dX12_goesBack_61 (Nat.le_refl _) (Nat.le_refl _)
  obtain ⟨B53, hBB53, hL⟩ := zl3_b hL
  have L30 : ∀ (n : Nat) (o26 : Ob) (k27 : Int32) (k28 : Int32), zl3 B53 n o26 k27 k28 = some o29 → ZW p l e R s m args below meth c D A 5 0 0 Q (w_X12_four cA h_t a_t o26) [(0, .ref h_t), (2, .int k27), (3, .int k28)] 9 [] := by
    intro n
    induction n with
    | zero => intro o26 k27 k28 hL; cases hL
    | succ n ih =>
      intro o26 k27 k28 hL
      obtain ⟨zz31, hF, hL⟩ := zl3_e hL
      rw [hBB53] at hF
      refine z_iload_n X dX12_goesBack_9 rfl 2 rfl ?_
      have hF := if_e hF
      refine z_if_lt (tgt := 61) X dX12_goesBack_10 (by decide) (fun c52 => ?_) (fun c52 => ?_)
      · have hF := hF.1 c52
        cases hF
        have hL := Option.some.inj hL
        refine z_lv (lv' := []) [] rfl ?_
        exact L30_x o26 hL
      · have hF := hF.2 c52
        refine z_iconst (v := (0 : Int32)) X dX12_goesBack_13 (by decide) ?_
        refine z_istore (lv' := [(4, .int (0 : Int32)), (0, .ref h_t), (2, .int k27), (3, .int k28)]) X dX12_goesBack_14 (by decide) rfl ?_
        obtain ⟨k39, hL, hF⟩ := zb1_e hF
        have L45_x : ∀ (k39' : Int32), k39' = k39 → ZW p l e R s m args below meth c D A 5 0 0 Q (w_X12_four cA h_t a_t o26) [(0, .ref h_t), (3, .int k28), (4, .int k39')] 33 [] := by
          intro k39' hz
          cases hz
          refine z_aload_n X dX12_goesBack_33 rfl 0 rfl ?_
          refine z_get (v := .ref (a_t 29)) X k_X12_goesBack_51 0 rfl rfl dX12_goesBack_34 ?_
          refine z_iload_n X dX12_goesBack_37 rfl 1 rfl ?_
          refine z_iload X dX12_goesBack_38 2 rfl ?_
          obtain ⟨g40, hF⟩ := gi_e hF
          obtain ⟨o41, eo41, hF⟩ := nx_e hF
          refine z_iast (ws' := (w_X12_four cA h_t a_t o41)) X 14 rfl g40 (by rw [eo41]; rfl) dX12_goesBack_40 ?_
          refine z_aload_n X dX12_goesBack_41 rfl 0 rfl ?_
          refine z_get (v := .ref (a_t 28)) X k_X12_goesBack_48 0 rfl rfl dX12_goesBack_42 ?_
          refine z_sipush (v := (256 : Int32)) X dX12_goesBack_45 (by decide) ?_
          refine z_iload_n X dX12_goesBack_48 rfl 1 rfl ?_
          refine z_imul X dX12_goesBack_49 ?_
          refine z_iload X dX12_goesBack_50 2 rfl ?_
          refine z_iadd X dX12_goesBack_52 ?_
          obtain ⟨g42, hF⟩ := gi_e hF
          refine z_iald X 13 rfl g42 dX12_goesBack_53 ?_
          obtain ⟨x43, ex43, hF⟩ := nx_e hF
          refine z_nm ex43 ?_
          refine z_istore_n (lv' := [(2, .int x43), (0, .ref h_t), (3, .int k28), (4, .int k39)]) X dX12_goesBack_54 rfl (by decide) rfl ?_
          obtain ⟨x44, ex44, hF⟩ := nx_e hF
          refine z_iinc (v := x44) (lv' := [(3, .int x44), (2, .int x43), (0, .ref h_t), (4, .int k39)]) (j := 2) X dX12_goesBack_55 rfl (by rw [ex44]; rfl) (by decide) rfl ?_
          refine z_goto (tgt := 9) X dX12_goesBack_58 (by decide) ?_
          cases hF
          refine z_lv (lv' := [(0, .ref h_t), (2, .int x43), (3, .int x44)]) [2, 1, 0] rfl ?_
          exact ih o41 x43 x44 hL
        obtain ⟨B51, hBB51, hL⟩ := zl1_b hL
        have L45 : ∀ (n : Nat) (k38 : Int32), zl1 B51 n k38 = some k39 → ZW p l e R s m args below meth c D A 5 0 0 Q (w_X12_four cA h_t a_t o26) [(0, .ref h_t), (2, .int k27), (3, .int k28), (4, .int k38)] 16 [] := by
          intro n
          induction n with
          | zero => intro k38 hL; cases hL
          | succ n ih =>
            intro k38 hL
            obtain ⟨zz46, hF, hL⟩ := zl1_e hL
            rw [hBB51] at hF
            refine z_aload_n X dX12_goesBack_16 rfl 0 rfl ?_
            refine z_iload_n X dX12_goesBack_17 rfl 2 rfl ?_
            refine z_iload X dX12_goesBack_18 3 rfl ?_
            refine z_iload_n X dX12_goesBack_20 rfl 1 rfl ?_
            obtain ⟨r47, hc48, hF⟩ := zb1_e hF
            refine z_Vi (As := [.int k28, .int k38, .int k27]) (rest := []) (wc := (w_X12_four cA h_t a_t o26)) (wc' := (w_X12_four cA h_t a_t o26)) (ws' := (w_X12_four cA h_t a_t o26)) (rv := r47) X (cwV 3 X.2.2.2.2.1 gX12_goesBack_X12_fits rfl rfl rfl (by decide +kernel) (by rw [hR]; exact ⟨Nat.le_of_ble_eq_true rfl, Nat.le_of_ble_eq_true rfl⟩)) (fun sz => c_X12_fits l D cA g sz h_t a_t o26 k28 k38 k27 r47 hc48) [0, 1, 2, 3, 4, 5, 6, 7, 8, 9, 10, 11, 12, 13, 14, 15, 16, 17, 18, 19, 20, 21] [1000, 1001, 1002, 1003, 1004, 1005, 1006, 1007, 1008, 1009, 1010, 1011, 1012, 1013, 1014, 1015, 1016, 1017, 1018, 1019, 1020, 1021] rfl (by decide) rfl (by decide) rfl rfl rfl rfl rfl rfl (Nat.le_of_ble_eq_true rfl) dX12_goesBack_21 ⟨Nat.zero_le _, Nat.zero_le _⟩ ?_
            have hF := if_e hF
            refine z_if_ne (tgt := 33) X dX12_goesBack_24 (by decide) (fun c50 => ?_) (fun c50 => ?_)
            · have hF := hF.2 c50
              cases hF
              have hL := Option.some.inj hL
              refine z_lv (lv' := [(0, .ref h_t), (3, .int k28), (4, .int k38)]) [0, 2, 3] rfl ?_
              exact L45_x k38 hL
            · have hF := hF.1 c50
              obtain ⟨x49, ex49, hF⟩ := nx_e hF
              refine z_iinc (v := x49) (lv' := [(4, .int x49), (0, .ref h_t), (2, .int k27), (3, .int k28)]) (j := 3) X dX12_goesBack_27 rfl (by rw [ex49]; rfl) (by decide) rfl ?_
              refine z_goto (tgt := 16) X dX12_goesBack_30 (by decide) ?_
              cases hF
              refine z_lv (lv' := [(0, .ref h_t), (2, .int k27), (3, .int k28), (4, .int x49)]) [1, 2, 3, 0] rfl ?_
              exact ih x49 hL
        refine z_lv (lv' := [(0, .ref h_t), (2, .int k27), (3, .int k28), (4, .int (0 : Int32))]) [1, 2, 3, 0] rfl ?_
        exact L45 FU (0 : Int32) hL
  refine z_lv (lv' := [(0, .ref h_t), (2, .int v1), (3, .int x1)]) [2, 1, 0] rfl ?_
  exact L30 FU o_t v1 x1 hL
set_option maxRecDepth 20000 in
theorem h_X12_plansAll_X12 : ∀ w ∈ wsX120, w ∈ wsX12_plansAll := by decide +kernel
set_option maxRecDepth 20000 in
theorem k_X12_plansAll_7 : ZF wsX12_plansAll RX12 7 12 0 RX12 TX12 47 := ⟨rfl, by decide, h_X12_plansAll_X12, by decide +kernel⟩
set_option maxHeartbeats 8000000 in
set_option maxRecDepth 100000 in
theorem c_X12_plansAll (l : Launch) (D : va_G) (cA : Nat → ClassId) (g : Nat → Nat) (sz : Nat) (h_t : Nat) (a_t : Nat → Nat) (o_t : Ob)  (o_t' : Ob) (rv : Int32) (hF : f_X12_plansAll o_t = some (o_t', rv)) : Met l yX12_plansAll wsX12_plansAll ({ frames := 4, cells := 0, slots := 0, locals := 94 }) (va_Pc [.ref h_t] (PreW D cA g sz (w_X12_four cA h_t a_t o_t))) (va_Qi (fun (r : Int32) (_ : Unit) => r = rv) (PostW D cA sz (w_X12_four cA h_t a_t o_t) (w_X12_four cA h_t a_t o_t')) (va_A (w_X12_four cA h_t a_t o_t) sz)) 0 0 (va_A (w_X12_four cA h_t a_t o_t) sz) := by
  refine z_start (cc := cX12_plansAll) (maxL := 1) (ret := (some .boolean)) (lv0 := [(0, .ref h_t)]) (Qc := fun sz => va_Qi (fun (r : Int32) (_ : Unit) => r = rv) (PostW D cA sz (w_X12_four cA h_t a_t o_t) (w_X12_four cA h_t a_t o_t')) (va_A (w_X12_four cA h_t a_t o_t) sz)) (free := fun sz => va_A (w_X12_four cA h_t a_t o_t) sz) (by decide +kernel) rfl rfl (Nat.le_of_ble_eq_true rfl) ?_
  intro p e R s m args below meth c A Q hR hA hQ X hr hin
  unfold f_X12_plansAll at hF
  refine z_aload_n X dX12_plansAll_0 rfl 0 rfl ?_
  refine z_get (v := .ref (a_t 0)) X k_X12_plansAll_7 0 rfl rfl dX12_plansAll_1 ?_
  refine z_bipush (v := (7 : Int32)) X dX12_plansAll_4 (by decide) ?_
  obtain ⟨g1, hF⟩ := gi_e hF
  refine z_iald X 1 rfl g1 dX12_plansAll_6 ?_
  have hF := if_e hF
  refine z_if_ne (tgt := 12) X dX12_plansAll_7 (by decide) (fun c9 => ?_) (fun c9 => ?_)
  · have hF := hF.2 c9
    refine z_aload_n X dX12_plansAll_12 rfl 0 rfl ?_
    refine z_aload_n X dX12_plansAll_13 rfl 0 rfl ?_
    refine z_aload_n X dX12_plansAll_14 rfl 0 rfl ?_
    refine z_get (v := .ref (a_t 0)) X k_X12_plansAll_7 0 rfl rfl dX12_plansAll_15 ?_
    refine z_bipush (v := (7 : Int32)) X dX12_plansAll_18 (by decide) ?_
    obtain ⟨g2, hF⟩ := gi_e hF
    refine z_iald X 1 rfl g2 dX12_plansAll_20 ?_
    refine z_aload_n X dX12_plansAll_21 rfl 0 rfl ?_
    refine z_get (v := .ref (a_t 0)) X k_X12_plansAll_7 0 rfl rfl dX12_plansAll_22 ?_
    refine z_iconst (v := (0 : Int32)) X dX12_plansAll_25 (by decide) ?_
    obtain ⟨g3, hF⟩ := gi_e hF
    refine z_iald X 1 rfl g3 dX12_plansAll_26 ?_
    refine z_iconst (v := (0 : Int32)) X dX12_plansAll_27 (by decide) ?_
    obtain ⟨o4, r5, hc6, hF⟩ := zb2_e hF
    refine z_Vi (As := [.int (o_t 0 (Int32.toNatClampNeg (7 : Int32))), .int (o_t 0 (Int32.toNatClampNeg (0 : Int32))), .int (0 : Int32)]) (rest := [.ref h_t]) (wc := (w_X12_four cA h_t a_t o_t)) (wc' := (w_X12_four cA h_t a_t o4)) (ws' := (w_X12_four cA h_t a_t o4)) (rv := r5) X (cwV 3 X.2.2.2.2.1 gX12_plansAll_X12_plans rfl rfl rfl (by decide +kernel) (by rw [hR]; exact ⟨Nat.le_of_ble_eq_true rfl, Nat.le_of_ble_eq_true rfl⟩)) (fun sz => c_X12_plans l D cA g sz h_t a_t o_t (o_t 0 (Int32.toNatClampNeg (7 : Int32))) (o_t 0 (Int32.toNatClampNeg (0 : Int32))) (0 : Int32) o4 r5 hc6) [0, 1, 2, 3, 4, 5, 6, 7, 8, 9, 10, 11, 12, 13, 14, 15, 16, 17, 18, 19, 20, 21] [1000, 1001, 1002, 1003, 1004, 1005, 1006, 1007, 1008, 1009, 1010, 1011, 1012, 1013, 1014, 1015, 1016, 1017, 1018, 1019, 1020, 1021] rfl (by decide) rfl (by decide) rfl rfl rfl rfl rfl rfl (Nat.le_of_ble_eq_true rfl) dX12_plansAll_28 ⟨Nat.zero_le _, Nat.zero_le _⟩ ?_
    obtain ⟨o7, hc8, hF⟩ := zb1_e hF
    refine z_Vv (As := [.int r5]) (rest := []) (wc := (w_X12_four cA h_t a_t o4)) (wc' := (w_X12_four cA h_t a_t o7)) (ws' := (w_X12_four cA h_t a_t o7)) X (cwV 1 X.2.2.2.2.1 gX12_plansAll_X12_goesBack rfl rfl rfl (by decide +kernel) (by rw [hR]; exact ⟨Nat.le_of_ble_eq_true rfl, Nat.le_of_ble_eq_true rfl⟩)) (fun sz => c_X12_goesBack l D cA g sz h_t a_t o4 r5 o7 hc8) [0, 1, 2, 3, 4, 5, 6, 7, 8, 9, 10, 11, 12, 13, 14, 15, 16, 17, 18, 19, 20, 21] [1000, 1001, 1002, 1003, 1004, 1005, 1006, 1007, 1008, 1009, 1010, 1011, 1012, 1013, 1014, 1015, 1016, 1017, 1018, 1019, 1020, 1021] rfl (by decide) rfl (by decide) rfl rfl rfl rfl rfl rfl (Nat.le_of_ble_eq_true rfl) dX12_plansAll_31 ⟨Nat.zero_le _, Nat.zero_le _⟩ ?_
    refine z_iconst (v := (1 : Int32)) X dX12_plansAll_34 (by decide) ?_
    cases hF
    exact z_zret X hA hQ hr (Or.inr rfl)  rfl dX12_plansAll_35 (Nat.le_refl _) (Nat.le_refl _)
  · have hF := hF.1 c9
    refine z_iconst (v := (0 : Int32)) X dX12_plansAll_10 (by decide) ?_
    cases hF
    exact z_zret X hA hQ hr (Or.inl rfl)  rfl dX12_plansAll_11 (Nat.le_refl _) (Nat.le_refl _)
set_option maxRecDepth 20000 in
theorem h_X12_best_X12 : ∀ w ∈ wsX120, w ∈ wsX12_best := by decide +kernel
set_option maxRecDepth 20000 in
theorem k_X12_best_7 : ZF wsX12_best RX12 7 12 0 RX12 TX12 47 := ⟨rfl, by decide, h_X12_best_X12, by decide +kernel⟩
set_option maxHeartbeats 8000000 in
set_option maxRecDepth 100000 in
theorem c_X12_best (l : Launch) (D : va_G) (cA : Nat → ClassId) (g : Nat → Nat) (sz : Nat) (h_t : Nat) (a_t : Nat → Nat) (o_t : Ob)  (o_t' : Ob) (rv : Int32) (hF : f_X12_best o_t = some (o_t', rv)) : Met l yX12_best wsX12_best ({ frames := 4, cells := 0, slots := 0, locals := 94 }) (va_Pc [.ref h_t] (PreW D cA g sz (w_X12_four cA h_t a_t o_t))) (va_Qi (fun (r : Int32) (_ : Unit) => r = rv) (PostW D cA sz (w_X12_four cA h_t a_t o_t) (w_X12_four cA h_t a_t o_t')) (va_A (w_X12_four cA h_t a_t o_t) sz)) 0 0 (va_A (w_X12_four cA h_t a_t o_t) sz) := by
  refine z_start (cc := cX12_best) (maxL := 1) (ret := (some .int)) (lv0 := [(0, .ref h_t)]) (Qc := fun sz => va_Qi (fun (r : Int32) (_ : Unit) => r = rv) (PostW D cA sz (w_X12_four cA h_t a_t o_t) (w_X12_four cA h_t a_t o_t')) (va_A (w_X12_four cA h_t a_t o_t) sz)) (free := fun sz => va_A (w_X12_four cA h_t a_t o_t) sz) (by decide +kernel) rfl rfl (Nat.le_of_ble_eq_true rfl) ?_
  intro p e R s m args below meth c A Q hR hA hQ X hr hin
  unfold f_X12_best at hF
  refine z_aload_n X dX12_best_0 rfl 0 rfl ?_
  refine z_get (v := .ref (a_t 0)) X k_X12_best_7 0 rfl rfl dX12_best_1 ?_
  refine z_bipush (v := (7 : Int32)) X dX12_best_4 (by decide) ?_
  obtain ⟨g1, hF⟩ := gi_e hF
  refine z_iald X 1 rfl g1 dX12_best_6 ?_
  have hF := if_e hF
  refine z_if_ne (tgt := 14) X dX12_best_7 (by decide) (fun c7 => ?_) (fun c7 => ?_)
  · have hF := hF.2 c7
    refine z_aload_n X dX12_best_14 rfl 0 rfl ?_
    refine z_aload_n X dX12_best_15 rfl 0 rfl ?_
    refine z_get (v := .ref (a_t 0)) X k_X12_best_7 0 rfl rfl dX12_best_16 ?_
    refine z_bipush (v := (7 : Int32)) X dX12_best_19 (by decide) ?_
    obtain ⟨g2, hF⟩ := gi_e hF
    refine z_iald X 1 rfl g2 dX12_best_21 ?_
    refine z_aload_n X dX12_best_22 rfl 0 rfl ?_
    refine z_get (v := .ref (a_t 0)) X k_X12_best_7 0 rfl rfl dX12_best_23 ?_
    refine z_iconst (v := (0 : Int32)) X dX12_best_26 (by decide) ?_
    obtain ⟨g3, hF⟩ := gi_e hF
    refine z_iald X 1 rfl g3 dX12_best_27 ?_
    refine z_iconst (v := (0 : Int32)) X dX12_best_28 (by decide) ?_
    obtain ⟨o4, r5, hc6, hF⟩ := zb2_e hF
    refine z_Vi (As := [.int (o_t 0 (Int32.toNatClampNeg (7 : Int32))), .int (o_t 0 (Int32.toNatClampNeg (0 : Int32))), .int (0 : Int32)]) (rest := []) (wc := (w_X12_four cA h_t a_t o_t)) (wc' := (w_X12_four cA h_t a_t o4)) (ws' := (w_X12_four cA h_t a_t o4)) (rv := r5) X (cwV 3 X.2.2.2.2.1 gX12_best_X12_plans rfl rfl rfl (by decide +kernel) (by rw [hR]; exact ⟨Nat.le_of_ble_eq_true rfl, Nat.le_of_ble_eq_true rfl⟩)) (fun sz => c_X12_plans l D cA g sz h_t a_t o_t (o_t 0 (Int32.toNatClampNeg (7 : Int32))) (o_t 0 (Int32.toNatClampNeg (0 : Int32))) (0 : Int32) o4 r5 hc6) [0, 1, 2, 3, 4, 5, 6, 7, 8, 9, 10, 11, 12, 13, 14, 15, 16, 17, 18, 19, 20, 21] [1000, 1001, 1002, 1003, 1004, 1005, 1006, 1007, 1008, 1009, 1010, 1011, 1012, 1013, 1014, 1015, 1016, 1017, 1018, 1019, 1020, 1021] rfl (by decide) rfl (by decide) rfl rfl rfl rfl rfl rfl (Nat.le_of_ble_eq_true rfl) dX12_best_29 ⟨Nat.zero_le _, Nat.zero_le _⟩ ?_
    cases hF
    exact z_iret X hA hQ hr rfl dX12_best_32 (Nat.le_refl _) (Nat.le_refl _)
  · have hF := hF.1 c7
    refine z_iconst (v := (-1 : Int32)) X dX12_best_10 (by decide) ?_
    refine z_goto (tgt := 32) X dX12_best_11 (by decide) ?_
    cases hF
    exact z_iret X hA hQ hr rfl dX12_best_32 (Nat.le_refl _) (Nat.le_refl _)
set_option maxRecDepth 20000 in
theorem h_X12_paidAt_X12 : ∀ w ∈ wsX120, w ∈ wsX12_paidAt := by decide +kernel
set_option maxRecDepth 20000 in
theorem k_X12_paidAt_51 : ZF wsX12_paidAt RX12 51 12 29 RX12 TX12 47 := ⟨rfl, by decide, h_X12_paidAt_X12, by decide +kernel⟩
set_option maxHeartbeats 8000000 in
set_option maxRecDepth 100000 in
theorem c_X12_paidAt (l : Launch) (D : va_G) (cA : Nat → ClassId) (g : Nat → Nat) (sz : Nat) (h_t : Nat) (a_t : Nat → Nat) (o_t : Ob) (v1 : Int32) (rv : Int32) (hF : f_X12_paidAt o_t v1 = some rv) : Met l yX12_paidAt wsX12_paidAt ({ frames := 2, cells := 0, slots := 0, locals := 44 }) (va_Pc [.ref h_t, .int v1] (PreW D cA g sz (w_X12_four cA h_t a_t o_t))) (va_Qi (fun (r : Int32) (_ : Unit) => r = rv) (PostW D cA sz (w_X12_four cA h_t a_t o_t) (w_X12_four cA h_t a_t o_t)) (va_A (w_X12_four cA h_t a_t o_t) sz)) 0 0 (va_A (w_X12_four cA h_t a_t o_t) sz) := by
  refine z_start (cc := cX12_paidAt) (maxL := 2) (ret := (some .int)) (lv0 := [(0, .ref h_t), (1, .int v1)]) (Qc := fun sz => va_Qi (fun (r : Int32) (_ : Unit) => r = rv) (PostW D cA sz (w_X12_four cA h_t a_t o_t) (w_X12_four cA h_t a_t o_t)) (va_A (w_X12_four cA h_t a_t o_t) sz)) (free := fun sz => va_A (w_X12_four cA h_t a_t o_t) sz) (by decide +kernel) rfl rfl (Nat.le_of_ble_eq_true rfl) ?_
  intro p e R s m args below meth c A Q hR hA hQ X hr hin
  unfold f_X12_paidAt at hF
  refine z_aload_n X dX12_paidAt_0 rfl 0 rfl ?_
  refine z_aload_n X dX12_paidAt_1 rfl 0 rfl ?_
  refine z_get (v := .ref (a_t 29)) X k_X12_paidAt_51 0 rfl rfl dX12_paidAt_2 ?_
  refine z_iload_n X dX12_paidAt_5 rfl 1 rfl ?_
  obtain ⟨g1, hF⟩ := gi_e hF
  refine z_iald X 14 rfl g1 dX12_paidAt_6 ?_
  refine z_iload_n X dX12_paidAt_7 rfl 1 rfl ?_
  obtain ⟨K5, eK5, hF⟩ := nx_e hF
  have K5_l : ∀ (j4 : Int32), K5 j4 = some rv → ZW p l e R s m args below meth c D A 2 0 0 Q (w_X12_four cA h_t a_t o_t) [(0, .ref h_t), (1, .int v1)] 23 [.int j4, .int (o_t 29 (Int32.toNatClampNeg v1)), .ref h_t] := by
    intro j4 hF
    rw [eK5] at hF
    refine z_iconst (v := (-1 : Int32)) X dX12_paidAt_23 (by decide) ?_
    refine z_ixor X dX12_paidAt_24 ?_
    refine z_iand X dX12_paidAt_25 ?_
    obtain ⟨r6, hc7, hF⟩ := zb1_e hF
    refine z_Vi (As := [.int ((o_t 29 (Int32.toNatClampNeg v1)) &&& (j4 ^^^ (-1 : Int32)))]) (rest := []) (wc := (w_X12_four cA h_t a_t o_t)) (wc' := (w_X12_four cA h_t a_t o_t)) (ws' := (w_X12_four cA h_t a_t o_t)) (rv := r6) X (cwV 1 X.2.2.2.2.1 gX12_paidAt_X12_priceOf rfl rfl rfl (by decide +kernel) (by rw [hR]; exact ⟨Nat.le_of_ble_eq_true rfl, Nat.le_of_ble_eq_true rfl⟩)) (fun sz => c_X12_priceOf l D cA g sz h_t a_t o_t ((o_t 29 (Int32.toNatClampNeg v1)) &&& (j4 ^^^ (-1 : Int32))) r6 hc7) [0, 1, 2, 3, 4, 5, 6, 7, 8, 9, 10, 11, 12, 13, 14, 15, 16, 17, 18, 19, 20, 21] [1000, 1001, 1002, 1003, 1004, 1005, 1006, 1007, 1008, 1009, 1010, 1011, 1012, 1013, 1014, 1015, 1016, 1017, 1018, 1019, 1020, 1021] rfl (by decide) rfl (by decide) rfl rfl rfl rfl rfl rfl (Nat.le_of_ble_eq_true rfl) dX12_paidAt_26 ⟨Nat.zero_le _, Nat.zero_le _⟩ ?_
    refine z_aload_n X dX12_paidAt_29 rfl 0 rfl ?_
    refine z_iload_n X dX12_paidAt_30 rfl 1 rfl ?_
    refine z_aload_n X dX12_paidAt_31 rfl 0 rfl ?_
    refine z_get (v := .ref (a_t 29)) X k_X12_paidAt_51 0 rfl rfl dX12_paidAt_32 ?_
    refine z_iload_n X dX12_paidAt_35 rfl 1 rfl ?_
    obtain ⟨g8, hF⟩ := gi_e hF
    refine z_iald X 14 rfl g8 dX12_paidAt_36 ?_
    obtain ⟨r9, hc10, hF⟩ := zb1_e hF
    refine z_Vi (As := [.int v1, .int (o_t 29 (Int32.toNatClampNeg v1))]) (rest := [.int r6]) (wc := (w_X12_four cA h_t a_t o_t)) (wc' := (w_X12_four cA h_t a_t o_t)) (ws' := (w_X12_four cA h_t a_t o_t)) (rv := r9) X (cwV 2 X.2.2.2.2.1 gX12_paidAt_X12_rentAt rfl rfl rfl (by decide +kernel) (by rw [hR]; exact ⟨Nat.le_of_ble_eq_true rfl, Nat.le_of_ble_eq_true rfl⟩)) (fun sz => c_X12_rentAt l D cA g sz h_t a_t o_t v1 (o_t 29 (Int32.toNatClampNeg v1)) r9 hc10) [0, 1, 2, 3, 4, 5, 6, 7, 8, 9, 10, 11, 12, 13, 14, 15, 16, 17, 18, 19, 20, 21] [1000, 1001, 1002, 1003, 1004, 1005, 1006, 1007, 1008, 1009, 1010, 1011, 1012, 1013, 1014, 1015, 1016, 1017, 1018, 1019, 1020, 1021] rfl (by decide) rfl (by decide) rfl rfl rfl rfl rfl rfl (Nat.le_of_ble_eq_true rfl) dX12_paidAt_37 ⟨Nat.zero_le _, Nat.zero_le _⟩ ?_
    refine z_iadd X dX12_paidAt_40 ?_
    cases hF
    exact z_iret X hA hQ hr rfl dX12_paidAt_41 (Nat.le_refl _) (Nat.le_refl _)
  have hF := if_e hF
  refine z_if_ne (tgt := 15) X dX12_paidAt_8 (by decide) (fun c12 => ?_) (fun c12 => ?_)
  · have hF := hF.2 c12
    refine z_aload_n X dX12_paidAt_15 rfl 0 rfl ?_
    refine z_get (v := .ref (a_t 29)) X k_X12_paidAt_51 0 rfl rfl dX12_paidAt_16 ?_
    refine z_iload_n X dX12_paidAt_19 rfl 1 rfl ?_
    refine z_iconst (v := (1 : Int32)) X dX12_paidAt_20 (by decide) ?_
    refine z_isub X dX12_paidAt_21 ?_
    obtain ⟨g11, hF⟩ := gi_e hF
    refine z_iald X 14 rfl g11 dX12_paidAt_22 ?_
    refine z_lv (lv' := [(0, .ref h_t), (1, .int v1)]) [0, 1] rfl ?_
    exact K5_l (o_t 29 (Int32.toNatClampNeg (v1 - (1 : Int32)))) hF
  · have hF := hF.1 c12
    refine z_iconst (v := (0 : Int32)) X dX12_paidAt_11 (by decide) ?_
    refine z_goto (tgt := 23) X dX12_paidAt_12 (by decide) ?_
    refine z_lv (lv' := [(0, .ref h_t), (1, .int v1)]) [0, 1] rfl ?_
    exact K5_l (0 : Int32) hF
set_option maxRecDepth 20000 in
theorem h_X12_plan_X12 : ∀ w ∈ wsX120, w ∈ wsX12_plan := by decide +kernel
set_option maxRecDepth 20000 in
theorem k_X12_plan_51 : ZF wsX12_plan RX12 51 12 29 RX12 TX12 47 := ⟨rfl, by decide, h_X12_plan_X12, by decide +kernel⟩
set_option maxHeartbeats 8000000 in
set_option maxRecDepth 100000 in
theorem c_X12_plan (l : Launch) (D : va_G) (cA : Nat → ClassId) (g : Nat → Nat) (sz : Nat) (h_t : Nat) (a_t : Nat → Nat) (o_t : Ob) (v1 : Int32) (v2 : Int32) (o_t' : Ob) (rv : Int32) (hF : f_X12_plan o_t v1 v2 = some (o_t', rv)) : Met l yX12_plan wsX12_plan ({ frames := 5, cells := 0, slots := 0, locals := 114 }) (va_Pc [.ref h_t, .int v1, .int v2] (PreW D cA g sz (w_X12_four cA h_t a_t o_t))) (va_Qi (fun (r : Int32) (_ : Unit) => r = rv) (PostW D cA sz (w_X12_four cA h_t a_t o_t) (w_X12_four cA h_t a_t o_t')) (va_A (w_X12_four cA h_t a_t o_t) sz)) 0 0 (va_A (w_X12_four cA h_t a_t o_t) sz) := by
  refine z_start (cc := cX12_plan) (maxL := 3) (ret := (some .int)) (lv0 := [(0, .ref h_t), (1, .int v1), (2, .int v2)]) (Qc := fun sz => va_Qi (fun (r : Int32) (_ : Unit) => r = rv) (PostW D cA sz (w_X12_four cA h_t a_t o_t) (w_X12_four cA h_t a_t o_t')) (va_A (w_X12_four cA h_t a_t o_t) sz)) (free := fun sz => va_A (w_X12_four cA h_t a_t o_t) sz) (by decide +kernel) rfl rfl (Nat.le_of_ble_eq_true rfl) ?_
  intro p e R s m args below meth c A Q hR hA hQ X hr hin
  unfold f_X12_plan at hF
  refine z_aload_n X dX12_plan_0 rfl 0 rfl ?_
  refine z_iload_n X dX12_plan_1 rfl 1 rfl ?_
  obtain ⟨r1, hc2, hF⟩ := zb1_e hF
  refine z_Vi (As := [.int v1]) (rest := []) (wc := (w_X12_four cA h_t a_t o_t)) (wc' := (w_X12_four cA h_t a_t o_t)) (ws' := (w_X12_four cA h_t a_t o_t)) (rv := r1) X (cwV 1 X.2.2.2.2.1 gX12_plan_X12_isLogged rfl rfl rfl (by decide +kernel) (by rw [hR]; exact ⟨Nat.le_of_ble_eq_true rfl, Nat.le_of_ble_eq_true rfl⟩)) (fun sz => c_X12_isLogged l D cA g sz h_t a_t o_t v1 r1 hc2) [0, 1, 2, 3, 4, 5, 6, 7, 8, 9, 10, 11, 12, 13, 14, 15, 16, 17, 18, 19, 20, 21] [1000, 1001, 1002, 1003, 1004, 1005, 1006, 1007, 1008, 1009, 1010, 1011, 1012, 1013, 1014, 1015, 1016, 1017, 1018, 1019, 1020, 1021] rfl (by decide) rfl (by decide) rfl rfl rfl rfl rfl rfl (Nat.le_of_ble_eq_true rfl) dX12_plan_2 ⟨Nat.zero_le _, Nat.zero_le _⟩ ?_
  have hF := if_e hF
  refine z_if_eq (tgt := 17) X dX12_plan_5 (by decide) (fun c13 => ?_) (fun c13 => ?_)
  · have hF := hF.1 c13
    refine z_iconst (v := (-1 : Int32)) X dX12_plan_17 (by decide) ?_
    cases hF
    exact z_iret X hA hQ hr rfl dX12_plan_18 (Nat.le_refl _) (Nat.le_refl _)
  · have hF := hF.2 c13
    refine z_iload_n X dX12_plan_8 rfl 2 rfl ?_
    refine z_iconst (v := (0 : Int32)) X dX12_plan_9 (by decide) ?_
    refine z_iconst (v := (1 : Int32)) X dX12_plan_10 (by decide) ?_
    obtain ⟨r3, hc4, hF⟩ := zb1_e hF
    refine z_Si (As := [.int v2, .int (0 : Int32), .int (1 : Int32)]) (rest := []) (wc := ([] : va_W)) (wc' := ([] : va_W)) (ws' := (w_X12_four cA h_t a_t o_t)) (rv := r3) X (va_cwS 3 X.2.2.2.2.1 gX12_plan_X12_isIn rfl rfl rfl (by decide +kernel) (by rw [hR]; exact ⟨Nat.le_of_ble_eq_true rfl, Nat.le_of_ble_eq_true rfl⟩)) (fun sz => c_X12_isIn l D cA g sz v2 (0 : Int32) (1 : Int32) r3 hc4) [] [0, 1, 2, 3, 4, 5, 6, 7, 8, 9, 10, 11, 12, 13, 14, 15, 16, 17, 18, 19, 20, 21] rfl (by decide) rfl (by decide) rfl rfl rfl (Nat.le_of_ble_eq_true rfl) dX12_plan_11 ⟨Nat.zero_le _, Nat.zero_le _⟩ ?_
    have hF := if_e hF
    refine z_if_ne (tgt := 19) X dX12_plan_14 (by decide) (fun c12 => ?_) (fun c12 => ?_)
    · have hF := hF.2 c12
      refine z_aload_n X dX12_plan_19 rfl 0 rfl ?_
      obtain ⟨o5, r6, hc7, hF⟩ := zb2_e hF
      refine z_Vi (As := []) (rest := []) (wc := (w_X12_four cA h_t a_t o_t)) (wc' := (w_X12_four cA h_t a_t o5)) (ws' := (w_X12_four cA h_t a_t o5)) (rv := r6) X (cwV 0 X.2.2.2.2.1 gX12_plan_X12_plansAll rfl rfl rfl (by decide +kernel) (by rw [hR]; exact ⟨Nat.le_of_ble_eq_true rfl, Nat.le_of_ble_eq_true rfl⟩)) (fun sz => c_X12_plansAll l D cA g sz h_t a_t o_t o5 r6 hc7) [0, 1, 2, 3, 4, 5, 6, 7, 8, 9, 10, 11, 12, 13, 14, 15, 16, 17, 18, 19, 20, 21] [1000, 1001, 1002, 1003, 1004, 1005, 1006, 1007, 1008, 1009, 1010, 1011, 1012, 1013, 1014, 1015, 1016, 1017, 1018, 1019, 1020, 1021] rfl (by decide) rfl (by decide) rfl rfl rfl rfl rfl rfl (Nat.le_of_ble_eq_true rfl) dX12_plan_20 ⟨Nat.zero_le _, Nat.zero_le _⟩ ?_
      refine z_pop X dX12_plan_23 rfl ?_
      refine z_iload_n X dX12_plan_24 rfl 2 rfl ?_
      have hF := if_e hF
      refine z_if_ne (tgt := 36) X dX12_plan_25 (by decide) (fun c11 => ?_) (fun c11 => ?_)
      · have hF := hF.2 c11
        refine z_aload_n X dX12_plan_36 rfl 0 rfl ?_
        refine z_get (v := .ref (a_t 29)) X k_X12_plan_51 0 rfl rfl dX12_plan_37 ?_
        refine z_iload_n X dX12_plan_40 rfl 1 rfl ?_
        obtain ⟨g8, hF⟩ := gi_e hF
        refine z_iald X 14 rfl g8 dX12_plan_41 ?_
        cases hF
        exact z_iret X hA hQ hr rfl dX12_plan_42 (Nat.le_refl _) (Nat.le_refl _)
      · have hF := hF.1 c11
        refine z_aload_n X dX12_plan_28 rfl 0 rfl ?_
        refine z_iload_n X dX12_plan_29 rfl 1 rfl ?_
        obtain ⟨r9, hc10, hF⟩ := zb1_e hF
        refine z_Vi (As := [.int v1]) (rest := []) (wc := (w_X12_four cA h_t a_t o5)) (wc' := (w_X12_four cA h_t a_t o5)) (ws' := (w_X12_four cA h_t a_t o5)) (rv := r9) X (cwV 1 X.2.2.2.2.1 gX12_plan_X12_paidAt rfl rfl rfl (by decide +kernel) (by rw [hR]; exact ⟨Nat.le_of_ble_eq_true rfl, Nat.le_of_ble_eq_true rfl⟩)) (fun sz => c_X12_paidAt l D cA g sz h_t a_t o5 v1 r9 hc10) [0, 1, 2, 3, 4, 5, 6, 7, 8, 9, 10, 11, 12, 13, 14, 15, 16, 17, 18, 19, 20, 21] [1000, 1001, 1002, 1003, 1004, 1005, 1006, 1007, 1008, 1009, 1010, 1011, 1012, 1013, 1014, 1015, 1016, 1017, 1018, 1019, 1020, 1021] rfl (by decide) rfl (by decide) rfl rfl rfl rfl rfl rfl (Nat.le_of_ble_eq_true rfl) dX12_plan_30 ⟨Nat.zero_le _, Nat.zero_le _⟩ ?_
        refine z_goto (tgt := 42) X dX12_plan_33 (by decide) ?_
        cases hF
        exact z_iret X hA hQ hr rfl dX12_plan_42 (Nat.le_refl _) (Nat.le_refl _)
    · have hF := hF.1 c12
      refine z_iconst (v := (-1 : Int32)) X dX12_plan_17 (by decide) ?_
      cases hF
      exact z_iret X hA hQ hr rfl dX12_plan_18 (Nat.le_refl _) (Nat.le_refl _)
set_option maxRecDepth 20000 in
theorem h_X12_potentialAt_X12 : ∀ w ∈ wsX120, w ∈ wsX12_potentialAt := by decide +kernel
set_option maxRecDepth 20000 in
theorem k_X12_potentialAt_7 : ZF wsX12_potentialAt RX12 7 12 0 RX12 TX12 47 := ⟨rfl, by decide, h_X12_potentialAt_X12, by decide +kernel⟩
set_option maxRecDepth 20000 in
theorem k_X12_potentialAt_51 : ZF wsX12_potentialAt RX12 51 12 29 RX12 TX12 47 := ⟨rfl, by decide, h_X12_potentialAt_X12, by decide +kernel⟩
set_option maxHeartbeats 8000000 in
set_option maxRecDepth 100000 in
theorem c_X12_potentialAt (l : Launch) (D : va_G) (cA : Nat → ClassId) (g : Nat → Nat) (sz : Nat) (h_t : Nat) (a_t : Nat → Nat) (o_t : Ob) (v1 : Int32) (rv : Int32) (hF : f_X12_potentialAt o_t v1 = some rv) : Met l yX12_potentialAt wsX12_potentialAt ({ frames := 1, cells := 0, slots := 0, locals := 21 }) (va_Pc [.ref h_t, .int v1] (PreW D cA g sz (w_X12_four cA h_t a_t o_t))) (va_Qi (fun (r : Int32) (_ : Unit) => r = rv) (PostW D cA sz (w_X12_four cA h_t a_t o_t) (w_X12_four cA h_t a_t o_t)) (va_A (w_X12_four cA h_t a_t o_t) sz)) 0 0 (va_A (w_X12_four cA h_t a_t o_t) sz) := by
  refine z_start (cc := cX12_potentialAt) (maxL := 5) (ret := (some .int)) (lv0 := [(0, .ref h_t), (1, .int v1)]) (Qc := fun sz => va_Qi (fun (r : Int32) (_ : Unit) => r = rv) (PostW D cA sz (w_X12_four cA h_t a_t o_t) (w_X12_four cA h_t a_t o_t)) (va_A (w_X12_four cA h_t a_t o_t) sz)) (free := fun sz => va_A (w_X12_four cA h_t a_t o_t) sz) (by decide +kernel) rfl rfl (Nat.le_of_ble_eq_true rfl) ?_
  intro p e R s m args below meth c A Q hR hA hQ X hr hin
  unfold f_X12_potentialAt at hF
  refine z_iload_n X dX12_potentialAt_0 rfl 1 rfl ?_
  have hF := if_e hF
  refine z_if_ge (tgt := 6) X dX12_potentialAt_1 (by decide) (fun c82 => ?_) (fun c82 => ?_)
  · have hF := hF.1 c82
    refine z_iconst (v := (0 : Int32)) X dX12_potentialAt_6 (by decide) ?_
    refine z_istore_n (lv' := [(2, .int (0 : Int32)), (0, .ref h_t), (1, .int v1)]) X dX12_potentialAt_7 rfl (by decide) rfl ?_
    refine z_iconst (v := (0 : Int32)) X dX12_potentialAt_8 (by decide) ?_
    refine z_istore_n (lv' := [(3, .int (0 : Int32)), (2, .int (0 : Int32)), (0, .ref h_t), (1, .int v1)]) X dX12_potentialAt_9 rfl (by decide) rfl ?_
    obtain ⟨k42, hL, hF⟩ := zb1_e hF
    have L43_x : ∀ (k42' : Int32), k42' = k42 → ZW p l e R s m args below meth c D A 5 0 0 Q (w_X12_four cA h_t a_t o_t) [(2, .int k42')] 151 [] := by
      intro k42' hz
      cases hz
      refine z_iload_n X dX12_potentialAt_151 rfl 0 rfl ?_
      cases hF
      exact z_iret X hA hQ hr rfl dX12_potentialAt_152 (Nat.le_refl _) (Nat.le_refl _)
    obtain ⟨B81, hBB81, hL⟩ := zl2_b hL
    have L43 : ∀ (n : Nat) (k40 : Int32) (k41 : Int32), zl2 B81 n k40 k41 = some k42 → ZW p l e R s m args below meth c D A 5 0 0 Q (w_X12_four cA h_t a_t o_t) [(0, .ref h_t), (1, .int v1), (2, .int k40), (3, .int k41)] 10 [] := by
      intro n
      induction n with
      | zero => intro k40 k41 hL; cases hL
      | succ n ih =>
        intro k40 k41 hL
        obtain ⟨zz44, hF, hL⟩ := zl2_e hL
        rw [hBB81] at hF
        refine z_iload_n X dX12_potentialAt_10 rfl 3 rfl ?_
        refine z_aload_n X dX12_potentialAt_11 rfl 0 rfl ?_
        refine z_get (v := .ref (a_t 0)) X k_X12_potentialAt_7 0 rfl rfl dX12_potentialAt_12 ?_
        refine z_iconst (v := (2 : Int32)) X dX12_potentialAt_15 (by decide) ?_
        obtain ⟨g45, hF⟩ := gi_e hF
        refine z_iald X 1 rfl g45 dX12_potentialAt_16 ?_
        have hF := if_e hF
        refine z_icmp_ge (tgt := 151) X dX12_potentialAt_17 (by decide) (fun c80 => ?_) (fun c80 => ?_)
        · have hF := hF.1 c80
          cases hF
          have hL := Option.some.inj hL
          refine z_lv (lv' := [(2, .int k40)]) [2] rfl ?_
          exact L43_x k40 hL
        · have hF := hF.2 c80
          refine z_aload_n X dX12_potentialAt_20 rfl 0 rfl ?_
          refine z_get (v := .ref (a_t 0)) X k_X12_potentialAt_7 0 rfl rfl dX12_potentialAt_21 ?_
          refine z_sipush (v := (224 : Int32)) X dX12_potentialAt_24 (by decide) ?_
          refine z_bipush (v := (8 : Int32)) X dX12_potentialAt_27 (by decide) ?_
          refine z_iload_n X dX12_potentialAt_29 rfl 1 rfl ?_
          refine z_imul X dX12_potentialAt_30 ?_
          refine z_iadd X dX12_potentialAt_31 ?_
          refine z_iload_n X dX12_potentialAt_32 rfl 3 rfl ?_
          refine z_iadd X dX12_potentialAt_33 ?_
          obtain ⟨g46, hF⟩ := gi_e hF
          refine z_iald X 1 rfl g46 dX12_potentialAt_34 ?_
          refine z_aload_n X dX12_potentialAt_35 rfl 0 rfl ?_
          refine z_get (v := .ref (a_t 0)) X k_X12_potentialAt_7 0 rfl rfl dX12_potentialAt_36 ?_
          refine z_bipush (v := (8 : Int32)) X dX12_potentialAt_39 (by decide) ?_
          refine z_iload_n X dX12_potentialAt_41 rfl 3 rfl ?_
          refine z_iadd X dX12_potentialAt_42 ?_
          obtain ⟨g47, hF⟩ := gi_e hF
          refine z_iald X 1 rfl g47 dX12_potentialAt_43 ?_
          refine z_imul X dX12_potentialAt_44 ?_
          obtain ⟨x48, ex48, hF⟩ := nx_e hF
          refine z_nm ex48 ?_
          refine z_istore (lv' := [(4, .int x48), (0, .ref h_t), (1, .int v1), (2, .int k40), (3, .int k41)]) X dX12_potentialAt_45 (by decide) rfl ?_
          refine z_iload_n X dX12_potentialAt_47 rfl 3 rfl ?_
          refine z_aload_n X dX12_potentialAt_48 rfl 1 rfl ?_
          refine z_get (v := .ref (a_t 0)) X k_X12_potentialAt_7 0 rfl rfl dX12_potentialAt_49 ?_
          refine z_sipush (v := (184 : Int32)) X dX12_potentialAt_52 (by decide) ?_
          refine z_iload_n X dX12_potentialAt_55 rfl 2 rfl ?_
          refine z_iadd X dX12_potentialAt_56 ?_
          obtain ⟨g49, hF⟩ := gi_e hF
          refine z_iald X 1 rfl g49 dX12_potentialAt_57 ?_
          refine z_iload_n X dX12_potentialAt_58 rfl 4 rfl ?_
          obtain ⟨r50, hc51, hF⟩ := zb1_e hF
          refine z_Si (As := [.int (o_t 0 (Int32.toNatClampNeg ((184 : Int32) + v1))), .int k41]) (rest := [.int k40]) (wc := ([] : va_W)) (wc' := ([] : va_W)) (ws' := (w_X12_four cA h_t a_t o_t)) (rv := r50) X (va_cwS 2 X.2.2.2.2.1 gX12_potentialAt_X12_bitOf rfl rfl rfl (by decide +kernel) (by rw [hR]; exact ⟨Nat.le_of_ble_eq_true rfl, Nat.le_of_ble_eq_true rfl⟩)) (fun sz => c_X12_bitOf l D cA g sz (o_t 0 (Int32.toNatClampNeg ((184 : Int32) + v1))) k41 r50 hc51) [] [0, 1, 2, 3, 4, 5, 6, 7, 8, 9, 10, 11, 12, 13, 14, 15, 16, 17, 18, 19, 20, 21] rfl (by decide) rfl (by decide) rfl rfl rfl (Nat.le_of_ble_eq_true rfl) dX12_potentialAt_59 ⟨Nat.zero_le _, Nat.zero_le _⟩ ?_
          obtain ⟨K55, eK55, hF⟩ := nx_e hF
          have K55_l : ∀ (j54 : Int32), K55 j54 = some zz44 → ZW p l e R s m args below meth c D A 5 0 0 Q (w_X12_four cA h_t a_t o_t) [(0, .ref h_t), (1, .int v1), (3, .int k41), (4, .int x48)] 80 [.int j54, .int k40] := by
            intro j54 hF
            rw [eK55] at hF
            refine z_iadd X dX12_potentialAt_80 ?_
            obtain ⟨x56, ex56, hF⟩ := nx_e hF
            refine z_nm ex56 ?_
            refine z_istore_n (lv' := [(2, .int x56), (0, .ref h_t), (1, .int v1), (3, .int k41), (4, .int x48)]) X dX12_potentialAt_81 rfl (by decide) rfl ?_
            refine z_iload_n X dX12_potentialAt_82 rfl 0 rfl ?_
            refine z_aload_n X dX12_potentialAt_83 rfl 1 rfl ?_
            refine z_get (v := .ref (a_t 29)) X k_X12_potentialAt_51 0 rfl rfl dX12_potentialAt_84 ?_
            refine z_iload_n X dX12_potentialAt_87 rfl 2 rfl ?_
            obtain ⟨g57, hF⟩ := gi_e hF
            refine z_iald X 14 rfl g57 dX12_potentialAt_88 ?_
            refine z_iload_n X dX12_potentialAt_89 rfl 3 rfl ?_
            obtain ⟨r58, hc59, hF⟩ := zb1_e hF
            refine z_Si (As := [.int (o_t 29 (Int32.toNatClampNeg v1)), .int k41]) (rest := [.int x56]) (wc := ([] : va_W)) (wc' := ([] : va_W)) (ws' := (w_X12_four cA h_t a_t o_t)) (rv := r58) X (va_cwS 2 X.2.2.2.2.1 gX12_potentialAt_X12_bitOf rfl rfl rfl (by decide +kernel) (by rw [hR]; exact ⟨Nat.le_of_ble_eq_true rfl, Nat.le_of_ble_eq_true rfl⟩)) (fun sz => c_X12_bitOf l D cA g sz (o_t 29 (Int32.toNatClampNeg v1)) k41 r58 hc59) [] [0, 1, 2, 3, 4, 5, 6, 7, 8, 9, 10, 11, 12, 13, 14, 15, 16, 17, 18, 19, 20, 21] rfl (by decide) rfl (by decide) rfl rfl rfl (Nat.le_of_ble_eq_true rfl) dX12_potentialAt_90 ⟨Nat.zero_le _, Nat.zero_le _⟩ ?_
            obtain ⟨K68, eK68, hF⟩ := nx_e hF
            have K68_l : ∀ (j67 : Int32), K68 j67 = some zz44 → ZW p l e R s m args below meth c D A 5 0 0 Q (w_X12_four cA h_t a_t o_t) [(0, .ref h_t), (1, .int v1), (3, .int k41)] 143 [.int j67, .int x56] := by
              intro j67 hF
              rw [eK68] at hF
              refine z_iadd X dX12_potentialAt_143 ?_
              obtain ⟨x69, ex69, hF⟩ := nx_e hF
              refine z_nm ex69 ?_
              refine z_istore_n (lv' := [(2, .int x69), (0, .ref h_t), (1, .int v1), (3, .int k41)]) X dX12_potentialAt_144 rfl (by decide) rfl ?_
              obtain ⟨x70, ex70, hF⟩ := nx_e hF
              refine z_iinc (v := x70) (lv' := [(3, .int x70), (2, .int x69), (0, .ref h_t), (1, .int v1)]) (j := 3) X dX12_potentialAt_145 rfl (by rw [ex70]; rfl) (by decide) rfl ?_
              refine z_goto (tgt := 10) X dX12_potentialAt_148 (by decide) ?_
              cases hF
              refine z_lv (lv' := [(0, .ref h_t), (1, .int v1), (2, .int x69), (3, .int x70)]) [2, 3, 1, 0] rfl ?_
              exact ih x69 x70 hL
            have hF := if_e hF
            refine z_if_eq (tgt := 142) X dX12_potentialAt_93 (by decide) (fun c77 => ?_) (fun c77 => ?_)
            · have hF := hF.1 c77
              refine z_iconst (v := (0 : Int32)) X dX12_potentialAt_142 (by decide) ?_
              refine z_lv (lv' := [(0, .ref h_t), (1, .int v1), (3, .int k41)]) [1, 2, 3] rfl ?_
              exact K68_l (0 : Int32) hF
            · have hF := hF.2 c77
              refine z_aload_n X dX12_potentialAt_96 rfl 1 rfl ?_
              refine z_get (v := .ref (a_t 0)) X k_X12_potentialAt_7 0 rfl rfl dX12_potentialAt_97 ?_
              refine z_iconst (v := (0 : Int32)) X dX12_potentialAt_100 (by decide) ?_
              obtain ⟨g71, hF⟩ := gi_e hF
              refine z_iald X 1 rfl g71 dX12_potentialAt_101 ?_
              refine z_bipush (v := (60 : Int32)) X dX12_potentialAt_102 (by decide) ?_
              refine z_aload_n X dX12_potentialAt_104 rfl 1 rfl ?_
              refine z_get (v := .ref (a_t 0)) X k_X12_potentialAt_7 0 rfl rfl dX12_potentialAt_105 ?_
              refine z_bipush (v := (16 : Int32)) X dX12_potentialAt_108 (by decide) ?_
              refine z_iload_n X dX12_potentialAt_110 rfl 3 rfl ?_
              refine z_iadd X dX12_potentialAt_111 ?_
              obtain ⟨g72, hF⟩ := gi_e hF
              refine z_iald X 1 rfl g72 dX12_potentialAt_112 ?_
              refine z_imul X dX12_potentialAt_113 ?_
              refine z_aload_n X dX12_potentialAt_114 rfl 1 rfl ?_
              refine z_get (v := .ref (a_t 0)) X k_X12_potentialAt_7 0 rfl rfl dX12_potentialAt_115 ?_
              refine z_sipush (v := (184 : Int32)) X dX12_potentialAt_118 (by decide) ?_
              refine z_iload_n X dX12_potentialAt_121 rfl 2 rfl ?_
              refine z_iadd X dX12_potentialAt_122 ?_
              obtain ⟨g73, hF⟩ := gi_e hF
              refine z_iald X 1 rfl g73 dX12_potentialAt_123 ?_
              refine z_iload_n X dX12_potentialAt_124 rfl 3 rfl ?_
              obtain ⟨r74, hc75, hF⟩ := zb1_e hF
              refine z_Si (As := [.int (o_t 0 (Int32.toNatClampNeg ((184 : Int32) + v1))), .int k41]) (rest := [.int ((60 : Int32) * (o_t 0 (Int32.toNatClampNeg ((16 : Int32) + k41)))), .int (o_t 0 (Int32.toNatClampNeg (0 : Int32))), .int x56]) (wc := ([] : va_W)) (wc' := ([] : va_W)) (ws' := (w_X12_four cA h_t a_t o_t)) (rv := r74) X (va_cwS 2 X.2.2.2.2.1 gX12_potentialAt_X12_bitOf rfl rfl rfl (by decide +kernel) (by rw [hR]; exact ⟨Nat.le_of_ble_eq_true rfl, Nat.le_of_ble_eq_true rfl⟩)) (fun sz => c_X12_bitOf l D cA g sz (o_t 0 (Int32.toNatClampNeg ((184 : Int32) + v1))) k41 r74 hc75) [] [0, 1, 2, 3, 4, 5, 6, 7, 8, 9, 10, 11, 12, 13, 14, 15, 16, 17, 18, 19, 20, 21] rfl (by decide) rfl (by decide) rfl rfl rfl (Nat.le_of_ble_eq_true rfl) dX12_potentialAt_125 ⟨Nat.zero_le _, Nat.zero_le _⟩ ?_
              have hF := if_e hF
              refine z_if_eq (tgt := 136) X dX12_potentialAt_128 (by decide) (fun c76 => ?_) (fun c76 => ?_)
              · have hF := hF.1 c76
                refine z_iconst (v := (0 : Int32)) X dX12_potentialAt_136 (by decide) ?_
                refine z_isub X dX12_potentialAt_137 ?_
                refine z_imul X dX12_potentialAt_138 ?_
                refine z_goto (tgt := 143) X dX12_potentialAt_139 (by decide) ?_
                refine z_lv (lv' := [(0, .ref h_t), (1, .int v1), (3, .int k41)]) [1, 2, 3] rfl ?_
                exact K68_l ((o_t 0 (Int32.toNatClampNeg (0 : Int32))) * (((60 : Int32) * (o_t 0 (Int32.toNatClampNeg ((16 : Int32) + k41)))) - (0 : Int32))) hF
              · have hF := hF.2 c76
                refine z_iload X dX12_potentialAt_131 4 rfl ?_
                refine z_goto (tgt := 137) X dX12_potentialAt_133 (by decide) ?_
                refine z_isub X dX12_potentialAt_137 ?_
                refine z_imul X dX12_potentialAt_138 ?_
                refine z_goto (tgt := 143) X dX12_potentialAt_139 (by decide) ?_
                refine z_lv (lv' := [(0, .ref h_t), (1, .int v1), (3, .int k41)]) [1, 2, 3] rfl ?_
                exact K68_l ((o_t 0 (Int32.toNatClampNeg (0 : Int32))) * (((60 : Int32) * (o_t 0 (Int32.toNatClampNeg ((16 : Int32) + k41)))) - x48)) hF
          have hF := if_e hF
          refine z_if_eq (tgt := 79) X dX12_potentialAt_62 (by decide) (fun c79 => ?_) (fun c79 => ?_)
          · have hF := hF.1 c79
            refine z_iconst (v := (0 : Int32)) X dX12_potentialAt_79 (by decide) ?_
            refine z_lv (lv' := [(0, .ref h_t), (1, .int v1), (3, .int k41), (4, .int x48)]) [1, 2, 4, 0] rfl ?_
            exact K55_l (0 : Int32) hF
          · have hF := hF.2 c79
            refine z_aload_n X dX12_potentialAt_65 rfl 1 rfl ?_
            refine z_get (v := .ref (a_t 0)) X k_X12_potentialAt_7 0 rfl rfl dX12_potentialAt_66 ?_
            refine z_iconst (v := (0 : Int32)) X dX12_potentialAt_69 (by decide) ?_
            obtain ⟨g78, hF⟩ := gi_e hF
            refine z_iald X 1 rfl g78 dX12_potentialAt_70 ?_
            refine z_iconst (v := (1 : Int32)) X dX12_potentialAt_71 (by decide) ?_
            refine z_isub X dX12_potentialAt_72 ?_
            refine z_iload X dX12_potentialAt_73 0 rfl ?_
            refine z_imul X dX12_potentialAt_75 ?_
            refine z_goto (tgt := 80) X dX12_potentialAt_76 (by decide) ?_
            refine z_lv (lv' := [(0, .ref h_t), (1, .int v1), (3, .int k41), (4, .int x48)]) [1, 2, 4, 0] rfl ?_
            exact K55_l (((o_t 0 (Int32.toNatClampNeg (0 : Int32))) - (1 : Int32)) * x48) hF
    refine z_lv (lv' := [(0, .ref h_t), (1, .int v1), (2, .int (0 : Int32)), (3, .int (0 : Int32))]) [2, 3, 1, 0] rfl ?_
    exact L43 FU (0 : Int32) (0 : Int32) hL
  · have hF := hF.2 c82
    refine z_iconst (v := (0 : Int32)) X dX12_potentialAt_4 (by decide) ?_
    cases hF
    exact z_iret X hA hQ hr rfl dX12_potentialAt_5 (Nat.le_refl _) (Nat.le_refl _)
set_option maxHeartbeats 8000000 in
set_option maxRecDepth 100000 in
theorem c_X12_potential (l : Launch) (D : va_G) (cA : Nat → ClassId) (g : Nat → Nat) (sz : Nat) (h_t : Nat) (a_t : Nat → Nat) (o_t : Ob) (v1 : Int32) (o_t' : Ob) (rv : Int32) (hF : f_X12_potential o_t v1 = some (o_t', rv)) : Met l yX12_potential wsX12_potential ({ frames := 5, cells := 0, slots := 0, locals := 114 }) (va_Pc [.ref h_t, .int v1] (PreW D cA g sz (w_X12_four cA h_t a_t o_t))) (va_Qi (fun (r : Int32) (_ : Unit) => r = rv) (PostW D cA sz (w_X12_four cA h_t a_t o_t) (w_X12_four cA h_t a_t o_t')) (va_A (w_X12_four cA h_t a_t o_t) sz)) 0 0 (va_A (w_X12_four cA h_t a_t o_t) sz) := by
  refine z_start (cc := cX12_potential) (maxL := 2) (ret := (some .int)) (lv0 := [(0, .ref h_t), (1, .int v1)]) (Qc := fun sz => va_Qi (fun (r : Int32) (_ : Unit) => r = rv) (PostW D cA sz (w_X12_four cA h_t a_t o_t) (w_X12_four cA h_t a_t o_t')) (va_A (w_X12_four cA h_t a_t o_t) sz)) (free := fun sz => va_A (w_X12_four cA h_t a_t o_t) sz) (by decide +kernel) rfl rfl (Nat.le_of_ble_eq_true rfl) ?_
  intro p e R s m args below meth c A Q hR hA hQ X hr hin
  unfold f_X12_potential at hF
  refine z_aload_n X dX12_potential_0 rfl 0 rfl ?_
  refine z_iload_n X dX12_potential_1 rfl 1 rfl ?_
  obtain ⟨r1, hc2, hF⟩ := zb1_e hF
  refine z_Vi (As := [.int v1]) (rest := []) (wc := (w_X12_four cA h_t a_t o_t)) (wc' := (w_X12_four cA h_t a_t o_t)) (ws' := (w_X12_four cA h_t a_t o_t)) (rv := r1) X (cwV 1 X.2.2.2.2.1 gX12_potential_X12_isLogged rfl rfl rfl (by decide +kernel) (by rw [hR]; exact ⟨Nat.le_of_ble_eq_true rfl, Nat.le_of_ble_eq_true rfl⟩)) (fun sz => c_X12_isLogged l D cA g sz h_t a_t o_t v1 r1 hc2) [0, 1, 2, 3, 4, 5, 6, 7, 8, 9, 10, 11, 12, 13, 14, 15, 16, 17, 18, 19, 20, 21] [1000, 1001, 1002, 1003, 1004, 1005, 1006, 1007, 1008, 1009, 1010, 1011, 1012, 1013, 1014, 1015, 1016, 1017, 1018, 1019, 1020, 1021] rfl (by decide) rfl (by decide) rfl rfl rfl rfl rfl rfl (Nat.le_of_ble_eq_true rfl) dX12_potential_2 ⟨Nat.zero_le _, Nat.zero_le _⟩ ?_
  have hF := if_e hF
  refine z_if_ne (tgt := 10) X dX12_potential_5 (by decide) (fun c8 => ?_) (fun c8 => ?_)
  · have hF := hF.2 c8
    refine z_aload_n X dX12_potential_10 rfl 0 rfl ?_
    obtain ⟨o3, r4, hc5, hF⟩ := zb2_e hF
    refine z_Vi (As := []) (rest := []) (wc := (w_X12_four cA h_t a_t o_t)) (wc' := (w_X12_four cA h_t a_t o3)) (ws' := (w_X12_four cA h_t a_t o3)) (rv := r4) X (cwV 0 X.2.2.2.2.1 gX12_potential_X12_plansAll rfl rfl rfl (by decide +kernel) (by rw [hR]; exact ⟨Nat.le_of_ble_eq_true rfl, Nat.le_of_ble_eq_true rfl⟩)) (fun sz => c_X12_plansAll l D cA g sz h_t a_t o_t o3 r4 hc5) [0, 1, 2, 3, 4, 5, 6, 7, 8, 9, 10, 11, 12, 13, 14, 15, 16, 17, 18, 19, 20, 21] [1000, 1001, 1002, 1003, 1004, 1005, 1006, 1007, 1008, 1009, 1010, 1011, 1012, 1013, 1014, 1015, 1016, 1017, 1018, 1019, 1020, 1021] rfl (by decide) rfl (by decide) rfl rfl rfl rfl rfl rfl (Nat.le_of_ble_eq_true rfl) dX12_potential_11 ⟨Nat.zero_le _, Nat.zero_le _⟩ ?_
    refine z_pop X dX12_potential_14 rfl ?_
    refine z_aload_n X dX12_potential_15 rfl 0 rfl ?_
    refine z_iload_n X dX12_potential_16 rfl 1 rfl ?_
    obtain ⟨r6, hc7, hF⟩ := zb1_e hF
    refine z_Vi (As := [.int v1]) (rest := []) (wc := (w_X12_four cA h_t a_t o3)) (wc' := (w_X12_four cA h_t a_t o3)) (ws' := (w_X12_four cA h_t a_t o3)) (rv := r6) X (cwV 1 X.2.2.2.2.1 gX12_potential_X12_potentialAt rfl rfl rfl (by decide +kernel) (by rw [hR]; exact ⟨Nat.le_of_ble_eq_true rfl, Nat.le_of_ble_eq_true rfl⟩)) (fun sz => c_X12_potentialAt l D cA g sz h_t a_t o3 v1 r6 hc7) [0, 1, 2, 3, 4, 5, 6, 7, 8, 9, 10, 11, 12, 13, 14, 15, 16, 17, 18, 19, 20, 21] [1000, 1001, 1002, 1003, 1004, 1005, 1006, 1007, 1008, 1009, 1010, 1011, 1012, 1013, 1014, 1015, 1016, 1017, 1018, 1019, 1020, 1021] rfl (by decide) rfl (by decide) rfl rfl rfl rfl rfl rfl (Nat.le_of_ble_eq_true rfl) dX12_potential_17 ⟨Nat.zero_le _, Nat.zero_le _⟩ ?_
    cases hF
    exact z_iret X hA hQ hr rfl dX12_potential_20 (Nat.le_refl _) (Nat.le_refl _)
  · have hF := hF.1 c8
    refine z_iconst (v := (-1 : Int32)) X dX12_potential_8 (by decide) ?_
    cases hF
    exact z_iret X hA hQ hr rfl dX12_potential_9 (Nat.le_refl _) (Nat.le_refl _)
set_option maxRecDepth 20000 in
theorem h_X12_proof_X12 : ∀ w ∈ wsX120, w ∈ wsX12_proof := by decide +kernel
set_option maxRecDepth 20000 in
theorem k_X12_proof_7 : ZF wsX12_proof RX12 7 12 0 RX12 TX12 47 := ⟨rfl, by decide, h_X12_proof_X12, by decide +kernel⟩
set_option maxRecDepth 20000 in
theorem k_X12_proof_c323 : Cond.constant RX12 323 (-1000000000) ∈ wsX12_proof := by decide +kernel
set_option maxHeartbeats 8000000 in
set_option maxRecDepth 100000 in
theorem c_X12_proof (l : Launch) (D : va_G) (cA : Nat → ClassId) (g : Nat → Nat) (sz : Nat) (h_t : Nat) (a_t : Nat → Nat) (o_t : Ob) (v1 : Int32) (o_t' : Ob) (rv : Int32) (hF : f_X12_proof o_t v1 = some (o_t', rv)) : Met l yX12_proof wsX12_proof ({ frames := 5, cells := 0, slots := 0, locals := 114 }) (va_Pc [.ref h_t, .int v1] (PreW D cA g sz (w_X12_four cA h_t a_t o_t))) (va_Qi (fun (r : Int32) (_ : Unit) => r = rv) (PostW D cA sz (w_X12_four cA h_t a_t o_t) (w_X12_four cA h_t a_t o_t')) (va_A (w_X12_four cA h_t a_t o_t) sz)) 0 0 (va_A (w_X12_four cA h_t a_t o_t) sz) := by
  refine z_start (cc := cX12_proof) (maxL := 2) (ret := (some .int)) (lv0 := [(0, .ref h_t), (1, .int v1)]) (Qc := fun sz => va_Qi (fun (r : Int32) (_ : Unit) => r = rv) (PostW D cA sz (w_X12_four cA h_t a_t o_t) (w_X12_four cA h_t a_t o_t')) (va_A (w_X12_four cA h_t a_t o_t) sz)) (free := fun sz => va_A (w_X12_four cA h_t a_t o_t) sz) (by decide +kernel) rfl rfl (Nat.le_of_ble_eq_true rfl) ?_
  intro p e R s m args below meth c A Q hR hA hQ X hr hin
  unfold f_X12_proof at hF
  refine z_aload_n X dX12_proof_0 rfl 0 rfl ?_
  refine z_iload_n X dX12_proof_1 rfl 1 rfl ?_
  obtain ⟨r1, hc2, hF⟩ := zb1_e hF
  refine z_Vi (As := [.int v1]) (rest := []) (wc := (w_X12_four cA h_t a_t o_t)) (wc' := (w_X12_four cA h_t a_t o_t)) (ws' := (w_X12_four cA h_t a_t o_t)) (rv := r1) X (cwV 1 X.2.2.2.2.1 gX12_proof_X12_isLogged rfl rfl rfl (by decide +kernel) (by rw [hR]; exact ⟨Nat.le_of_ble_eq_true rfl, Nat.le_of_ble_eq_true rfl⟩)) (fun sz => c_X12_isLogged l D cA g sz h_t a_t o_t v1 r1 hc2) [0, 1, 2, 3, 4, 5, 6, 7, 8, 9, 10, 11, 12, 13, 14, 15, 16, 17, 18, 19, 20, 21] [1000, 1001, 1002, 1003, 1004, 1005, 1006, 1007, 1008, 1009, 1010, 1011, 1012, 1013, 1014, 1015, 1016, 1017, 1018, 1019, 1020, 1021] rfl (by decide) rfl (by decide) rfl rfl rfl rfl rfl rfl (Nat.le_of_ble_eq_true rfl) dX12_proof_2 ⟨Nat.zero_le _, Nat.zero_le _⟩ ?_
  have hF := if_e hF
  refine z_if_ne (tgt := 12) X dX12_proof_5 (by decide) (fun c14 => ?_) (fun c14 => ?_)
  · have hF := hF.2 c14
    refine z_aload_n X dX12_proof_12 rfl 0 rfl ?_
    obtain ⟨o3, r4, hc5, hF⟩ := zb2_e hF
    refine z_Vi (As := []) (rest := []) (wc := (w_X12_four cA h_t a_t o_t)) (wc' := (w_X12_four cA h_t a_t o3)) (ws' := (w_X12_four cA h_t a_t o3)) (rv := r4) X (cwV 0 X.2.2.2.2.1 gX12_proof_X12_plansAll rfl rfl rfl (by decide +kernel) (by rw [hR]; exact ⟨Nat.le_of_ble_eq_true rfl, Nat.le_of_ble_eq_true rfl⟩)) (fun sz => c_X12_plansAll l D cA g sz h_t a_t o_t o3 r4 hc5) [0, 1, 2, 3, 4, 5, 6, 7, 8, 9, 10, 11, 12, 13, 14, 15, 16, 17, 18, 19, 20, 21] [1000, 1001, 1002, 1003, 1004, 1005, 1006, 1007, 1008, 1009, 1010, 1011, 1012, 1013, 1014, 1015, 1016, 1017, 1018, 1019, 1020, 1021] rfl (by decide) rfl (by decide) rfl rfl rfl rfl rfl rfl (Nat.le_of_ble_eq_true rfl) dX12_proof_13 ⟨Nat.zero_le _, Nat.zero_le _⟩ ?_
    refine z_pop X dX12_proof_16 rfl ?_
    refine z_bipush (v := (60 : Int32)) X dX12_proof_17 (by decide) ?_
    refine z_aload_n X dX12_proof_19 rfl 0 rfl ?_
    refine z_get (v := .ref (a_t 0)) X k_X12_proof_7 0 rfl rfl dX12_proof_20 ?_
    refine z_iconst (v := (0 : Int32)) X dX12_proof_23 (by decide) ?_
    obtain ⟨g6, hF⟩ := gi_e hF
    refine z_iald X 1 rfl g6 dX12_proof_24 ?_
    refine z_imul X dX12_proof_25 ?_
    refine z_aload_n X dX12_proof_26 rfl 0 rfl ?_
    refine z_iload_n X dX12_proof_27 rfl 1 rfl ?_
    obtain ⟨r7, hc8, hF⟩ := zb1_e hF
    refine z_Vi (As := [.int v1]) (rest := [.int ((60 : Int32) * (o3 0 (Int32.toNatClampNeg (0 : Int32))))]) (wc := (w_X12_four cA h_t a_t o3)) (wc' := (w_X12_four cA h_t a_t o3)) (ws' := (w_X12_four cA h_t a_t o3)) (rv := r7) X (cwV 1 X.2.2.2.2.1 gX12_proof_X12_paidAt rfl rfl rfl (by decide +kernel) (by rw [hR]; exact ⟨Nat.le_of_ble_eq_true rfl, Nat.le_of_ble_eq_true rfl⟩)) (fun sz => c_X12_paidAt l D cA g sz h_t a_t o3 v1 r7 hc8) [0, 1, 2, 3, 4, 5, 6, 7, 8, 9, 10, 11, 12, 13, 14, 15, 16, 17, 18, 19, 20, 21] [1000, 1001, 1002, 1003, 1004, 1005, 1006, 1007, 1008, 1009, 1010, 1011, 1012, 1013, 1014, 1015, 1016, 1017, 1018, 1019, 1020, 1021] rfl (by decide) rfl (by decide) rfl rfl rfl rfl rfl rfl (Nat.le_of_ble_eq_true rfl) dX12_proof_28 ⟨Nat.zero_le _, Nat.zero_le _⟩ ?_
    refine z_imul X dX12_proof_31 ?_
    refine z_bipush (v := (60 : Int32)) X dX12_proof_32 (by decide) ?_
    refine z_aload_n X dX12_proof_34 rfl 0 rfl ?_
    refine z_get (v := .ref (a_t 0)) X k_X12_proof_7 0 rfl rfl dX12_proof_35 ?_
    refine z_sipush (v := (144 : Int32)) X dX12_proof_38 (by decide) ?_
    refine z_iload_n X dX12_proof_41 rfl 1 rfl ?_
    refine z_iadd X dX12_proof_42 ?_
    obtain ⟨g9, hF⟩ := gi_e hF
    refine z_iald X 1 rfl g9 dX12_proof_43 ?_
    refine z_imul X dX12_proof_44 ?_
    refine z_isub X dX12_proof_45 ?_
    refine z_aload_n X dX12_proof_46 rfl 0 rfl ?_
    refine z_iload_n X dX12_proof_47 rfl 1 rfl ?_
    obtain ⟨r10, hc11, hF⟩ := zb1_e hF
    refine z_Vi (As := [.int v1]) (rest := [.int ((((60 : Int32) * (o3 0 (Int32.toNatClampNeg (0 : Int32)))) * r7) - ((60 : Int32) * (o3 0 (Int32.toNatClampNeg ((144 : Int32) + v1)))))]) (wc := (w_X12_four cA h_t a_t o3)) (wc' := (w_X12_four cA h_t a_t o3)) (ws' := (w_X12_four cA h_t a_t o3)) (rv := r10) X (cwV 1 X.2.2.2.2.1 gX12_proof_X12_potentialAt rfl rfl rfl (by decide +kernel) (by rw [hR]; exact ⟨Nat.le_of_ble_eq_true rfl, Nat.le_of_ble_eq_true rfl⟩)) (fun sz => c_X12_potentialAt l D cA g sz h_t a_t o3 v1 r10 hc11) [0, 1, 2, 3, 4, 5, 6, 7, 8, 9, 10, 11, 12, 13, 14, 15, 16, 17, 18, 19, 20, 21] [1000, 1001, 1002, 1003, 1004, 1005, 1006, 1007, 1008, 1009, 1010, 1011, 1012, 1013, 1014, 1015, 1016, 1017, 1018, 1019, 1020, 1021] rfl (by decide) rfl (by decide) rfl rfl rfl rfl rfl rfl (Nat.le_of_ble_eq_true rfl) dX12_proof_48 ⟨Nat.zero_le _, Nat.zero_le _⟩ ?_
    refine z_aload_n X dX12_proof_51 rfl 0 rfl ?_
    refine z_iload_n X dX12_proof_52 rfl 1 rfl ?_
    refine z_iconst (v := (1 : Int32)) X dX12_proof_53 (by decide) ?_
    refine z_isub X dX12_proof_54 ?_
    obtain ⟨r12, hc13, hF⟩ := zb1_e hF
    refine z_Vi (As := [.int (v1 - (1 : Int32))]) (rest := [.int r10, .int ((((60 : Int32) * (o3 0 (Int32.toNatClampNeg (0 : Int32)))) * r7) - ((60 : Int32) * (o3 0 (Int32.toNatClampNeg ((144 : Int32) + v1)))))]) (wc := (w_X12_four cA h_t a_t o3)) (wc' := (w_X12_four cA h_t a_t o3)) (ws' := (w_X12_four cA h_t a_t o3)) (rv := r12) X (cwV 1 X.2.2.2.2.1 gX12_proof_X12_potentialAt rfl rfl rfl (by decide +kernel) (by rw [hR]; exact ⟨Nat.le_of_ble_eq_true rfl, Nat.le_of_ble_eq_true rfl⟩)) (fun sz => c_X12_potentialAt l D cA g sz h_t a_t o3 (v1 - (1 : Int32)) r12 hc13) [0, 1, 2, 3, 4, 5, 6, 7, 8, 9, 10, 11, 12, 13, 14, 15, 16, 17, 18, 19, 20, 21] [1000, 1001, 1002, 1003, 1004, 1005, 1006, 1007, 1008, 1009, 1010, 1011, 1012, 1013, 1014, 1015, 1016, 1017, 1018, 1019, 1020, 1021] rfl (by decide) rfl (by decide) rfl rfl rfl rfl rfl rfl (Nat.le_of_ble_eq_true rfl) dX12_proof_55 ⟨Nat.zero_le _, Nat.zero_le _⟩ ?_
    refine z_isub X dX12_proof_58 ?_
    refine z_isub X dX12_proof_59 ?_
    cases hF
    exact z_iret X hA hQ hr rfl dX12_proof_60 (Nat.le_refl _) (Nat.le_refl _)
  · have hF := hF.1 c14
    refine z_ldcw X k_X12_proof_c323 dX12_proof_8 ?_
    cases hF
    exact z_iret X hA hQ hr rfl dX12_proof_11 (Nat.le_refl _) (Nat.le_refl _)
set_option maxRecDepth 20000 in
theorem h_X12_bestWith_X12 : ∀ w ∈ wsX120, w ∈ wsX12_bestWith := by decide +kernel
set_option maxRecDepth 20000 in
theorem k_X12_bestWith_7 : ZF wsX12_bestWith RX12 7 12 0 RX12 TX12 47 := ⟨rfl, by decide, h_X12_bestWith_X12, by decide +kernel⟩
set_option maxRecDepth 20000 in
theorem k_X12_bestWith_c284 : Cond.constant RX12 284 (100000000) ∈ wsX12_bestWith := by decide +kernel
set_option maxHeartbeats 8000000 in
set_option maxRecDepth 100000 in
theorem c_X12_bestWith (l : Launch) (D : va_G) (cA : Nat → ClassId) (g : Nat → Nat) (sz : Nat) (h_t : Nat) (a_t : Nat → Nat) (o_t : Ob) (v1 : Int32) (o_t' : Ob) (rv : Int32) (hF : f_X12_bestWith o_t v1 = some (o_t', rv)) : Met l yX12_bestWith wsX12_bestWith ({ frames := 4, cells := 0, slots := 0, locals := 94 }) (va_Pc [.ref h_t, .int v1] (PreW D cA g sz (w_X12_four cA h_t a_t o_t))) (va_Qi (fun (r : Int32) (_ : Unit) => r = rv) (PostW D cA sz (w_X12_four cA h_t a_t o_t) (w_X12_four cA h_t a_t o_t')) (va_A (w_X12_four cA h_t a_t o_t) sz)) 0 0 (va_A (w_X12_four cA h_t a_t o_t) sz) := by
  refine z_start (cc := cX12_bestWith) (maxL := 3) (ret := (some .int)) (lv0 := [(0, .ref h_t), (1, .int v1)]) (Qc := fun sz => va_Qi (fun (r : Int32) (_ : Unit) => r = rv) (PostW D cA sz (w_X12_four cA h_t a_t o_t) (w_X12_four cA h_t a_t o_t')) (va_A (w_X12_four cA h_t a_t o_t) sz)) (free := fun sz => va_A (w_X12_four cA h_t a_t o_t) sz) (by decide +kernel) rfl rfl (Nat.le_of_ble_eq_true rfl) ?_
  intro p e R s m args below meth c A Q hR hA hQ X hr hin
  unfold f_X12_bestWith at hF
  refine z_aload_n X dX12_bestWith_0 rfl 0 rfl ?_
  refine z_iload_n X dX12_bestWith_1 rfl 1 rfl ?_
  obtain ⟨r1, hc2, hF⟩ := zb1_e hF
  refine z_Vi (As := [.int v1]) (rest := []) (wc := (w_X12_four cA h_t a_t o_t)) (wc' := (w_X12_four cA h_t a_t o_t)) (ws' := (w_X12_four cA h_t a_t o_t)) (rv := r1) X (cwV 1 X.2.2.2.2.1 gX12_bestWith_X12_isItem rfl rfl rfl (by decide +kernel) (by rw [hR]; exact ⟨Nat.le_of_ble_eq_true rfl, Nat.le_of_ble_eq_true rfl⟩)) (fun sz => c_X12_isItem l D cA g sz h_t a_t o_t v1 r1 hc2) [0, 1, 2, 3, 4, 5, 6, 7, 8, 9, 10, 11, 12, 13, 14, 15, 16, 17, 18, 19, 20, 21] [1000, 1001, 1002, 1003, 1004, 1005, 1006, 1007, 1008, 1009, 1010, 1011, 1012, 1013, 1014, 1015, 1016, 1017, 1018, 1019, 1020, 1021] rfl (by decide) rfl (by decide) rfl rfl rfl rfl rfl rfl (Nat.le_of_ble_eq_true rfl) dX12_bestWith_2 ⟨Nat.zero_le _, Nat.zero_le _⟩ ?_
  have hF := if_e hF
  refine z_if_eq (tgt := 18) X dX12_bestWith_5 (by decide) (fun c11 => ?_) (fun c11 => ?_)
  · have hF := hF.1 c11
    refine z_iconst (v := (-1 : Int32)) X dX12_bestWith_18 (by decide) ?_
    cases hF
    exact z_iret X hA hQ hr rfl dX12_bestWith_19 (Nat.le_refl _) (Nat.le_refl _)
  · have hF := hF.2 c11
    refine z_aload_n X dX12_bestWith_8 rfl 0 rfl ?_
    refine z_get (v := .ref (a_t 0)) X k_X12_bestWith_7 0 rfl rfl dX12_bestWith_9 ?_
    refine z_bipush (v := (7 : Int32)) X dX12_bestWith_12 (by decide) ?_
    obtain ⟨g3, hF⟩ := gi_e hF
    refine z_iald X 1 rfl g3 dX12_bestWith_14 ?_
    have hF := if_e hF
    refine z_if_ne (tgt := 20) X dX12_bestWith_15 (by decide) (fun c10 => ?_) (fun c10 => ?_)
    · have hF := hF.2 c10
      refine z_aload_n X dX12_bestWith_20 rfl 0 rfl ?_
      refine z_aload_n X dX12_bestWith_21 rfl 0 rfl ?_
      refine z_get (v := .ref (a_t 0)) X k_X12_bestWith_7 0 rfl rfl dX12_bestWith_22 ?_
      refine z_bipush (v := (7 : Int32)) X dX12_bestWith_25 (by decide) ?_
      obtain ⟨g4, hF⟩ := gi_e hF
      refine z_iald X 1 rfl g4 dX12_bestWith_27 ?_
      refine z_aload_n X dX12_bestWith_28 rfl 0 rfl ?_
      refine z_get (v := .ref (a_t 0)) X k_X12_bestWith_7 0 rfl rfl dX12_bestWith_29 ?_
      refine z_iconst (v := (0 : Int32)) X dX12_bestWith_32 (by decide) ?_
      obtain ⟨g5, hF⟩ := gi_e hF
      refine z_iald X 1 rfl g5 dX12_bestWith_33 ?_
      refine z_iconst (v := (1 : Int32)) X dX12_bestWith_34 (by decide) ?_
      refine z_iload_n X dX12_bestWith_35 rfl 1 rfl ?_
      refine z_ishl X dX12_bestWith_36 ?_
      obtain ⟨o6, r7, hc8, hF⟩ := zb2_e hF
      refine z_Vi (As := [.int (o_t 0 (Int32.toNatClampNeg (7 : Int32))), .int (o_t 0 (Int32.toNatClampNeg (0 : Int32))), .int ((1 : Int32) <<< (v1 &&& 31))]) (rest := []) (wc := (w_X12_four cA h_t a_t o_t)) (wc' := (w_X12_four cA h_t a_t o6)) (ws' := (w_X12_four cA h_t a_t o6)) (rv := r7) X (cwV 3 X.2.2.2.2.1 gX12_bestWith_X12_plans rfl rfl rfl (by decide +kernel) (by rw [hR]; exact ⟨Nat.le_of_ble_eq_true rfl, Nat.le_of_ble_eq_true rfl⟩)) (fun sz => c_X12_plans l D cA g sz h_t a_t o_t (o_t 0 (Int32.toNatClampNeg (7 : Int32))) (o_t 0 (Int32.toNatClampNeg (0 : Int32))) ((1 : Int32) <<< (v1 &&& 31)) o6 r7 hc8) [0, 1, 2, 3, 4, 5, 6, 7, 8, 9, 10, 11, 12, 13, 14, 15, 16, 17, 18, 19, 20, 21] [1000, 1001, 1002, 1003, 1004, 1005, 1006, 1007, 1008, 1009, 1010, 1011, 1012, 1013, 1014, 1015, 1016, 1017, 1018, 1019, 1020, 1021] rfl (by decide) rfl (by decide) rfl rfl rfl rfl rfl rfl (Nat.le_of_ble_eq_true rfl) dX12_bestWith_37 ⟨Nat.zero_le _, Nat.zero_le _⟩ ?_
      refine z_istore_n (lv' := [(2, .int r7), (0, .ref h_t), (1, .int v1)]) X dX12_bestWith_40 rfl (by decide) rfl ?_
      refine z_iload_n X dX12_bestWith_41 rfl 0 rfl ?_
      refine z_ldcw X k_X12_bestWith_c284 dX12_bestWith_42 ?_
      have hF := if_e hF
      refine z_icmp_lt (tgt := 52) X dX12_bestWith_45 (by decide) (fun c9 => ?_) (fun c9 => ?_)
      · have hF := hF.1 c9
        refine z_iload_n X dX12_bestWith_52 rfl 0 rfl ?_
        cases hF
        exact z_iret X hA hQ hr rfl dX12_bestWith_53 (Nat.le_refl _) (Nat.le_refl _)
      · have hF := hF.2 c9
        refine z_iconst (v := (-1 : Int32)) X dX12_bestWith_48 (by decide) ?_
        refine z_goto (tgt := 53) X dX12_bestWith_49 (by decide) ?_
        cases hF
        exact z_iret X hA hQ hr rfl dX12_bestWith_53 (Nat.le_refl _) (Nat.le_refl _)
    · have hF := hF.1 c10
      refine z_iconst (v := (-1 : Int32)) X dX12_bestWith_18 (by decide) ?_
      cases hF
      exact z_iret X hA hQ hr rfl dX12_bestWith_19 (Nat.le_refl _) (Nat.le_refl _)
set_option maxRecDepth 20000 in
theorem h_X12_upTo_X12 : ∀ w ∈ wsX120, w ∈ wsX12_upTo := by decide +kernel
set_option maxRecDepth 20000 in
theorem k_X12_upTo_7 : ZF wsX12_upTo RX12 7 12 0 RX12 TX12 47 := ⟨rfl, by decide, h_X12_upTo_X12, by decide +kernel⟩
set_option maxHeartbeats 8000000 in
set_option maxRecDepth 100000 in
theorem c_X12_upTo (l : Launch) (D : va_G) (cA : Nat → ClassId) (g : Nat → Nat) (sz : Nat) (h_t : Nat) (a_t : Nat → Nat) (o_t : Ob) (v1 : Int32) (o_t' : Ob) (rv : Int32) (hF : f_X12_upTo o_t v1 = some (o_t', rv)) : Met l yX12_upTo wsX12_upTo ({ frames := 4, cells := 0, slots := 0, locals := 94 }) (va_Pc [.ref h_t, .int v1] (PreW D cA g sz (w_X12_four cA h_t a_t o_t))) (va_Qi (fun (r : Int32) (_ : Unit) => r = rv) (PostW D cA sz (w_X12_four cA h_t a_t o_t) (w_X12_four cA h_t a_t o_t')) (va_A (w_X12_four cA h_t a_t o_t) sz)) 0 0 (va_A (w_X12_four cA h_t a_t o_t) sz) := by
  refine z_start (cc := cX12_upTo) (maxL := 2) (ret := (some .int)) (lv0 := [(0, .ref h_t), (1, .int v1)]) (Qc := fun sz => va_Qi (fun (r : Int32) (_ : Unit) => r = rv) (PostW D cA sz (w_X12_four cA h_t a_t o_t) (w_X12_four cA h_t a_t o_t')) (va_A (w_X12_four cA h_t a_t o_t) sz)) (free := fun sz => va_A (w_X12_four cA h_t a_t o_t) sz) (by decide +kernel) rfl rfl (Nat.le_of_ble_eq_true rfl) ?_
  intro p e R s m args below meth c A Q hR hA hQ X hr hin
  unfold f_X12_upTo at hF
  refine z_aload_n X dX12_upTo_0 rfl 0 rfl ?_
  refine z_iload_n X dX12_upTo_1 rfl 1 rfl ?_
  obtain ⟨r1, hc2, hF⟩ := zb1_e hF
  refine z_Vi (As := [.int v1]) (rest := []) (wc := (w_X12_four cA h_t a_t o_t)) (wc' := (w_X12_four cA h_t a_t o_t)) (ws' := (w_X12_four cA h_t a_t o_t)) (rv := r1) X (cwV 1 X.2.2.2.2.1 gX12_upTo_X12_isLogged rfl rfl rfl (by decide +kernel) (by rw [hR]; exact ⟨Nat.le_of_ble_eq_true rfl, Nat.le_of_ble_eq_true rfl⟩)) (fun sz => c_X12_isLogged l D cA g sz h_t a_t o_t v1 r1 hc2) [0, 1, 2, 3, 4, 5, 6, 7, 8, 9, 10, 11, 12, 13, 14, 15, 16, 17, 18, 19, 20, 21] [1000, 1001, 1002, 1003, 1004, 1005, 1006, 1007, 1008, 1009, 1010, 1011, 1012, 1013, 1014, 1015, 1016, 1017, 1018, 1019, 1020, 1021] rfl (by decide) rfl (by decide) rfl rfl rfl rfl rfl rfl (Nat.le_of_ble_eq_true rfl) dX12_upTo_2 ⟨Nat.zero_le _, Nat.zero_le _⟩ ?_
  have hF := if_e hF
  refine z_if_eq (tgt := 25) X dX12_upTo_5 (by decide) (fun c7 => ?_) (fun c7 => ?_)
  · have hF := hF.1 c7
    refine z_iconst (v := (-1 : Int32)) X dX12_upTo_25 (by decide) ?_
    cases hF
    exact z_iret X hA hQ hr rfl dX12_upTo_26 (Nat.le_refl _) (Nat.le_refl _)
  · have hF := hF.2 c7
    refine z_aload_n X dX12_upTo_8 rfl 0 rfl ?_
    refine z_iload_n X dX12_upTo_9 rfl 1 rfl ?_
    refine z_iconst (v := (1 : Int32)) X dX12_upTo_10 (by decide) ?_
    refine z_iadd X dX12_upTo_11 ?_
    refine z_aload_n X dX12_upTo_12 rfl 0 rfl ?_
    refine z_get (v := .ref (a_t 0)) X k_X12_upTo_7 0 rfl rfl dX12_upTo_13 ?_
    refine z_iconst (v := (0 : Int32)) X dX12_upTo_16 (by decide) ?_
    obtain ⟨g3, hF⟩ := gi_e hF
    refine z_iald X 1 rfl g3 dX12_upTo_17 ?_
    refine z_iconst (v := (0 : Int32)) X dX12_upTo_18 (by decide) ?_
    obtain ⟨o4, r5, hc6, hF⟩ := zb2_e hF
    refine z_Vi (As := [.int (v1 + (1 : Int32)), .int (o_t 0 (Int32.toNatClampNeg (0 : Int32))), .int (0 : Int32)]) (rest := []) (wc := (w_X12_four cA h_t a_t o_t)) (wc' := (w_X12_four cA h_t a_t o4)) (ws' := (w_X12_four cA h_t a_t o4)) (rv := r5) X (cwV 3 X.2.2.2.2.1 gX12_upTo_X12_plans rfl rfl rfl (by decide +kernel) (by rw [hR]; exact ⟨Nat.le_of_ble_eq_true rfl, Nat.le_of_ble_eq_true rfl⟩)) (fun sz => c_X12_plans l D cA g sz h_t a_t o_t (v1 + (1 : Int32)) (o_t 0 (Int32.toNatClampNeg (0 : Int32))) (0 : Int32) o4 r5 hc6) [0, 1, 2, 3, 4, 5, 6, 7, 8, 9, 10, 11, 12, 13, 14, 15, 16, 17, 18, 19, 20, 21] [1000, 1001, 1002, 1003, 1004, 1005, 1006, 1007, 1008, 1009, 1010, 1011, 1012, 1013, 1014, 1015, 1016, 1017, 1018, 1019, 1020, 1021] rfl (by decide) rfl (by decide) rfl rfl rfl rfl rfl rfl (Nat.le_of_ble_eq_true rfl) dX12_upTo_19 ⟨Nat.zero_le _, Nat.zero_le _⟩ ?_
    refine z_goto (tgt := 26) X dX12_upTo_22 (by decide) ?_
    cases hF
    exact z_iret X hA hQ hr rfl dX12_upTo_26 (Nat.le_refl _) (Nat.le_refl _)
set_option maxRecDepth 20000 in
theorem h_X12_begins_X12 : ∀ w ∈ wsX120, w ∈ wsX12_begins := by decide +kernel
set_option maxRecDepth 20000 in
theorem k_X12_begins_7 : ZF wsX12_begins RX12 7 12 0 RX12 TX12 47 := ⟨rfl, by decide, h_X12_begins_X12, by decide +kernel⟩
set_option maxRecDepth 20000 in
theorem k_X12_begins_33 : ZF wsX12_begins RX12 33 12 19 RX12 TX12 47 := ⟨rfl, by decide, h_X12_begins_X12, by decide +kernel⟩
set_option maxRecDepth 20000 in
theorem k_X12_begins_57 : ZF wsX12_begins RX12 57 12 34 RX12 TX12 47 := ⟨rfl, by decide, h_X12_begins_X12, by decide +kernel⟩
set_option maxRecDepth 20000 in
theorem k_X12_begins_60 : ZF wsX12_begins RX12 60 12 35 RX12 TX12 47 := ⟨rfl, by decide, h_X12_begins_X12, by decide +kernel⟩
set_option maxRecDepth 20000 in
theorem k_X12_begins_184 : ZF wsX12_begins RX12 184 12 21 RX12 TX12 47 := ⟨rfl, by decide, h_X12_begins_X12, by decide +kernel⟩
set_option maxRecDepth 20000 in
theorem k_X12_begins_187 : ZF wsX12_begins RX12 187 12 20 RX12 TX12 47 := ⟨rfl, by decide, h_X12_begins_X12, by decide +kernel⟩
set_option maxRecDepth 20000 in
theorem k_X12_begins_324 : ZF wsX12_begins RX12 324 12 36 RX12 TX12 47 := ⟨rfl, by decide, h_X12_begins_X12, by decide +kernel⟩
set_option maxRecDepth 20000 in
theorem k_X12_begins_327 : ZF wsX12_begins RX12 327 12 37 RX12 TX12 47 := ⟨rfl, by decide, h_X12_begins_X12, by decide +kernel⟩
set_option maxHeartbeats 8000000 in
set_option maxRecDepth 100000 in
theorem c_X12_begins (l : Launch) (D : va_G) (cA : Nat → ClassId) (g : Nat → Nat) (sz : Nat) (h_t : Nat) (a_t : Nat → Nat) (o_t : Ob)  (o_t' : Ob) (hF : f_X12_begins o_t = some o_t') : Met l yX12_begins wsX12_begins ({ frames := 1, cells := 0, slots := 0, locals := 24 }) (va_Pc [.ref h_t] (PreW D cA g sz (w_X12_four cA h_t a_t o_t))) (va_Qv (fun (_ : Unit) => True) (PostW D cA sz (w_X12_four cA h_t a_t o_t) (w_X12_four cA h_t a_t o_t')) (va_A (w_X12_four cA h_t a_t o_t) sz)) 0 0 (va_A (w_X12_four cA h_t a_t o_t) sz) := by
  refine z_start (cc := cX12_begins) (maxL := 2) (ret := none) (lv0 := [(0, .ref h_t)]) (Qc := fun sz => va_Qv (fun (_ : Unit) => True) (PostW D cA sz (w_X12_four cA h_t a_t o_t) (w_X12_four cA h_t a_t o_t')) (va_A (w_X12_four cA h_t a_t o_t) sz)) (free := fun sz => va_A (w_X12_four cA h_t a_t o_t) sz) (by decide +kernel) rfl rfl (Nat.le_of_ble_eq_true rfl) ?_
  intro p e R s m args below meth c A Q hR hA hQ X hr hin
  unfold f_X12_begins at hF
  refine z_aload_n X dX12_begins_0 rfl 0 rfl ?_
  refine z_get (v := .ref (a_t 0)) X k_X12_begins_7 0 rfl rfl dX12_begins_1 ?_
  refine z_iconst (v := (0 : Int32)) X dX12_begins_4 (by decide) ?_
  refine z_aload_n X dX12_begins_5 rfl 0 rfl ?_
  refine z_get (v := .ref (a_t 34)) X k_X12_begins_57 0 rfl rfl dX12_begins_6 ?_
  refine z_iconst (v := (0 : Int32)) X dX12_begins_9 (by decide) ?_
  obtain ⟨o1, hc2, hF⟩ := zb1_e hF
  obtain ⟨o3, eo3, hF⟩ := nx_e hF
  refine z_Sv (As := [.ref (a_t 0), .int (0 : Int32), .ref (a_t 34), .int (0 : Int32)]) (rest := []) (wc := (w_X12_copies cA (a_t 0) 835 (o_t 0) (a_t 34) 835 (o_t 34))) (wc' := (w_X12_copies cA (a_t 0) 835 (o_t 0) (a_t 34) 835 o1)) (ws' := (w_X12_four cA h_t a_t o3)) X (va_cwS 4 X.2.2.2.2.1 gX12_begins_X12_copies rfl rfl rfl (by decide +kernel) (by rw [hR]; exact ⟨Nat.le_of_ble_eq_true rfl, Nat.le_of_ble_eq_true rfl⟩)) (fun sz => c_X12_copies l D cA g sz (a_t 0) 835 (o_t 0) (a_t 34) 835 (o_t 34) (0 : Int32) (0 : Int32) o1 hc2) [1, 16] [0, 1000, 2, 3, 4, 5, 6, 7, 8, 9, 10, 11, 12, 13, 14, 15, 1001, 17, 18, 19, 20, 21] rfl (by decide) (by rw [eo3]; rfl) (by decide) rfl rfl rfl (Nat.le_of_ble_eq_true rfl) dX12_begins_10 ⟨Nat.zero_le _, Nat.zero_le _⟩ ?_
  refine z_aload_n X dX12_begins_13 rfl 0 rfl ?_
  refine z_aload_n X dX12_begins_14 rfl 0 rfl ?_
  refine z_get (v := .int (o3 20 0)) X k_X12_begins_187 0 rfl rfl dX12_begins_15 ?_
  obtain ⟨o4, eo4, hF⟩ := nx_e hF
  refine z_put (ws' := (w_X12_four cA h_t a_t o4)) X k_X12_begins_324 tyX12 tyX12_ok nmX12 rfl rfl 0 rfl (Nat.le_of_ble_eq_true rfl) (by rw [eo4]; rfl) dX12_begins_18 ?_
  refine z_aload_n X dX12_begins_21 rfl 0 rfl ?_
  refine z_aload_n X dX12_begins_22 rfl 0 rfl ?_
  refine z_get (v := .int (o4 21 0)) X k_X12_begins_184 0 rfl rfl dX12_begins_23 ?_
  obtain ⟨g5, hF⟩ := gz_e hF
  obtain ⟨o6, eo6, hF⟩ := nx_e hF
  refine z_putZ (ws' := (w_X12_four cA h_t a_t o6)) X k_X12_begins_327 tyX12 tyX12_ok nmX12 rfl rfl 0 rfl (Nat.le_of_ble_eq_true rfl) (by rw [eo6]; rfl) g5 dX12_begins_26 ?_
  refine z_iconst (v := (0 : Int32)) X dX12_begins_29 (by decide) ?_
  refine z_istore_n (lv' := [(1, .int (0 : Int32)), (0, .ref h_t)]) X dX12_begins_30 rfl (by decide) rfl ?_
  obtain ⟨o16, hL, hF⟩ := zb1_e hF
  have L17_x : ∀ (o16' : Ob), o16' = o16 → ZW p l e R s m args below meth c D A 2 0 0 Q (w_X12_four cA h_t a_t o16') [] 55 [] := by
    intro o16' hz
    cases hz
    cases hF
    exact z_vret X hA hQ hr dX12_begins_55 (Nat.le_refl _) (Nat.le_refl _)
  obtain ⟨B24, hBB24, hL⟩ := zl2_b hL
  have L17 : ∀ (n : Nat) (o14 : Ob) (k15 : Int32), zl2 B24 n o14 k15 = some o16 → ZW p l e R s m args below meth c D A 2 0 0 Q (w_X12_four cA h_t a_t o14) [(0, .ref h_t), (1, .int k15)] 31 [] := by
    intro n
    induction n with
    | zero => intro o14 k15 hL; cases hL
    | succ n ih =>
      intro o14 k15 hL
      obtain ⟨zz18, hF, hL⟩ := zl2_e hL
      rw [hBB24] at hF
      refine z_iload_n X dX12_begins_31 rfl 1 rfl ?_
      refine z_bipush (v := (60 : Int32)) X dX12_begins_32 (by decide) ?_
      have hF := if_e hF
      refine z_icmp_ge (tgt := 55) X dX12_begins_34 (by decide) (fun c23 => ?_) (fun c23 => ?_)
      · have hF := hF.1 c23
        cases hF
        have hL := Option.some.inj hL
        refine z_lv (lv' := []) [] rfl ?_
        exact L17_x o14 hL
      · have hF := hF.2 c23
        refine z_aload_n X dX12_begins_37 rfl 0 rfl ?_
        refine z_get (v := .ref (a_t 35)) X k_X12_begins_60 0 rfl rfl dX12_begins_38 ?_
        refine z_iload_n X dX12_begins_41 rfl 1 rfl ?_
        refine z_aload_n X dX12_begins_42 rfl 0 rfl ?_
        refine z_get (v := .ref (a_t 19)) X k_X12_begins_33 0 rfl rfl dX12_begins_43 ?_
        refine z_iload_n X dX12_begins_46 rfl 1 rfl ?_
        obtain ⟨g19, hF⟩ := gi_e hF
        refine z_iald X 8 rfl g19 dX12_begins_47 ?_
        obtain ⟨g20, hF⟩ := gi_e hF
        obtain ⟨o21, eo21, hF⟩ := nx_e hF
        refine z_iast (ws' := (w_X12_four cA h_t a_t o21)) X 17 rfl g20 (by rw [eo21]; rfl) dX12_begins_48 ?_
        obtain ⟨x22, ex22, hF⟩ := nx_e hF
        refine z_iinc (v := x22) (lv' := [(1, .int x22), (0, .ref h_t)]) (j := 1) X dX12_begins_49 rfl (by rw [ex22]; rfl) (by decide) rfl ?_
        refine z_goto (tgt := 31) X dX12_begins_52 (by decide) ?_
        cases hF
        refine z_lv (lv' := [(0, .ref h_t), (1, .int x22)]) [1, 0] rfl ?_
        exact ih o21 x22 hL
  refine z_lv (lv' := [(0, .ref h_t), (1, .int (0 : Int32))]) [1, 0] rfl ?_
  exact L17 FU o6 (0 : Int32) hL
set_option maxRecDepth 20000 in
theorem h_X12_ends_X12 : ∀ w ∈ wsX120, w ∈ wsX12_ends := by decide +kernel
set_option maxRecDepth 20000 in
theorem k_X12_ends_7 : ZF wsX12_ends RX12 7 12 0 RX12 TX12 47 := ⟨rfl, by decide, h_X12_ends_X12, by decide +kernel⟩
set_option maxRecDepth 20000 in
theorem k_X12_ends_33 : ZF wsX12_ends RX12 33 12 19 RX12 TX12 47 := ⟨rfl, by decide, h_X12_ends_X12, by decide +kernel⟩
set_option maxRecDepth 20000 in
theorem k_X12_ends_57 : ZF wsX12_ends RX12 57 12 34 RX12 TX12 47 := ⟨rfl, by decide, h_X12_ends_X12, by decide +kernel⟩
set_option maxRecDepth 20000 in
theorem k_X12_ends_60 : ZF wsX12_ends RX12 60 12 35 RX12 TX12 47 := ⟨rfl, by decide, h_X12_ends_X12, by decide +kernel⟩
set_option maxRecDepth 20000 in
theorem k_X12_ends_184 : ZF wsX12_ends RX12 184 12 21 RX12 TX12 47 := ⟨rfl, by decide, h_X12_ends_X12, by decide +kernel⟩
set_option maxRecDepth 20000 in
theorem k_X12_ends_187 : ZF wsX12_ends RX12 187 12 20 RX12 TX12 47 := ⟨rfl, by decide, h_X12_ends_X12, by decide +kernel⟩
set_option maxRecDepth 20000 in
theorem k_X12_ends_324 : ZF wsX12_ends RX12 324 12 36 RX12 TX12 47 := ⟨rfl, by decide, h_X12_ends_X12, by decide +kernel⟩
set_option maxRecDepth 20000 in
theorem k_X12_ends_327 : ZF wsX12_ends RX12 327 12 37 RX12 TX12 47 := ⟨rfl, by decide, h_X12_ends_X12, by decide +kernel⟩
set_option maxHeartbeats 8000000 in
set_option maxRecDepth 100000 in
theorem c_X12_ends (l : Launch) (D : va_G) (cA : Nat → ClassId) (g : Nat → Nat) (sz : Nat) (h_t : Nat) (a_t : Nat → Nat) (o_t : Ob)  (o_t' : Ob) (hF : f_X12_ends o_t = some o_t') : Met l yX12_ends wsX12_ends ({ frames := 1, cells := 0, slots := 0, locals := 24 }) (va_Pc [.ref h_t] (PreW D cA g sz (w_X12_four cA h_t a_t o_t))) (va_Qv (fun (_ : Unit) => True) (PostW D cA sz (w_X12_four cA h_t a_t o_t) (w_X12_four cA h_t a_t o_t')) (va_A (w_X12_four cA h_t a_t o_t) sz)) 0 0 (va_A (w_X12_four cA h_t a_t o_t) sz) := by
  refine z_start (cc := cX12_ends) (maxL := 2) (ret := none) (lv0 := [(0, .ref h_t)]) (Qc := fun sz => va_Qv (fun (_ : Unit) => True) (PostW D cA sz (w_X12_four cA h_t a_t o_t) (w_X12_four cA h_t a_t o_t')) (va_A (w_X12_four cA h_t a_t o_t) sz)) (free := fun sz => va_A (w_X12_four cA h_t a_t o_t) sz) (by decide +kernel) rfl rfl (Nat.le_of_ble_eq_true rfl) ?_
  intro p e R s m args below meth c A Q hR hA hQ X hr hin
  unfold f_X12_ends at hF
  refine z_aload_n X dX12_ends_0 rfl 0 rfl ?_
  refine z_get (v := .ref (a_t 34)) X k_X12_ends_57 0 rfl rfl dX12_ends_1 ?_
  refine z_iconst (v := (0 : Int32)) X dX12_ends_4 (by decide) ?_
  refine z_aload_n X dX12_ends_5 rfl 0 rfl ?_
  refine z_get (v := .ref (a_t 0)) X k_X12_ends_7 0 rfl rfl dX12_ends_6 ?_
  refine z_iconst (v := (0 : Int32)) X dX12_ends_9 (by decide) ?_
  obtain ⟨o1, hc2, hF⟩ := zb1_e hF
  obtain ⟨o3, eo3, hF⟩ := nx_e hF
  refine z_Sv (As := [.ref (a_t 34), .int (0 : Int32), .ref (a_t 0), .int (0 : Int32)]) (rest := []) (wc := (w_X12_copies cA (a_t 34) 835 (o_t 34) (a_t 0) 835 (o_t 0))) (wc' := (w_X12_copies cA (a_t 34) 835 (o_t 34) (a_t 0) 835 o1)) (ws' := (w_X12_four cA h_t a_t o3)) X (va_cwS 4 X.2.2.2.2.1 gX12_ends_X12_copies rfl rfl rfl (by decide +kernel) (by rw [hR]; exact ⟨Nat.le_of_ble_eq_true rfl, Nat.le_of_ble_eq_true rfl⟩)) (fun sz => c_X12_copies l D cA g sz (a_t 34) 835 (o_t 34) (a_t 0) 835 (o_t 0) (0 : Int32) (0 : Int32) o1 hc2) [16, 1] [0, 1001, 2, 3, 4, 5, 6, 7, 8, 9, 10, 11, 12, 13, 14, 15, 1000, 17, 18, 19, 20, 21] rfl (by decide) (by rw [eo3]; rfl) (by decide) rfl rfl rfl (Nat.le_of_ble_eq_true rfl) dX12_ends_10 ⟨Nat.zero_le _, Nat.zero_le _⟩ ?_
  refine z_aload_n X dX12_ends_13 rfl 0 rfl ?_
  refine z_aload_n X dX12_ends_14 rfl 0 rfl ?_
  refine z_get (v := .int (o3 36 0)) X k_X12_ends_324 0 rfl rfl dX12_ends_15 ?_
  obtain ⟨o4, eo4, hF⟩ := nx_e hF
  refine z_put (ws' := (w_X12_four cA h_t a_t o4)) X k_X12_ends_187 tyX12 tyX12_ok nmX12 rfl rfl 0 rfl (Nat.le_of_ble_eq_true rfl) (by rw [eo4]; rfl) dX12_ends_18 ?_
  refine z_aload_n X dX12_ends_21 rfl 0 rfl ?_
  refine z_aload_n X dX12_ends_22 rfl 0 rfl ?_
  refine z_get (v := .int (o4 37 0)) X k_X12_ends_327 0 rfl rfl dX12_ends_23 ?_
  obtain ⟨g5, hF⟩ := gz_e hF
  obtain ⟨o6, eo6, hF⟩ := nx_e hF
  refine z_putZ (ws' := (w_X12_four cA h_t a_t o6)) X k_X12_ends_184 tyX12 tyX12_ok nmX12 rfl rfl 0 rfl (Nat.le_of_ble_eq_true rfl) (by rw [eo6]; rfl) g5 dX12_ends_26 ?_
  refine z_iconst (v := (0 : Int32)) X dX12_ends_29 (by decide) ?_
  refine z_istore_n (lv' := [(1, .int (0 : Int32)), (0, .ref h_t)]) X dX12_ends_30 rfl (by decide) rfl ?_
  obtain ⟨o16, hL, hF⟩ := zb1_e hF
  have L17_x : ∀ (o16' : Ob), o16' = o16 → ZW p l e R s m args below meth c D A 2 0 0 Q (w_X12_four cA h_t a_t o16') [] 55 [] := by
    intro o16' hz
    cases hz
    cases hF
    exact z_vret X hA hQ hr dX12_ends_55 (Nat.le_refl _) (Nat.le_refl _)
  obtain ⟨B24, hBB24, hL⟩ := zl2_b hL
  have L17 : ∀ (n : Nat) (o14 : Ob) (k15 : Int32), zl2 B24 n o14 k15 = some o16 → ZW p l e R s m args below meth c D A 2 0 0 Q (w_X12_four cA h_t a_t o14) [(0, .ref h_t), (1, .int k15)] 31 [] := by
    intro n
    induction n with
    | zero => intro o14 k15 hL; cases hL
    | succ n ih =>
      intro o14 k15 hL
      obtain ⟨zz18, hF, hL⟩ := zl2_e hL
      rw [hBB24] at hF
      refine z_iload_n X dX12_ends_31 rfl 1 rfl ?_
      refine z_bipush (v := (60 : Int32)) X dX12_ends_32 (by decide) ?_
      have hF := if_e hF
      refine z_icmp_ge (tgt := 55) X dX12_ends_34 (by decide) (fun c23 => ?_) (fun c23 => ?_)
      · have hF := hF.1 c23
        cases hF
        have hL := Option.some.inj hL
        refine z_lv (lv' := []) [] rfl ?_
        exact L17_x o14 hL
      · have hF := hF.2 c23
        refine z_aload_n X dX12_ends_37 rfl 0 rfl ?_
        refine z_get (v := .ref (a_t 19)) X k_X12_ends_33 0 rfl rfl dX12_ends_38 ?_
        refine z_iload_n X dX12_ends_41 rfl 1 rfl ?_
        refine z_aload_n X dX12_ends_42 rfl 0 rfl ?_
        refine z_get (v := .ref (a_t 35)) X k_X12_ends_60 0 rfl rfl dX12_ends_43 ?_
        refine z_iload_n X dX12_ends_46 rfl 1 rfl ?_
        obtain ⟨g19, hF⟩ := gi_e hF
        refine z_iald X 17 rfl g19 dX12_ends_47 ?_
        obtain ⟨g20, hF⟩ := gi_e hF
        obtain ⟨o21, eo21, hF⟩ := nx_e hF
        refine z_iast (ws' := (w_X12_four cA h_t a_t o21)) X 8 rfl g20 (by rw [eo21]; rfl) dX12_ends_48 ?_
        obtain ⟨x22, ex22, hF⟩ := nx_e hF
        refine z_iinc (v := x22) (lv' := [(1, .int x22), (0, .ref h_t)]) (j := 1) X dX12_ends_49 rfl (by rw [ex22]; rfl) (by decide) rfl ?_
        refine z_goto (tgt := 31) X dX12_ends_52 (by decide) ?_
        cases hF
        refine z_lv (lv' := [(0, .ref h_t), (1, .int x22)]) [1, 0] rfl ?_
        exact ih o21 x22 hL
  refine z_lv (lv' := [(0, .ref h_t), (1, .int (0 : Int32))]) [1, 0] rfl ?_
  exact L17 FU o6 (0 : Int32) hL
