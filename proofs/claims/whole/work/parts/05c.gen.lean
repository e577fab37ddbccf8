set_option maxRecDepth 20000 in
theorem h_X12_lies_X12 : ∀ w ∈ wsX120, w ∈ wsX12_lies := by decide +kernel
set_option maxRecDepth 20000 in
theorem k_X12_lies_7 : ZF wsX12_lies RX12 7 12 0 RX12 TX12 47 := ⟨rfl, by decide, h_X12_lies_X12, by decide +kernel⟩
set_option maxHeartbeats 8000000 in
set_option maxRecDepth 100000 in
theorem c_X12_lies (l : Launch) (D : va_G) (cA : Nat → ClassId) (g : Nat → Nat) (sz : Nat) (h_t : Nat) (a_t : Nat → Nat) (o_t : Ob)  (rv : Int32) (hF : f_X12_lies o_t = some rv) : Met l yX12_lies wsX12_lies ({ frames := 1, cells := 0, slots := 0, locals := 21 }) (va_Pc [.ref h_t] (PreW D cA g sz (w_X12_four cA h_t a_t o_t))) (va_Qi (fun (r : Int32) (_ : Unit) => r = rv) (PostW D cA sz (w_X12_four cA h_t a_t o_t) (w_X12_four cA h_t a_t o_t)) (va_A (w_X12_four cA h_t a_t o_t) sz)) 0 0 (va_A (w_X12_four cA h_t a_t o_t) sz) := by
  refine z_start (cc := cX12_lies) (maxL := 3) (ret := (some .int)) (lv0 := [(0, .ref h_t)]) (Qc := fun sz => va_Qi (fun (r : Int32) (_ : Unit) => r = rv) (PostW D cA sz (w_X12_four cA h_t a_t o_t) (w_X12_four cA h_t a_t o_t)) (va_A (w_X12_four cA h_t a_t o_t) sz)) (free := fun sz => va_A (w_X12_four cA h_t a_t o_t) sz) (by decide +kernel) rfl rfl (Nat.le_of_ble_eq_true rfl) ?_
  intro p e R s m args below meth c A Q hR hA hQ X hr hin
  unfold f_X12_lies at hF
  refine z_iconst (v := (0 : Int32)) X dX12_lies_0 (by decide) ?_
  refine z_istore_n (lv' := [(1, .int (0 : Int32)), (0, .ref h_t)]) X dX12_lies_1 rfl (by decide) rfl ?_
  refine z_iconst (v := (0 : Int32)) X dX12_lies_2 (by decide) ?_
  refine z_istore_n (lv' := [(2, .int (0 : Int32)), (1, .int (0 : Int32)), (0, .ref h_t)]) X dX12_lies_3 rfl (by decide) rfl ?_
  obtain ⟨k19, hL, hF⟩ := zb1_e hF
  have L20_x : ∀ (k19' : Int32), k19' = k19 → ZW p l e R s m args below meth c D A 3 0 0 Q (w_X12_four cA h_t a_t o_t) [(1, .int k19')] 49 [] := by
    intro k19' hz
    cases hz
    refine z_iload_n X dX12_lies_49 rfl 0 rfl ?_
    cases hF
    exact z_iret X hA hQ hr rfl dX12_lies_50 (Nat.le_refl _) (Nat.le_refl _)
  obtain ⟨B35, hBB35, hL⟩ := zl2_b hL
  have L20 : ∀ (n : Nat) (k17 : Int32) (k18 : Int32), zl2 B35 n k17 k18 = some k19 → ZW p l e R s m args below meth c D A 3 0 0 Q (w_X12_four cA h_t a_t o_t) [(0, .ref h_t), (1, .int k17), (2, .int k18)] 4 [] := by
    intro n
    induction n with
    | zero => intro k17 k18 hL; cases hL
    | succ n ih =>
      intro k17 k18 hL
      obtain ⟨zz21, hF, hL⟩ := zl2_e hL
      rw [hBB35] at hF
      refine z_iload_n X dX12_lies_4 rfl 2 rfl ?_
      refine z_aload_n X dX12_lies_5 rfl 0 rfl ?_
      refine z_get (v := .ref (a_t 0)) X k_X12_lies_7 0 rfl rfl dX12_lies_6 ?_
      refine z_iconst (v := (2 : Int32)) X dX12_lies_9 (by decide) ?_
      obtain ⟨g22, hF⟩ := gi_e hF
      refine z_iald X 1 rfl g22 dX12_lies_10 ?_
      have hF := if_e hF
      refine z_icmp_ge (tgt := 49) X dX12_lies_11 (by decide) (fun c34 => ?_) (fun c34 => ?_)
      · have hF := hF.1 c34
        cases hF
        have hL := Option.some.inj hL
        refine z_lv (lv' := [(1, .int k17)]) [1] rfl ?_
        exact L20_x k17 hL
      · have hF := hF.2 c34
        refine z_iload_n X dX12_lies_14 rfl 1 rfl ?_
        refine z_aload_n X dX12_lies_15 rfl 0 rfl ?_
        refine z_get (v := .ref (a_t 0)) X k_X12_lies_7 0 rfl rfl dX12_lies_16 ?_
        refine z_iconst (v := (3 : Int32)) X dX12_lies_19 (by decide) ?_
        obtain ⟨g23, hF⟩ := gi_e hF
        refine z_iald X 1 rfl g23 dX12_lies_20 ?_
        refine z_iload_n X dX12_lies_21 rfl 2 rfl ?_
        obtain ⟨r24, hc25, hF⟩ := zb1_e hF
        refine z_Si (As := [.int (o_t 0 (Int32.toNatClampNeg (3 : Int32))), .int k18]) (rest := [.int k17]) (wc := ([] : va_W)) (wc' := ([] : va_W)) (ws' := (w_X12_four cA h_t a_t o_t)) (rv := r24) X (va_cwS 2 X.2.2.2.2.1 gX12_lies_X12_bitOf rfl rfl rfl (by decide +kernel) (by rw [hR]; exact ⟨Nat.le_of_ble_eq_true rfl, Nat.le_of_ble_eq_true rfl⟩)) (fun sz => c_X12_bitOf l D cA g sz (o_t 0 (Int32.toNatClampNeg (3 : Int32))) k18 r24 hc25) [] [0, 1, 2, 3, 4, 5, 6, 7, 8, 9, 10, 11, 12, 13, 14, 15, 16, 17, 18, 19, 20, 21] rfl (by decide) rfl (by decide) rfl rfl rfl (Nat.le_of_ble_eq_true rfl) dX12_lies_22 ⟨Nat.zero_le _, Nat.zero_le _⟩ ?_
        obtain ⟨K29, eK29, hF⟩ := nx_e hF
        have K29_l : ∀ (j28 : Int32), K29 j28 = some zz21 → ZW p l e R s m args below meth c D A 3 0 0 Q (w_X12_four cA h_t a_t o_t) [(0, .ref h_t), (2, .int k18)] 41 [.int j28, .int k17] := by
          intro j28 hF
          rw [eK29] at hF
          refine z_iadd X dX12_lies_41 ?_
          obtain ⟨x30, ex30, hF⟩ := nx_e hF
          refine z_nm ex30 ?_
          refine z_istore_n (lv' := [(1, .int x30), (0, .ref h_t), (2, .int k18)]) X dX12_lies_42 rfl (by decide) rfl ?_
          obtain ⟨x31, ex31, hF⟩ := nx_e hF
          refine z_iinc (v := x31) (lv' := [(2, .int x31), (1, .int x30), (0, .ref h_t)]) (j := 2) X dX12_lies_43 rfl (by rw [ex31]; rfl) (by decide) rfl ?_
          refine z_goto (tgt := 4) X dX12_lies_46 (by decide) ?_
          cases hF
          refine z_lv (lv' := [(0, .ref h_t), (1, .int x30), (2, .int x31)]) [2, 1, 0] rfl ?_
          exact ih x30 x31 hL
        have hF := if_e hF
        refine z_if_eq (tgt := 40) X dX12_lies_25 (by decide) (fun c33 => ?_) (fun c33 => ?_)
        · have hF := hF.1 c33
          refine z_iconst (v := (0 : Int32)) X dX12_lies_40 (by decide) ?_
          refine z_lv (lv' := [(0, .ref h_t), (2, .int k18)]) [0, 2] rfl ?_
          exact K29_l (0 : Int32) hF
        · have hF := hF.2 c33
          refine z_aload_n X dX12_lies_28 rfl 0 rfl ?_
          refine z_get (v := .ref (a_t 0)) X k_X12_lies_7 0 rfl rfl dX12_lies_29 ?_
          refine z_bipush (v := (8 : Int32)) X dX12_lies_32 (by decide) ?_
          refine z_iload_n X dX12_lies_34 rfl 2 rfl ?_
          refine z_iadd X dX12_lies_35 ?_
          obtain ⟨g32, hF⟩ := gi_e hF
          refine z_iald X 1 rfl g32 dX12_lies_36 ?_
          refine z_goto (tgt := 41) X dX12_lies_37 (by decide) ?_
          refine z_lv (lv' := [(0, .ref h_t), (2, .int k18)]) [0, 2] rfl ?_
          exact K29_l (o_t 0 (Int32.toNatClampNeg ((8 : Int32) + k18))) hF
  refine z_lv (lv' := [(0, .ref h_t), (1, .int (0 : Int32)), (2, .int (0 : Int32))]) [2, 1, 0] rfl ?_
  exact L20 FU (0 : Int32) (0 : Int32) hL
set_option maxRecDepth 20000 in
theorem h_X12_down_X12 : ∀ w ∈ wsX120, w ∈ wsX12_down := by decide +kernel
set_option maxRecDepth 20000 in
theorem k_X12_down_7 : ZF wsX12_down RX12 7 12 0 RX12 TX12 47 := ⟨rfl, by decide, h_X12_down_X12, by decide +kernel⟩
set_option maxHeartbeats 8000000 in
set_option maxRecDepth 100000 in
theorem c_X12_down (l : Launch) (D : va_G) (cA : Nat → ClassId) (g : Nat → Nat) (sz : Nat) (h_t : Nat) (a_t : Nat → Nat) (o_t : Ob) (v1 : Int32) (o_t' : Ob) (hF : f_X12_down o_t v1 = some o_t') : Met l yX12_down wsX12_down ({ frames := 2, cells := 0, slots := 0, locals := 47 }) (va_Pc [.ref h_t, .int v1] (PreW D cA g sz (w_X12_four cA h_t a_t o_t))) (va_Qv (fun (_ : Unit) => True) (PostW D cA sz (w_X12_four cA h_t a_t o_t) (w_X12_four cA h_t a_t o_t')) (va_A (w_X12_four cA h_t a_t o_t) sz)) 0 0 (va_A (w_X12_four cA h_t a_t o_t) sz) := by
  refine z_start (cc := cX12_down) (maxL := 2) (ret := none) (lv0 := [(0, .ref h_t), (1, .int v1)]) (Qc := fun sz => va_Qv (fun (_ : Unit) => True) (PostW D cA sz (w_X12_four cA h_t a_t o_t) (w_X12_four cA h_t a_t o_t')) (va_A (w_X12_four cA h_t a_t o_t) sz)) (free := fun sz => va_A (w_X12_four cA h_t a_t o_t) sz) (by decide +kernel) rfl rfl (Nat.le_of_ble_eq_true rfl) ?_
  intro p e R s m args below meth c A Q hR hA hQ X hr hin
  unfold f_X12_down at hF
  refine z_aload_n X dX12_down_0 rfl 0 rfl ?_
  refine z_get (v := .ref (a_t 0)) X k_X12_down_7 0 rfl rfl dX12_down_1 ?_
  refine z_iconst (v := (3 : Int32)) X dX12_down_4 (by decide) ?_
  refine z_dup2 X dX12_down_5 rfl rfl ?_
  obtain ⟨g1, hF⟩ := gi_e hF
  refine z_iald X 1 rfl g1 dX12_down_6 ?_
  refine z_iconst (v := (1 : Int32)) X dX12_down_7 (by decide) ?_
  refine z_iload_n X dX12_down_8 rfl 1 rfl ?_
  refine z_ishl X dX12_down_9 ?_
  refine z_iconst (v := (-1 : Int32)) X dX12_down_10 (by decide) ?_
  refine z_ixor X dX12_down_11 ?_
  refine z_iand X dX12_down_12 ?_
  obtain ⟨g2, hF⟩ := gi_e hF
  obtain ⟨o3, eo3, hF⟩ := nx_e hF
  refine z_iast (ws' := (w_X12_four cA h_t a_t o3)) X 1 rfl g2 (by rw [eo3]; rfl) dX12_down_13 ?_
  refine z_aload_n X dX12_down_14 rfl 0 rfl ?_
  refine z_get (v := .ref (a_t 0)) X k_X12_down_7 0 rfl rfl dX12_down_15 ?_
  refine z_bipush (v := (32 : Int32)) X dX12_down_18 (by decide) ?_
  refine z_iload_n X dX12_down_20 rfl 1 rfl ?_
  refine z_iadd X dX12_down_21 ?_
  refine z_iconst (v := (0 : Int32)) X dX12_down_22 (by decide) ?_
  obtain ⟨g4, hF⟩ := gi_e hF
  obtain ⟨o5, eo5, hF⟩ := nx_e hF
  refine z_iast (ws' := (w_X12_four cA h_t a_t o5)) X 1 rfl g4 (by rw [eo5]; rfl) dX12_down_23 ?_
  refine z_aload_n X dX12_down_24 rfl 0 rfl ?_
  refine z_get (v := .ref (a_t 0)) X k_X12_down_7 0 rfl rfl dX12_down_25 ?_
  refine z_iconst (v := (5 : Int32)) X dX12_down_28 (by decide) ?_
  refine z_dup2 X dX12_down_29 rfl rfl ?_
  obtain ⟨g6, hF⟩ := gi_e hF
  refine z_iald X 1 rfl g6 dX12_down_30 ?_
  refine z_iconst (v := (1 : Int32)) X dX12_down_31 (by decide) ?_
  refine z_iadd X dX12_down_32 ?_
  obtain ⟨g7, hF⟩ := gi_e hF
  obtain ⟨o8, eo8, hF⟩ := nx_e hF
  refine z_iast (ws' := (w_X12_four cA h_t a_t o8)) X 1 rfl g7 (by rw [eo8]; rfl) dX12_down_33 ?_
  refine z_aload_n X dX12_down_34 rfl 0 rfl ?_
  refine z_iconst (v := (2 : Int32)) X dX12_down_35 (by decide) ?_
  refine z_iload_n X dX12_down_36 rfl 1 rfl ?_
  refine z_aload_n X dX12_down_37 rfl 0 rfl ?_
  refine z_get (v := .ref (a_t 0)) X k_X12_down_7 0 rfl rfl dX12_down_38 ?_
  refine z_bipush (v := (8 : Int32)) X dX12_down_41 (by decide) ?_
  refine z_iload_n X dX12_down_43 rfl 1 rfl ?_
  refine z_iadd X dX12_down_44 ?_
  obtain ⟨g9, hF⟩ := gi_e hF
  refine z_iald X 1 rfl g9 dX12_down_45 ?_
  obtain ⟨o10, hc11, hF⟩ := zb1_e hF
  refine z_Vv (As := [.int (2 : Int32), .int v1, .int (o8 0 (Int32.toNatClampNeg ((8 : Int32) + v1)))]) (rest := []) (wc := (w_X12_four cA h_t a_t o8)) (wc' := (w_X12_four cA h_t a_t o10)) (ws' := (w_X12_four cA h_t a_t o10)) X (cwV 3 X.2.2.2.2.1 gX12_down_X12_entry rfl rfl rfl (by decide +kernel) (by rw [hR]; exact ⟨Nat.le_of_ble_eq_true rfl, Nat.le_of_ble_eq_true rfl⟩)) (fun sz => c_X12_entry l D cA g sz h_t a_t o8 (2 : Int32) v1 (o8 0 (Int32.toNatClampNeg ((8 : Int32) + v1))) o10 hc11) [0, 1, 2, 3, 4, 5, 6, 7, 8, 9, 10, 11, 12, 13, 14, 15, 16, 17, 18, 19, 20, 21] [1000, 1001, 1002, 1003, 1004, 1005, 1006, 1007, 1008, 1009, 1010, 1011, 1012, 1013, 1014, 1015, 1016, 1017, 1018, 1019, 1020, 1021] rfl (by decide) rfl (by decide) rfl rfl rfl rfl rfl rfl (Nat.le_of_ble_eq_true rfl) dX12_down_46 ⟨Nat.zero_le _, Nat.zero_le _⟩ ?_
  refine z_aload_n X dX12_down_49 rfl 0 rfl ?_
  obtain ⟨o12, hc13, hF⟩ := zb1_e hF
  refine z_Vv (As := []) (rest := []) (wc := (w_X12_four cA h_t a_t o10)) (wc' := (w_X12_four cA h_t a_t o12)) (ws' := (w_X12_four cA h_t a_t o12)) X (cwV 0 X.2.2.2.2.1 gX12_down_X12_gatesOpen rfl rfl rfl (by decide +kernel) (by rw [hR]; exact ⟨Nat.le_of_ble_eq_true rfl, Nat.le_of_ble_eq_true rfl⟩)) (fun sz => c_X12_gatesOpen l D cA g sz h_t a_t o10 o12 hc13) [0, 1, 2, 3, 4, 5, 6, 7, 8, 9, 10, 11, 12, 13, 14, 15, 16, 17, 18, 19, 20, 21] [1000, 1001, 1002, 1003, 1004, 1005, 1006, 1007, 1008, 1009, 1010, 1011, 1012, 1013, 1014, 1015, 1016, 1017, 1018, 1019, 1020, 1021] rfl (by decide) rfl (by decide) rfl rfl rfl rfl rfl rfl (Nat.le_of_ble_eq_true rfl) dX12_down_50 ⟨Nat.zero_le _, Nat.zero_le _⟩ ?_
  cases hF
  exact z_vret X hA hQ hr dX12_down_53 (Nat.le_refl _) (Nat.le_refl _)
set_option maxRecDepth 20000 in
theorem h_X12_up_X12 : ∀ w ∈ wsX120, w ∈ wsX12_up := by decide +kernel
set_option maxRecDepth 20000 in
theorem k_X12_up_7 : ZF wsX12_up RX12 7 12 0 RX12 TX12 47 := ⟨rfl, by decide, h_X12_up_X12, by decide +kernel⟩
set_option maxHeartbeats 8000000 in
set_option maxRecDepth 100000 in
theorem c_X12_up (l : Launch) (D : va_G) (cA : Nat → ClassId) (g : Nat → Nat) (sz : Nat) (h_t : Nat) (a_t : Nat → Nat) (o_t : Ob) (v1 : Int32) (o_t' : Ob) (hF : f_X12_up o_t v1 = some o_t') : Met l yX12_up wsX12_up ({ frames := 2, cells := 0, slots := 0, locals := 47 }) (va_Pc [.ref h_t, .int v1] (PreW D cA g sz (w_X12_four cA h_t a_t o_t))) (va_Qv (fun (_ : Unit) => True) (PostW D cA sz (w_X12_four cA h_t a_t o_t) (w_X12_four cA h_t a_t o_t')) (va_A (w_X12_four cA h_t a_t o_t) sz)) 0 0 (va_A (w_X12_four cA h_t a_t o_t) sz) := by
  refine z_start (cc := cX12_up) (maxL := 2) (ret := none) (lv0 := [(0, .ref h_t), (1, .int v1)]) (Qc := fun sz => va_Qv (fun (_ : Unit) => True) (PostW D cA sz (w_X12_four cA h_t a_t o_t) (w_X12_four cA h_t a_t o_t')) (va_A (w_X12_four cA h_t a_t o_t) sz)) (free := fun sz => va_A (w_X12_four cA h_t a_t o_t) sz) (by decide +kernel) rfl rfl (Nat.le_of_ble_eq_true rfl) ?_
  intro p e R s m args below meth c A Q hR hA hQ X hr hin
  unfold f_X12_up at hF
  refine z_aload_n X dX12_up_0 rfl 0 rfl ?_
  refine z_get (v := .ref (a_t 0)) X k_X12_up_7 0 rfl rfl dX12_up_1 ?_
  refine z_iconst (v := (3 : Int32)) X dX12_up_4 (by decide) ?_
  refine z_dup2 X dX12_up_5 rfl rfl ?_
  obtain ⟨g1, hF⟩ := gi_e hF
  refine z_iald X 1 rfl g1 dX12_up_6 ?_
  refine z_iconst (v := (1 : Int32)) X dX12_up_7 (by decide) ?_
  refine z_iload_n X dX12_up_8 rfl 1 rfl ?_
  refine z_ishl X dX12_up_9 ?_
  refine z_ior X dX12_up_10 ?_
  obtain ⟨g2, hF⟩ := gi_e hF
  obtain ⟨o3, eo3, hF⟩ := nx_e hF
  refine z_iast (ws' := (w_X12_four cA h_t a_t o3)) X 1 rfl g2 (by rw [eo3]; rfl) dX12_up_11 ?_
  refine z_aload_n X dX12_up_12 rfl 0 rfl ?_
  refine z_get (v := .ref (a_t 0)) X k_X12_up_7 0 rfl rfl dX12_up_13 ?_
  refine z_bipush (v := (32 : Int32)) X dX12_up_16 (by decide) ?_
  refine z_iload_n X dX12_up_18 rfl 1 rfl ?_
  refine z_iadd X dX12_up_19 ?_
  refine z_bipush (v := (60 : Int32)) X dX12_up_20 (by decide) ?_
  refine z_aload_n X dX12_up_22 rfl 0 rfl ?_
  refine z_get (v := .ref (a_t 0)) X k_X12_up_7 0 rfl rfl dX12_up_23 ?_
  refine z_bipush (v := (16 : Int32)) X dX12_up_26 (by decide) ?_
  refine z_iload_n X dX12_up_28 rfl 1 rfl ?_
  refine z_iadd X dX12_up_29 ?_
  obtain ⟨g4, hF⟩ := gi_e hF
  refine z_iald X 1 rfl g4 dX12_up_30 ?_
  refine z_imul X dX12_up_31 ?_
  refine z_aload_n X dX12_up_32 rfl 0 rfl ?_
  refine z_get (v := .ref (a_t 0)) X k_X12_up_7 0 rfl rfl dX12_up_33 ?_
  refine z_bipush (v := (8 : Int32)) X dX12_up_36 (by decide) ?_
  refine z_iload_n X dX12_up_38 rfl 1 rfl ?_
  refine z_iadd X dX12_up_39 ?_
  obtain ⟨g5, hF⟩ := gi_e hF
  refine z_iald X 1 rfl g5 dX12_up_40 ?_
  obtain ⟨g6, hF⟩ := gn_e hF
  refine z_idiv X g6 dX12_up_41 ?_
  obtain ⟨g7, hF⟩ := gi_e hF
  obtain ⟨o8, eo8, hF⟩ := nx_e hF
  refine z_iast (ws' := (w_X12_four cA h_t a_t o8)) X 1 rfl g7 (by rw [eo8]; rfl) dX12_up_42 ?_
  refine z_aload_n X dX12_up_43 rfl 0 rfl ?_
  refine z_get (v := .ref (a_t 0)) X k_X12_up_7 0 rfl rfl dX12_up_44 ?_
  refine z_bipush (v := (40 : Int32)) X dX12_up_47 (by decide) ?_
  refine z_iload_n X dX12_up_49 rfl 1 rfl ?_
  refine z_iadd X dX12_up_50 ?_
  refine z_iconst (v := (0 : Int32)) X dX12_up_51 (by decide) ?_
  obtain ⟨g9, hF⟩ := gi_e hF
  obtain ⟨o10, eo10, hF⟩ := nx_e hF
  refine z_iast (ws' := (w_X12_four cA h_t a_t o10)) X 1 rfl g9 (by rw [eo10]; rfl) dX12_up_52 ?_
  refine z_aload_n X dX12_up_53 rfl 0 rfl ?_
  refine z_get (v := .ref (a_t 0)) X k_X12_up_7 0 rfl rfl dX12_up_54 ?_
  refine z_bipush (v := (6 : Int32)) X dX12_up_57 (by decide) ?_
  refine z_dup2 X dX12_up_59 rfl rfl ?_
  obtain ⟨g11, hF⟩ := gi_e hF
  refine z_iald X 1 rfl g11 dX12_up_60 ?_
  refine z_iconst (v := (1 : Int32)) X dX12_up_61 (by decide) ?_
  refine z_iadd X dX12_up_62 ?_
  obtain ⟨g12, hF⟩ := gi_e hF
  obtain ⟨o13, eo13, hF⟩ := nx_e hF
  refine z_iast (ws' := (w_X12_four cA h_t a_t o13)) X 1 rfl g12 (by rw [eo13]; rfl) dX12_up_63 ?_
  refine z_aload_n X dX12_up_64 rfl 0 rfl ?_
  refine z_get (v := .ref (a_t 0)) X k_X12_up_7 0 rfl rfl dX12_up_65 ?_
  refine z_iconst (v := (4 : Int32)) X dX12_up_68 (by decide) ?_
  refine z_dup2 X dX12_up_69 rfl rfl ?_
  obtain ⟨g14, hF⟩ := gi_e hF
  refine z_iald X 1 rfl g14 dX12_up_70 ?_
  refine z_aload_n X dX12_up_71 rfl 0 rfl ?_
  refine z_get (v := .ref (a_t 0)) X k_X12_up_7 0 rfl rfl dX12_up_72 ?_
  refine z_bipush (v := (16 : Int32)) X dX12_up_75 (by decide) ?_
  refine z_iload_n X dX12_up_77 rfl 1 rfl ?_
  refine z_iadd X dX12_up_78 ?_
  obtain ⟨g15, hF⟩ := gi_e hF
  refine z_iald X 1 rfl g15 dX12_up_79 ?_
  refine z_iadd X dX12_up_80 ?_
  obtain ⟨g16, hF⟩ := gi_e hF
  obtain ⟨o17, eo17, hF⟩ := nx_e hF
  refine z_iast (ws' := (w_X12_four cA h_t a_t o17)) X 1 rfl g16 (by rw [eo17]; rfl) dX12_up_81 ?_
  refine z_aload_n X dX12_up_82 rfl 0 rfl ?_
  refine z_iconst (v := (3 : Int32)) X dX12_up_83 (by decide) ?_
  refine z_iload_n X dX12_up_84 rfl 1 rfl ?_
  refine z_aload_n X dX12_up_85 rfl 0 rfl ?_
  refine z_get (v := .ref (a_t 0)) X k_X12_up_7 0 rfl rfl dX12_up_86 ?_
  refine z_bipush (v := (16 : Int32)) X dX12_up_89 (by decide) ?_
  refine z_iload_n X dX12_up_91 rfl 1 rfl ?_
  refine z_iadd X dX12_up_92 ?_
  obtain ⟨g18, hF⟩ := gi_e hF
  refine z_iald X 1 rfl g18 dX12_up_93 ?_
  obtain ⟨o19, hc20, hF⟩ := zb1_e hF
  refine z_Vv (As := [.int (3 : Int32), .int v1, .int (o17 0 (Int32.toNatClampNeg ((16 : Int32) + v1)))]) (rest := []) (wc := (w_X12_four cA h_t a_t o17)) (wc' := (w_X12_four cA h_t a_t o19)) (ws' := (w_X12_four cA h_t a_t o19)) X (cwV 3 X.2.2.2.2.1 gX12_up_X12_entry rfl rfl rfl (by decide +kernel) (by rw [hR]; exact ⟨Nat.le_of_ble_eq_true rfl, Nat.le_of_ble_eq_true rfl⟩)) (fun sz => c_X12_entry l D cA g sz h_t a_t o17 (3 : Int32) v1 (o17 0 (Int32.toNatClampNeg ((16 : Int32) + v1))) o19 hc20) [0, 1, 2, 3, 4, 5, 6, 7, 8, 9, 10, 11, 12, 13, 14, 15, 16, 17, 18, 19, 20, 21] [1000, 1001, 1002, 1003, 1004, 1005, 1006, 1007, 1008, 1009, 1010, 1011, 1012, 1013, 1014, 1015, 1016, 1017, 1018, 1019, 1020, 1021] rfl (by decide) rfl (by decide) rfl rfl rfl rfl rfl rfl (Nat.le_of_ble_eq_true rfl) dX12_up_94 ⟨Nat.zero_le _, Nat.zero_le _⟩ ?_
  refine z_aload_n X dX12_up_97 rfl 0 rfl ?_
  obtain ⟨o21, hc22, hF⟩ := zb1_e hF
  refine z_Vv (As := []) (rest := []) (wc := (w_X12_four cA h_t a_t o19)) (wc' := (w_X12_four cA h_t a_t o21)) (ws' := (w_X12_four cA h_t a_t o21)) X (cwV 0 X.2.2.2.2.1 gX12_up_X12_gatesOpen rfl rfl rfl (by decide +kernel) (by rw [hR]; exact ⟨Nat.le_of_ble_eq_true rfl, Nat.le_of_ble_eq_true rfl⟩)) (fun sz => c_X12_gatesOpen l D cA g sz h_t a_t o19 o21 hc22) [0, 1, 2, 3, 4, 5, 6, 7, 8, 9, 10, 11, 12, 13, 14, 15, 16, 17, 18, 19, 20, 21] [1000, 1001, 1002, 1003, 1004, 1005, 1006, 1007, 1008, 1009, 1010, 1011, 1012, 1013, 1014, 1015, 1016, 1017, 1018, 1019, 1020, 1021] rfl (by decide) rfl (by decide) rfl rfl rfl rfl rfl rfl (Nat.le_of_ble_eq_true rfl) dX12_up_98 ⟨Nat.zero_le _, Nat.zero_le _⟩ ?_
  cases hF
  exact z_vret X hA hQ hr dX12_up_101 (Nat.le_refl _) (Nat.le_refl _)
set_option maxRecDepth 20000 in
theorem h_X12_least_X12 : ∀ w ∈ wsX120, w ∈ wsX12_least := by decide +kernel
set_option maxRecDepth 20000 in
theorem k_X12_least_7 : ZF wsX12_least RX12 7 12 0 RX12 TX12 47 := ⟨rfl, by decide, h_X12_least_X12, by decide +kernel⟩
set_option maxHeartbeats 8000000 in
set_option maxRecDepth 100000 in
theorem c_X12_least (l : Launch) (D : va_G) (cA : Nat → ClassId) (g : Nat → Nat) (sz : Nat) (h_t : Nat) (a_t : Nat → Nat) (o_t : Ob)  (rv : Int32) (hF : f_X12_least o_t = some rv) : Met l yX12_least wsX12_least ({ frames := 1, cells := 0, slots := 0, locals := 21 }) (va_Pc [.ref h_t] (PreW D cA g sz (w_X12_four cA h_t a_t o_t))) (va_Qi (fun (r : Int32) (_ : Unit) => r = rv) (PostW D cA sz (w_X12_four cA h_t a_t o_t) (w_X12_four cA h_t a_t o_t)) (va_A (w_X12_four cA h_t a_t o_t) sz)) 0 0 (va_A (w_X12_four cA h_t a_t o_t) sz) := by
  refine z_start (cc := cX12_least) (maxL := 3) (ret := (some .int)) (lv0 := [(0, .ref h_t)]) (Qc := fun sz => va_Qi (fun (r : Int32) (_ : Unit) => r = rv) (PostW D cA sz (w_X12_four cA h_t a_t o_t) (w_X12_four cA h_t a_t o_t)) (va_A (w_X12_four cA h_t a_t o_t) sz)) (free := fun sz => va_A (w_X12_four cA h_t a_t o_t) sz) (by decide +kernel) rfl rfl (Nat.le_of_ble_eq_true rfl) ?_
  intro p e R s m args below meth c A Q hR hA hQ X hr hin
  unfold f_X12_least at hF
  refine z_iconst (v := (-1 : Int32)) X dX12_least_0 (by decide) ?_
  refine z_istore_n (lv' := [(1, .int (-1 : Int32)), (0, .ref h_t)]) X dX12_least_1 rfl (by decide) rfl ?_
  refine z_iconst (v := (0 : Int32)) X dX12_least_2 (by decide) ?_
  refine z_istore_n (lv' := [(2, .int (0 : Int32)), (1, .int (-1 : Int32)), (0, .ref h_t)]) X dX12_least_3 rfl (by decide) rfl ?_
  obtain ⟨k25, hL, hF⟩ := zb1_e hF
  have L26_x : ∀ (k25' : Int32), k25' = k25 → ZW p l e R s m args below meth c D A 3 0 0 Q (w_X12_four cA h_t a_t o_t) [(1, .int k25')] 60 [] := by
    intro k25' hz
    cases hz
    refine z_iload_n X dX12_least_60 rfl 0 rfl ?_
    cases hF
    exact z_iret X hA hQ hr rfl dX12_least_61 (Nat.le_refl _) (Nat.le_refl _)
  obtain ⟨B47, hBB47, hL⟩ := zl2_b hL
  have L26 : ∀ (n : Nat) (k23 : Int32) (k24 : Int32), zl2 B47 n k23 k24 = some k25 → ZW p l e R s m args below meth c D A 3 0 0 Q (w_X12_four cA h_t a_t o_t) [(0, .ref h_t), (1, .int k23), (2, .int k24)] 4 [] := by
    intro n
    induction n with
    | zero => intro k23 k24 hL; cases hL
    | succ n ih =>
      intro k23 k24 hL
      obtain ⟨zz27, hF, hL⟩ := zl2_e hL
      rw [hBB47] at hF
      refine z_iload_n X dX12_least_4 rfl 2 rfl ?_
      refine z_aload_n X dX12_least_5 rfl 0 rfl ?_
      refine z_get (v := .ref (a_t 0)) X k_X12_least_7 0 rfl rfl dX12_least_6 ?_
      refine z_iconst (v := (2 : Int32)) X dX12_least_9 (by decide) ?_
      obtain ⟨g28, hF⟩ := gi_e hF
      refine z_iald X 1 rfl g28 dX12_least_10 ?_
      have hF := if_e hF
      refine z_icmp_ge (tgt := 60) X dX12_least_11 (by decide) (fun c46 => ?_) (fun c46 => ?_)
      · have hF := hF.1 c46
        cases hF
        have hL := Option.some.inj hL
        refine z_lv (lv' := [(1, .int k23)]) [1] rfl ?_
        exact L26_x k23 hL
      · have hF := hF.2 c46
        refine z_aload_n X dX12_least_14 rfl 0 rfl ?_
        refine z_get (v := .ref (a_t 0)) X k_X12_least_7 0 rfl rfl dX12_least_15 ?_
        refine z_iconst (v := (3 : Int32)) X dX12_least_18 (by decide) ?_
        obtain ⟨g29, hF⟩ := gi_e hF
        refine z_iald X 1 rfl g29 dX12_least_19 ?_
        refine z_iload_n X dX12_least_20 rfl 2 rfl ?_
        obtain ⟨r30, hc31, hF⟩ := zb1_e hF
        refine z_Si (As := [.int (o_t 0 (Int32.toNatClampNeg (3 : Int32))), .int k24]) (rest := []) (wc := ([] : va_W)) (wc' := ([] : va_W)) (ws' := (w_X12_four cA h_t a_t o_t)) (rv := r30) X (va_cwS 2 X.2.2.2.2.1 gX12_least_X12_bitOf rfl rfl rfl (by decide +kernel) (by rw [hR]; exact ⟨Nat.le_of_ble_eq_true rfl, Nat.le_of_ble_eq_true rfl⟩)) (fun sz => c_X12_bitOf l D cA g sz (o_t 0 (Int32.toNatClampNeg (3 : Int32))) k24 r30 hc31) [] [0, 1, 2, 3, 4, 5, 6, 7, 8, 9, 10, 11, 12, 13, 14, 15, 16, 17, 18, 19, 20, 21] rfl (by decide) rfl (by decide) rfl rfl rfl (Nat.le_of_ble_eq_true rfl) dX12_least_21 ⟨Nat.zero_le _, Nat.zero_le _⟩ ?_
        have hF := if_e hF
        refine z_if_eq (tgt := 54) X dX12_least_24 (by decide) (fun c45 => ?_) (fun c45 => ?_)
        · have hF := hF.1 c45
          obtain ⟨x32, ex32, hF⟩ := nx_e hF
          refine z_iinc (v := x32) (lv' := [(2, .int x32), (0, .ref h_t), (1, .int k23)]) (j := 2) X dX12_least_54 rfl (by rw [ex32]; rfl) (by decide) rfl ?_
          refine z_goto (tgt := 4) X dX12_least_57 (by decide) ?_
          cases hF
          refine z_lv (lv' := [(0, .ref h_t), (1, .int k23), (2, .int x32)]) [1, 2, 0] rfl ?_
          exact ih k23 x32 hL
        · have hF := hF.2 c45
          refine z_iload_n X dX12_least_27 rfl 1 rfl ?_
          obtain ⟨K38, eK38, hF⟩ := nx_e hF
          have K38_l : ∀ (_ : Unit), K38 () = some zz27 → ZW p l e R s m args below meth c D A 3 0 0 Q (w_X12_four cA h_t a_t o_t) [(0, .ref h_t), (2, .int k24)] 52 [] := by
            intro _ hF
            rw [eK38] at hF
            refine z_iload_n X dX12_least_52 rfl 1 rfl ?_
            refine z_istore_n (lv' := [(1, .int k24), (0, .ref h_t), (2, .int k24)]) X dX12_least_53 rfl (by decide) rfl ?_
            obtain ⟨x39, ex39, hF⟩ := nx_e hF
            refine z_iinc (v := x39) (lv' := [(2, .int x39), (1, .int k24), (0, .ref h_t)]) (j := 2) X dX12_least_54 rfl (by rw [ex39]; rfl) (by decide) rfl ?_
            refine z_goto (tgt := 4) X dX12_least_57 (by decide) ?_
            cases hF
            refine z_lv (lv' := [(0, .ref h_t), (1, .int k24), (2, .int x39)]) [2, 1, 0] rfl ?_
            exact ih k24 x39 hL
          have hF := if_e hF
          refine z_if_lt (tgt := 52) X dX12_least_28 (by decide) (fun c44 => ?_) (fun c44 => ?_)
          · have hF := hF.1 c44
            refine z_lv (lv' := [(0, .ref h_t), (2, .int k24)]) [0, 2] rfl ?_
            exact K38_l () hF
          · have hF := hF.2 c44
            refine z_aload_n X dX12_least_31 rfl 0 rfl ?_
            refine z_get (v := .ref (a_t 0)) X k_X12_least_7 0 rfl rfl dX12_least_32 ?_
            refine z_bipush (v := (32 : Int32)) X dX12_least_35 (by decide) ?_
            refine z_iload_n X dX12_least_37 rfl 2 rfl ?_
            refine z_iadd X dX12_least_38 ?_
            obtain ⟨g40, hF⟩ := gi_e hF
            refine z_iald X 1 rfl g40 dX12_least_39 ?_
            refine z_aload_n X dX12_least_40 rfl 0 rfl ?_
            refine z_get (v := .ref (a_t 0)) X k_X12_least_7 0 rfl rfl dX12_least_41 ?_
            refine z_bipush (v := (32 : Int32)) X dX12_least_44 (by decide) ?_
            refine z_iload_n X dX12_least_46 rfl 1 rfl ?_
            refine z_iadd X dX12_least_47 ?_
            obtain ⟨g41, hF⟩ := gi_e hF
            refine z_iald X 1 rfl g41 dX12_least_48 ?_
            have hF := if_e hF
            refine z_icmp_ge (tgt := 54) X dX12_least_49 (by decide) (fun c43 => ?_) (fun c43 => ?_)
            · have hF := hF.1 c43
              obtain ⟨x42, ex42, hF⟩ := nx_e hF
              refine z_iinc (v := x42) (lv' := [(2, .int x42), (0, .ref h_t), (1, .int k23)]) (j := 2) X dX12_least_54 rfl (by rw [ex42]; rfl) (by decide) rfl ?_
              refine z_goto (tgt := 4) X dX12_least_57 (by decide) ?_
              cases hF
              refine z_lv (lv' := [(0, .ref h_t), (1, .int k23), (2, .int x42)]) [1, 2, 0] rfl ?_
              exact ih k23 x42 hL
            · have hF := hF.2 c43
              refine z_lv (lv' := [(0, .ref h_t), (2, .int k24)]) [0, 2] rfl ?_
              exact K38_l () hF
  refine z_lv (lv' := [(0, .ref h_t), (1, .int (-1 : Int32)), (2, .int (0 : Int32))]) [2, 1, 0] rfl ?_
  exact L26 FU (-1 : Int32) (0 : Int32) hL
set_option maxRecDepth 20000 in
theorem h_X12_way_X12 : ∀ w ∈ wsX120, w ∈ wsX12_way := by decide +kernel
set_option maxRecDepth 20000 in
theorem k_X12_way_7 : ZF wsX12_way RX12 7 12 0 RX12 TX12 47 := ⟨rfl, by decide, h_X12_way_X12, by decide +kernel⟩
set_option maxHeartbeats 8000000 in
set_option maxRecDepth 100000 in
theorem c_X12_way (l : Launch) (D : va_G) (cA : Nat → ClassId) (g : Nat → Nat) (sz : Nat) (h_t : Nat) (a_t : Nat → Nat) (o_t : Ob) (v1 : Int32) (o_t' : Ob) (hF : f_X12_way o_t v1 = some o_t') : Met l yX12_way wsX12_way ({ frames := 3, cells := 0, slots := 0, locals := 68 }) (va_Pc [.ref h_t, .int v1] (PreW D cA g sz (w_X12_four cA h_t a_t o_t))) (va_Qv (fun (_ : Unit) => True) (PostW D cA sz (w_X12_four cA h_t a_t o_t) (w_X12_four cA h_t a_t o_t')) (va_A (w_X12_four cA h_t a_t o_t) sz)) 0 0 (va_A (w_X12_four cA h_t a_t o_t) sz) := by
  refine z_start (cc := cX12_way) (maxL := 5) (ret := none) (lv0 := [(0, .ref h_t), (1, .int v1)]) (Qc := fun sz => va_Qv (fun (_ : Unit) => True) (PostW D cA sz (w_X12_four cA h_t a_t o_t) (w_X12_four cA h_t a_t o_t')) (va_A (w_X12_four cA h_t a_t o_t) sz)) (free := fun sz => va_A (w_X12_four cA h_t a_t o_t) sz) (by decide +kernel) rfl rfl (Nat.le_of_ble_eq_true rfl) ?_
  intro p e R s m args below meth c A Q hR hA hQ X hr hin
  unfold f_X12_way at hF
  obtain ⟨o51, hL, hF⟩ := zb1_e hF
  have L52_x : ∀ (o51' : Ob), o51' = o51 → ZW p l e R s m args below meth c D A 5 0 0 Q (w_X12_four cA h_t a_t o51') [] 94 [] := by
    intro o51' hz
    cases hz
    cases hF
    exact z_vret X hA hQ hr dX12_way_94 (Nat.le_refl _) (Nat.le_refl _)
  obtain ⟨B102, hBB102, hL⟩ := zl1_b hL
  have L52 : ∀ (n : Nat) (o50 : Ob), zl1 B102 n o50 = some o51 → ZW p l e R s m args below meth c D A 5 0 0 Q (w_X12_four cA h_t a_t o50) [(0, .ref h_t), (1, .int v1)] 0 [] := by
    intro n
    induction n with
    | zero => intro o50 hL; cases hL
    | succ n ih =>
      intro o50 hL
      obtain ⟨zz53, hF, hL⟩ := zl1_e hL
      rw [hBB102] at hF
      refine z_aload_n X dX12_way_0 rfl 0 rfl ?_
      refine z_get (v := .ref (a_t 0)) X k_X12_way_7 0 rfl rfl dX12_way_1 ?_
      refine z_iconst (v := (0 : Int32)) X dX12_way_4 (by decide) ?_
      obtain ⟨g54, hF⟩ := gi_e hF
      refine z_iald X 1 rfl g54 dX12_way_5 ?_
      refine z_aload_n X dX12_way_6 rfl 0 rfl ?_
      obtain ⟨r55, hc56, hF⟩ := zb1_e hF
      refine z_Vi (As := []) (rest := [.int (o50 0 (Int32.toNatClampNeg (0 : Int32)))]) (wc := (w_X12_four cA h_t a_t o50)) (wc' := (w_X12_four cA h_t a_t o50)) (ws' := (w_X12_four cA h_t a_t o50)) (rv := r55) X (cwV 0 X.2.2.2.2.1 gX12_way_X12_lies rfl rfl rfl (by decide +kernel) (by rw [hR]; exact ⟨Nat.le_of_ble_eq_true rfl, Nat.le_of_ble_eq_true rfl⟩)) (fun sz => c_X12_lies l D cA g sz h_t a_t o50 r55 hc56) [0, 1, 2, 3, 4, 5, 6, 7, 8, 9, 10, 11, 12, 13, 14, 15, 16, 17, 18, 19, 20, 21] [1000, 1001, 1002, 1003, 1004, 1005, 1006, 1007, 1008, 1009, 1010, 1011, 1012, 1013, 1014, 1015, 1016, 1017, 1018, 1019, 1020, 1021] rfl (by decide) rfl (by decide) rfl rfl rfl rfl rfl rfl (Nat.le_of_ble_eq_true rfl) dX12_way_7 ⟨Nat.zero_le _, Nat.zero_le _⟩ ?_
      refine z_isub X dX12_way_10 ?_
      refine z_iload_n X dX12_way_11 rfl 1 rfl ?_
      have hF := if_e hF
      refine z_icmp_ge (tgt := 94) X dX12_way_12 (by decide) (fun c101 => ?_) (fun c101 => ?_)
      · have hF := hF.1 c101
        cases hF
        have hL := Option.some.inj hL
        refine z_lv (lv' := []) [] rfl ?_
        exact L52_x o50 hL
      · have hF := hF.2 c101
        refine z_aload_n X dX12_way_15 rfl 0 rfl ?_
        obtain ⟨r57, hc58, hF⟩ := zb1_e hF
        refine z_Vi (As := []) (rest := []) (wc := (w_X12_four cA h_t a_t o50)) (wc' := (w_X12_four cA h_t a_t o50)) (ws' := (w_X12_four cA h_t a_t o50)) (rv := r57) X (cwV 0 X.2.2.2.2.1 gX12_way_X12_least rfl rfl rfl (by decide +kernel) (by rw [hR]; exact ⟨Nat.le_of_ble_eq_true rfl, Nat.le_of_ble_eq_true rfl⟩)) (fun sz => c_X12_least l D cA g sz h_t a_t o50 r57 hc58) [0, 1, 2, 3, 4, 5, 6, 7, 8, 9, 10, 11, 12, 13, 14, 15, 16, 17, 18, 19, 20, 21] [1000, 1001, 1002, 1003, 1004, 1005, 1006, 1007, 1008, 1009, 1010, 1011, 1012, 1013, 1014, 1015, 1016, 1017, 1018, 1019, 1020, 1021] rfl (by decide) rfl (by decide) rfl rfl rfl rfl rfl rfl (Nat.le_of_ble_eq_true rfl) dX12_way_16 ⟨Nat.zero_le _, Nat.zero_le _⟩ ?_
        refine z_istore_n (lv' := [(2, .int r57), (0, .ref h_t), (1, .int v1)]) X dX12_way_19 rfl (by decide) rfl ?_
        refine z_aload_n X dX12_way_20 rfl 1 rfl ?_
        refine z_get (v := .ref (a_t 0)) X k_X12_way_7 0 rfl rfl dX12_way_21 ?_
        refine z_bipush (v := (32 : Int32)) X dX12_way_24 (by decide) ?_
        refine z_iload_n X dX12_way_26 rfl 0 rfl ?_
        refine z_iadd X dX12_way_27 ?_
        obtain ⟨g59, hF⟩ := gi_e hF
        refine z_iald X 1 rfl g59 dX12_way_28 ?_
        obtain ⟨x60, ex60, hF⟩ := nx_e hF
        refine z_nm ex60 ?_
        refine z_istore_n (lv' := [(3, .int x60), (2, .int r57), (0, .ref h_t), (1, .int v1)]) X dX12_way_29 rfl (by decide) rfl ?_
        refine z_iload_n X dX12_way_30 rfl 0 rfl ?_
        obtain ⟨K65, eK65, hF⟩ := nx_e hF
        have K65_l : ∀ (q64 : Ob), K65 q64 = some zz53 → ZW p l e R s m args below meth c D A 5 0 0 Q (w_X12_four cA h_t a_t q64) [(0, .ref h_t), (1, .int v1), (3, .int x60)] 39 [] := by
          intro q64 hF
          rw [eK65] at hF
          refine z_iconst (v := (0 : Int32)) X dX12_way_39 (by decide) ?_
          refine z_istore (lv' := [(4, .int (0 : Int32)), (0, .ref h_t), (1, .int v1), (3, .int x60)]) X dX12_way_40 (by decide) rfl ?_
          obtain ⟨o82, hL, hF⟩ := zb1_e hF
          have L83_x : ∀ (o82' : Ob), o82' = o82 → ZW p l e R s m args below meth c D A 5 0 0 Q (w_X12_four cA h_t a_t o82') [(0, .ref h_t), (1, .int v1)] 91 [] := by
            intro o82' hz
            cases hz
            refine z_goto (tgt := 0) X dX12_way_91 (by decide) ?_
            cases hF
            refine z_lv (lv' := [(0, .ref h_t), (1, .int v1)]) [0, 1] rfl ?_
            exact ih o82 hL
          obtain ⟨B97, hBB97, hL⟩ := zl2_b hL
          have L83 : ∀ (n : Nat) (o80 : Ob) (k81 : Int32), zl2 B97 n o80 k81 = some o82 → ZW p l e R s m args below meth c D A 5 0 0 Q (w_X12_four cA h_t a_t o80) [(0, .ref h_t), (1, .int v1), (3, .int x60), (4, .int k81)] 42 [] := by
            intro n
            induction n with
            | zero => intro o80 k81 hL; cases hL
            | succ n ih =>
              intro o80 k81 hL
              obtain ⟨zz84, hF, hL⟩ := zl2_e hL
              rw [hBB97] at hF
              refine z_iload X dX12_way_42 3 rfl ?_
              refine z_aload_n X dX12_way_44 rfl 0 rfl ?_
              refine z_get (v := .ref (a_t 0)) X k_X12_way_7 0 rfl rfl dX12_way_45 ?_
              refine z_iconst (v := (2 : Int32)) X dX12_way_48 (by decide) ?_
              obtain ⟨g85, hF⟩ := gi_e hF
              refine z_iald X 1 rfl g85 dX12_way_49 ?_
              have hF := if_e hF
              refine z_icmp_ge (tgt := 91) X dX12_way_50 (by decide) (fun c96 => ?_) (fun c96 => ?_)
              · have hF := hF.1 c96
                cases hF
                have hL := Option.some.inj hL
                refine z_lv (lv' := [(0, .ref h_t), (1, .int v1)]) [0, 1] rfl ?_
                exact L83_x o80 hL
              · have hF := hF.2 c96
                refine z_iload_n X dX12_way_53 rfl 2 rfl ?_
                have hF := if_e hF
                refine z_if_le (tgt := 91) X dX12_way_54 (by decide) (fun c95 => ?_) (fun c95 => ?_)
                · have hF := hF.1 c95
                  cases hF
                  have hL := Option.some.inj hL
                  refine z_lv (lv' := [(0, .ref h_t), (1, .int v1)]) [0, 1] rfl ?_
                  exact L83_x o80 hL
                · have hF := hF.2 c95
                  refine z_aload_n X dX12_way_57 rfl 0 rfl ?_
                  refine z_get (v := .ref (a_t 0)) X k_X12_way_7 0 rfl rfl dX12_way_58 ?_
                  refine z_iconst (v := (3 : Int32)) X dX12_way_61 (by decide) ?_
                  obtain ⟨g86, hF⟩ := gi_e hF
                  refine z_iald X 1 rfl g86 dX12_way_62 ?_
                  refine z_iload X dX12_way_63 3 rfl ?_
                  obtain ⟨r87, hc88, hF⟩ := zb1_e hF
                  refine z_Si (As := [.int (o80 0 (Int32.toNatClampNeg (3 : Int32))), .int k81]) (rest := []) (wc := ([] : va_W)) (wc' := ([] : va_W)) (ws' := (w_X12_four cA h_t a_t o80)) (rv := r87) X (va_cwS 2 X.2.2.2.2.1 gX12_way_X12_bitOf rfl rfl rfl (by decide +kernel) (by rw [hR]; exact ⟨Nat.le_of_ble_eq_true rfl, Nat.le_of_ble_eq_true rfl⟩)) (fun sz => c_X12_bitOf l D cA g sz (o80 0 (Int32.toNatClampNeg (3 : Int32))) k81 r87 hc88) [] [0, 1, 2, 3, 4, 5, 6, 7, 8, 9, 10, 11, 12, 13, 14, 15, 16, 17, 18, 19, 20, 21] rfl (by decide) rfl (by decide) rfl rfl rfl (Nat.le_of_ble_eq_true rfl) dX12_way_65 ⟨Nat.zero_le _, Nat.zero_le _⟩ ?_
                  have hF := if_e hF
                  refine z_if_eq (tgt := 85) X dX12_way_68 (by decide) (fun c94 => ?_) (fun c94 => ?_)
                  · have hF := hF.1 c94
                    obtain ⟨x89, ex89, hF⟩ := nx_e hF
                    refine z_iinc (v := x89) (lv' := [(4, .int x89), (0, .ref h_t), (1, .int v1), (3, .int x60)]) (j := 3) X dX12_way_85 rfl (by rw [ex89]; rfl) (by decide) rfl ?_
                    refine z_goto (tgt := 42) X dX12_way_88 (by decide) ?_
                    cases hF
                    refine z_lv (lv' := [(0, .ref h_t), (1, .int v1), (3, .int x60), (4, .int x89)]) [1, 2, 3, 0] rfl ?_
                    exact ih o80 x89 hL
                  · have hF := hF.2 c94
                    refine z_aload_n X dX12_way_71 rfl 0 rfl ?_
                    refine z_get (v := .ref (a_t 0)) X k_X12_way_7 0 rfl rfl dX12_way_72 ?_
                    refine z_bipush (v := (32 : Int32)) X dX12_way_75 (by decide) ?_
                    refine z_iload X dX12_way_77 3 rfl ?_
                    refine z_iadd X dX12_way_79 ?_
                    refine z_dup2 X dX12_way_80 rfl rfl ?_
                    obtain ⟨g90, hF⟩ := gi_e hF
                    refine z_iald X 1 rfl g90 dX12_way_81 ?_
                    refine z_iload_n X dX12_way_82 rfl 2 rfl ?_
                    refine z_isub X dX12_way_83 ?_
                    obtain ⟨g91, hF⟩ := gi_e hF
                    obtain ⟨o92, eo92, hF⟩ := nx_e hF
                    refine z_iast (ws' := (w_X12_four cA h_t a_t o92)) X 1 rfl g91 (by rw [eo92]; rfl) dX12_way_84 ?_
                    obtain ⟨x93, ex93, hF⟩ := nx_e hF
                    refine z_iinc (v := x93) (lv' := [(4, .int x93), (0, .ref h_t), (1, .int v1), (3, .int x60)]) (j := 3) X dX12_way_85 rfl (by rw [ex93]; rfl) (by decide) rfl ?_
                    refine z_goto (tgt := 42) X dX12_way_88 (by decide) ?_
                    cases hF
                    refine z_lv (lv' := [(0, .ref h_t), (1, .int v1), (3, .int x60), (4, .int x93)]) [1, 2, 3, 0] rfl ?_
                    exact ih o92 x93 hL
          refine z_lv (lv' := [(0, .ref h_t), (1, .int v1), (3, .int x60), (4, .int (0 : Int32))]) [1, 2, 3, 0] rfl ?_
          exact L83 FU q64 (0 : Int32) hL
        have hF := if_e hF
        refine z_if_ne (tgt := 39) X dX12_way_31 (by decide) (fun c100 => ?_) (fun c100 => ?_)
        · have hF := hF.2 c100
          refine z_lv (lv' := [(0, .ref h_t), (1, .int v1), (3, .int x60)]) [2, 3, 0] rfl ?_
          exact K65_l o50 hF
        · have hF := hF.1 c100
          refine z_aload_n X dX12_way_34 rfl 2 rfl ?_
          refine z_iload_n X dX12_way_35 rfl 1 rfl ?_
          obtain ⟨o98, hc99, hF⟩ := zb1_e hF
          refine z_Vv (As := [.int r57]) (rest := []) (wc := (w_X12_four cA h_t a_t o50)) (wc' := (w_X12_four cA h_t a_t o98)) (ws' := (w_X12_four cA h_t a_t o98)) X (cwV 1 X.2.2.2.2.1 gX12_way_X12_down rfl rfl rfl (by decide +kernel) (by rw [hR]; exact ⟨Nat.le_of_ble_eq_true rfl, Nat.le_of_ble_eq_true rfl⟩)) (fun sz => c_X12_down l D cA g sz h_t a_t o50 r57 o98 hc99) [0, 1, 2, 3, 4, 5, 6, 7, 8, 9, 10, 11, 12, 13, 14, 15, 16, 17, 18, 19, 20, 21] [1000, 1001, 1002, 1003, 1004, 1005, 1006, 1007, 1008, 1009, 1010, 1011, 1012, 1013, 1014, 1015, 1016, 1017, 1018, 1019, 1020, 1021] rfl (by decide) rfl (by decide) rfl rfl rfl rfl rfl rfl (Nat.le_of_ble_eq_true rfl) dX12_way_36 ⟨Nat.zero_le _, Nat.zero_le _⟩ ?_
          refine z_lv (lv' := [(0, .ref h_t), (1, .int v1), (3, .int x60)]) [2, 3, 0] rfl ?_
          exact K65_l o98 hF
  refine z_lv (lv' := [(0, .ref h_t), (1, .int v1)]) [0, 1] rfl ?_
  exact L52 FU o_t hL
set_option maxHeartbeats 8000000 in
set_option maxRecDepth 100000 in
theorem c_Jxf58ca_isNaN_12338 (l : Launch) (D : va_G) (cA : Nat → ClassId) (g : Nat → Nat) (sz : Nat)  (v0 : UInt32) (rv : Int32) (hF : f_Jxf58ca_isNaN_12338 v0 = some rv) : Met l yJxf58ca_isNaN_12338 wsJxf58ca_isNaN_12338 ({ frames := 0, cells := 0, slots := 0, locals := 0 }) (va_Pc [.float v0] (PreW D cA g sz ([] : va_W))) (va_Qi (fun (r : Int32) (_ : Unit) => r = rv) (PostW D cA sz ([] : va_W) ([] : va_W)) (va_A ([] : va_W) sz)) 0 0 (va_A ([] : va_W) sz) := by
  refine z_startF (cc := cJxf58ca_isNaN_12338) (maxL := 1) (ret := (some .boolean)) (lv0 := [(0, .float v0)]) (Qc := fun sz => va_Qi (fun (r : Int32) (_ : Unit) => r = rv) (PostW D cA sz ([] : va_W) ([] : va_W)) (va_A ([] : va_W) sz)) (free := fun sz => va_A ([] : va_W) sz) (by decide +kernel) rfl rfl (Nat.le_of_ble_eq_true rfl) ?_
  intro p e R s m args below meth c A Q hR hA hQ X hr hin
  unfold f_Jxf58ca_isNaN_12338 at hF
  refine z_fload_n X dJxf58ca_isNaN_12338_0 rfl 0 rfl ?_
  refine z_fload_n X dJxf58ca_isNaN_12338_1 rfl 0 rfl ?_
  refine z_fcmp X dJxf58ca_isNaN_12338_2 ?_
  have hF := if_e hF
  refine z_if_eq (tgt := 10) X dJxf58ca_isNaN_12338_3 (by decide) (fun c1 => ?_) (fun c1 => ?_)
  · have hF := hF.1 c1
    refine z_iconst (v := (0 : Int32)) X dJxf58ca_isNaN_12338_10 (by decide) ?_
    cases hF
    exact z_zret X hA hQ hr (Or.inl rfl)  rfl dJxf58ca_isNaN_12338_11 (Nat.le_refl _) (Nat.le_refl _)
  · have hF := hF.2 c1
    refine z_iconst (v := (1 : Int32)) X dJxf58ca_isNaN_12338_6 (by decide) ?_
    refine z_goto (tgt := 11) X dJxf58ca_isNaN_12338_7 (by decide) ?_
    cases hF
    exact z_zret X hA hQ hr (Or.inr rfl)  rfl dJxf58ca_isNaN_12338_11 (Nat.le_refl _) (Nat.le_refl _)
set_option maxRecDepth 20000 in
theorem k_Jxf58ca_floatToIntBits_5c35a_c77 : Cond.constant RJxf58ca 77 (2143289344) ∈ wsJxf58ca_floatToIntBits_5c35a := by decide +kernel
set_option maxRecDepth 20000 in
theorem k_Jxf58ca_floatToIntBits_5c35a_n74 : ZN wsJxf58ca_floatToIntBits_5c35a RJxf58ca 74 (⟨"java/lang/Float", "floatToRawIntBits", "(F)I"⟩ : MethodName) "java/lang/Float" := ⟨by decide +kernel, by decide +kernel, by decide +kernel, by decide +kernel⟩
set_option maxHeartbeats 8000000 in
set_option maxRecDepth 100000 in
theorem c_Jxf58ca_floatToIntBits_5c35a (l : Launch) (D : va_G) (cA : Nat → ClassId) (g : Nat → Nat) (sz : Nat)  (v0 : UInt32) (rv : Int32) (hF : f_Jxf58ca_floatToIntBits_5c35a v0 = some rv) : Met l yJxf58ca_floatToIntBits_5c35a wsJxf58ca_floatToIntBits_5c35a ({ frames := 1, cells := 0, slots := 0, locals := 23 }) (va_Pc [.float v0] (PreW D cA g sz ([] : va_W))) (va_Qi (fun (r : Int32) (_ : Unit) => r = rv) (PostW D cA sz ([] : va_W) ([] : va_W)) (va_A ([] : va_W) sz)) 0 0 (va_A ([] : va_W) sz) := by
  refine z_startF (cc := cJxf58ca_floatToIntBits_5c35a) (maxL := 1) (ret := (some .int)) (lv0 := [(0, .float v0)]) (Qc := fun sz => va_Qi (fun (r : Int32) (_ : Unit) => r = rv) (PostW D cA sz ([] : va_W) ([] : va_W)) (va_A ([] : va_W) sz)) (free := fun sz => va_A ([] : va_W) sz) (by decide +kernel) rfl rfl (Nat.le_of_ble_eq_true rfl) ?_
  intro p e R s m args below meth c A Q hR hA hQ X hr hin
  unfold f_Jxf58ca_floatToIntBits_5c35a at hF
  refine z_fload_n X dJxf58ca_floatToIntBits_5c35a_0 rfl 0 rfl ?_
  obtain ⟨r1, hc2, hF⟩ := zb1_e hF
  refine z_Si (As := [.float v0]) (rest := []) (wc := ([] : va_W)) (wc' := ([] : va_W)) (ws' := ([] : va_W)) (rv := r1) X (va_cwS 1 X.2.2.2.2.1 gJxf58ca_floatToIntBits_5c35a_Jxf58ca_isNaN_12338 rfl rfl rfl (by decide +kernel) (by rw [hR]; exact ⟨Nat.le_of_ble_eq_true rfl, Nat.le_of_ble_eq_true rfl⟩)) (fun sz => c_Jxf58ca_isNaN_12338 l D cA g sz v0 r1 hc2) [] [] rfl (by decide) rfl (by decide) rfl rfl rfl (Nat.le_of_ble_eq_true rfl) dJxf58ca_floatToIntBits_5c35a_1 ⟨Nat.zero_le _, Nat.zero_le _⟩ ?_
  have hF := if_e hF
  refine z_if_ne (tgt := 12) X dJxf58ca_floatToIntBits_5c35a_4 (by decide) (fun c3 => ?_) (fun c3 => ?_)
  · have hF := hF.2 c3
    refine z_ldc X k_Jxf58ca_floatToIntBits_5c35a_c77 dJxf58ca_floatToIntBits_5c35a_12 ?_
    cases hF
    exact z_iret X hA hQ hr rfl dJxf58ca_floatToIntBits_5c35a_14 (Nat.le_refl _) (Nat.le_refl _)
  · have hF := hF.1 c3
    refine z_fload_n X dJxf58ca_floatToIntBits_5c35a_7 rfl 0 rfl ?_
    refine z_f2ib X k_Jxf58ca_floatToIntBits_5c35a_n74 (by rw [hR]; exact Nat.le_of_ble_eq_true rfl) (by rw [hR]; exact Nat.le_of_ble_eq_true rfl) dJxf58ca_floatToIntBits_5c35a_8 ?_
    cases hF
    exact z_iret X hA hQ hr rfl dJxf58ca_floatToIntBits_5c35a_11 (Nat.le_refl _) (Nat.le_refl _)
set_option maxRecDepth 20000 in
theorem h_X12_heats_X12 : ∀ w ∈ wsX120, w ∈ wsX12_heats := by decide +kernel
set_option maxRecDepth 20000 in
theorem k_X12_heats_7 : ZF wsX12_heats RX12 7 12 0 RX12 TX12 47 := ⟨rfl, by decide, h_X12_heats_X12, by decide +kernel⟩
set_option maxRecDepth 20000 in
theorem k_X12_heats_c221 : Cond.constantFloat RX12 221 1063256064 ∈ wsX12_heats := by decide +kernel
set_option maxRecDepth 20000 in
theorem k_X12_heats_n215 : ZN wsX12_heats RX12 215 (⟨"java/lang/Float", "intBitsToFloat", "(I)F"⟩ : MethodName) "java/lang/Float" := ⟨by decide +kernel, by decide +kernel, by decide +kernel, by decide +kernel⟩
set_option maxHeartbeats 8000000 in
set_option maxRecDepth 100000 in
theorem c_X12_heats (l : Launch) (D : va_G) (cA : Nat → ClassId) (g : Nat → Nat) (sz : Nat) (h_t : Nat) (a_t : Nat → Nat) (o_t : Ob) (v1 : Int32) (o_t' : Ob) (hF : f_X12_heats o_t v1 = some o_t') : Met l yX12_heats wsX12_heats ({ frames := 2, cells := 0, slots := 0, locals := 43 }) (va_Pc [.ref h_t, .int v1] (PreW D cA g sz (w_X12_four cA h_t a_t o_t))) (va_Qv (fun (_ : Unit) => True) (PostW D cA sz (w_X12_four cA h_t a_t o_t) (w_X12_four cA h_t a_t o_t')) (va_A (w_X12_four cA h_t a_t o_t) sz)) 0 0 (va_A (w_X12_four cA h_t a_t o_t) sz) := by
  refine z_start (cc := cX12_heats) (maxL := 4) (ret := none) (lv0 := [(0, .ref h_t), (1, .int v1)]) (Qc := fun sz => va_Qv (fun (_ : Unit) => True) (PostW D cA sz (w_X12_four cA h_t a_t o_t) (w_X12_four cA h_t a_t o_t')) (va_A (w_X12_four cA h_t a_t o_t) sz)) (free := fun sz => va_A (w_X12_four cA h_t a_t o_t) sz) (by decide +kernel) rfl rfl (Nat.le_of_ble_eq_true rfl) ?_
  intro p e R s m args below meth c A Q hR hA hQ X hr hin
  unfold f_X12_heats at hF
  refine z_iconst (v := (0 : Int32)) X dX12_heats_0 (by decide) ?_
  refine z_istore_n (lv' := [(2, .int (0 : Int32)), (0, .ref h_t), (1, .int v1)]) X dX12_heats_1 rfl (by decide) rfl ?_
  obtain ⟨o24, hL, hF⟩ := zb1_e hF
  have L25_x : ∀ (o24' : Ob), o24' = o24 → ZW p l e R s m args below meth c D A 4 0 0 Q (w_X12_four cA h_t a_t o24') [] 56 [] := by
    intro o24' hz
    cases hz
    cases hF
    exact z_vret X hA hQ hr dX12_heats_56 (Nat.le_refl _) (Nat.le_refl _)
  obtain ⟨B46, hBB46, hL⟩ := zl2_b hL
  have L25 : ∀ (n : Nat) (o22 : Ob) (k23 : Int32), zl2 B46 n o22 k23 = some o24 → ZW p l e R s m args below meth c D A 4 0 0 Q (w_X12_four cA h_t a_t o22) [(0, .ref h_t), (1, .int v1), (2, .int k23)] 2 [] := by
    intro n
    induction n with
    | zero => intro o22 k23 hL; cases hL
    | succ n ih =>
      intro o22 k23 hL
      obtain ⟨zz26, hF, hL⟩ := zl2_e hL
      rw [hBB46] at hF
      refine z_iload_n X dX12_heats_2 rfl 2 rfl ?_
      refine z_aload_n X dX12_heats_3 rfl 0 rfl ?_
      refine z_get (v := .ref (a_t 0)) X k_X12_heats_7 0 rfl rfl dX12_heats_4 ?_
      refine z_iconst (v := (2 : Int32)) X dX12_heats_7 (by decide) ?_
      obtain ⟨g27, hF⟩ := gi_e hF
      refine z_iald X 1 rfl g27 dX12_heats_8 ?_
      have hF := if_e hF
      refine z_icmp_ge (tgt := 56) X dX12_heats_9 (by decide) (fun c45 => ?_) (fun c45 => ?_)
      · have hF := hF.1 c45
        cases hF
        have hL := Option.some.inj hL
        refine z_lv (lv' := []) [] rfl ?_
        exact L25_x o22 hL
      · have hF := hF.2 c45
        refine z_aload_n X dX12_heats_12 rfl 0 rfl ?_
        refine z_get (v := .ref (a_t 0)) X k_X12_heats_7 0 rfl rfl dX12_heats_13 ?_
        refine z_bipush (v := (48 : Int32)) X dX12_heats_16 (by decide) ?_
        refine z_iload_n X dX12_heats_18 rfl 2 rfl ?_
        refine z_iadd X dX12_heats_19 ?_
        obtain ⟨g28, hF⟩ := gi_e hF
        refine z_iald X 1 rfl g28 dX12_heats_20 ?_
        obtain ⟨g29, hF⟩ := gb_e hF
        refine z_i2fb X k_X12_heats_n215 g29 (by rw [hR]; exact Nat.le_of_ble_eq_true rfl) (by rw [hR]; exact Nat.le_of_ble_eq_true rfl) dX12_heats_21 ?_
        refine z_ldcf X k_X12_heats_c221 dX12_heats_24 ?_
        obtain ⟨g30, hF⟩ := gq_e hF
        refine z_fmul X g30 dX12_heats_26 ?_
        obtain ⟨x31, ex31, hF⟩ := nx_e hF
        refine z_nmf ex31 ?_
        refine z_fstore_n (lv' := [(3, .float x31), (0, .ref h_t), (1, .int v1), (2, .int k23)]) X dX12_heats_27 rfl (by decide) rfl ?_
        refine z_iload_n X dX12_heats_28 rfl 3 rfl ?_
        refine z_iload_n X dX12_heats_29 rfl 2 rfl ?_
        obtain ⟨K36, eK36, hF⟩ := nx_e hF
        have K36_l : ∀ (j35 : UInt32), K36 j35 = some zz26 → ZW p l e R s m args below meth c D A 4 0 0 Q (w_X12_four cA h_t a_t o22) [(0, .ref h_t), (1, .int v1), (2, .int k23), (3, .float j35)] 37 [] := by
          intro j35 hF
          rw [eK36] at hF
          refine z_aload_n X dX12_heats_37 rfl 0 rfl ?_
          refine z_get (v := .ref (a_t 0)) X k_X12_heats_7 0 rfl rfl dX12_heats_38 ?_
          refine z_bipush (v := (48 : Int32)) X dX12_heats_41 (by decide) ?_
          refine z_iload_n X dX12_heats_43 rfl 2 rfl ?_
          refine z_iadd X dX12_heats_44 ?_
          refine z_fload_n X dX12_heats_45 rfl 3 rfl ?_
          obtain ⟨r37, hc38, hF⟩ := zb1_e hF
          refine z_Si (As := [.float j35]) (rest := [.int ((48 : Int32) + k23), .ref (a_t 0)]) (wc := ([] : va_W)) (wc' := ([] : va_W)) (ws' := (w_X12_four cA h_t a_t o22)) (rv := r37) X (va_cwS 1 X.2.2.2.2.1 gX12_heats_Jxf58ca_floatToIntBits_5c35a rfl rfl rfl (by decide +kernel) (by rw [hR]; exact ⟨Nat.le_of_ble_eq_true rfl, Nat.le_of_ble_eq_true rfl⟩)) (fun sz => c_Jxf58ca_floatToIntBits_5c35a l D cA g sz j35 r37 hc38) [] [0, 1, 2, 3, 4, 5, 6, 7, 8, 9, 10, 11, 12, 13, 14, 15, 16, 17, 18, 19, 20, 21] rfl (by decide) rfl (by decide) rfl rfl rfl (Nat.le_of_ble_eq_true rfl) dX12_heats_46 ⟨Nat.zero_le _, Nat.zero_le _⟩ ?_
          obtain ⟨g39, hF⟩ := gi_e hF
          obtain ⟨o40, eo40, hF⟩ := nx_e hF
          refine z_iast (ws' := (w_X12_four cA h_t a_t o40)) X 1 rfl g39 (by rw [eo40]; rfl) dX12_heats_49 ?_
          obtain ⟨x41, ex41, hF⟩ := nx_e hF
          refine z_iinc (v := x41) (lv' := [(2, .int x41), (0, .ref h_t), (1, .int v1), (3, .float j35)]) (j := 2) X dX12_heats_50 rfl (by rw [ex41]; rfl) (by decide) rfl ?_
          refine z_goto (tgt := 2) X dX12_heats_53 (by decide) ?_
          cases hF
          refine z_lv (lv' := [(0, .ref h_t), (1, .int v1), (2, .int x41)]) [1, 2, 0] rfl ?_
          exact ih o40 x41 hL
        have hF := if_e hF
        refine z_icmp_ne (tgt := 37) X dX12_heats_30 (by decide) (fun c44 => ?_) (fun c44 => ?_)
        · have hF := hF.2 c44
          refine z_lv (lv' := [(0, .ref h_t), (1, .int v1), (2, .int k23), (3, .float x31)]) [1, 2, 3, 0] rfl ?_
          exact K36_l x31 hF
        · have hF := hF.1 c44
          refine z_fload_n X dX12_heats_33 rfl 0 rfl ?_
          refine z_fconst1 X dX12_heats_34 ?_
          obtain ⟨g42, hF⟩ := gq_e hF
          refine z_fadd X g42 dX12_heats_35 ?_
          obtain ⟨x43, ex43, hF⟩ := nx_e hF
          refine z_nmf ex43 ?_
          refine z_fstore_n (lv' := [(3, .float x43), (0, .ref h_t), (1, .int v1), (2, .int k23)]) X dX12_heats_36 rfl (by decide) rfl ?_
          refine z_lv (lv' := [(0, .ref h_t), (1, .int v1), (2, .int k23), (3, .float x43)]) [1, 2, 3, 0] rfl ?_
          exact K36_l x43 hF
  refine z_lv (lv' := [(0, .ref h_t), (1, .int v1), (2, .int (0 : Int32))]) [1, 2, 0] rfl ?_
  exact L25 FU o_t (0 : Int32) hL
set_option maxRecDepth 20000 in
theorem h_X12_isUp_X12 : ∀ w ∈ wsX120, w ∈ wsX12_isUp := by decide +kernel
set_option maxRecDepth 20000 in
theorem k_X12_isUp_7 : ZF wsX12_isUp RX12 7 12 0 RX12 TX12 47 := ⟨rfl, by decide, h_X12_isUp_X12, by decide +kernel⟩
set_option maxRecDepth 20000 in
theorem k_X12_isUp_n215 : ZN wsX12_isUp RX12 215 (⟨"java/lang/Float", "intBitsToFloat", "(I)F"⟩ : MethodName) "java/lang/Float" := ⟨by decide +kernel, by decide +kernel, by decide +kernel, by decide +kernel⟩
set_option maxHeartbeats 8000000 in
set_option maxRecDepth 100000 in
theorem c_X12_isUp (l : Launch) (D : va_G) (cA : Nat → ClassId) (g : Nat → Nat) (sz : Nat) (h_t : Nat) (a_t : Nat → Nat) (o_t : Ob) (v1 : Int32) (rv : Int32) (hF : f_X12_isUp o_t v1 = some rv) : Met l yX12_isUp wsX12_isUp ({ frames := 1, cells := 0, slots := 0, locals := 23 }) (va_Pc [.ref h_t, .int v1] (PreW D cA g sz (w_X12_four cA h_t a_t o_t))) (va_Qi (fun (r : Int32) (_ : Unit) => r = rv) (PostW D cA sz (w_X12_four cA h_t a_t o_t) (w_X12_four cA h_t a_t o_t)) (va_A (w_X12_four cA h_t a_t o_t) sz)) 0 0 (va_A (w_X12_four cA h_t a_t o_t) sz) := by
  refine z_start (cc := cX12_isUp) (maxL := 2) (ret := (some .boolean)) (lv0 := [(0, .ref h_t), (1, .int v1)]) (Qc := fun sz => va_Qi (fun (r : Int32) (_ : Unit) => r = rv) (PostW D cA sz (w_X12_four cA h_t a_t o_t) (w_X12_four cA h_t a_t o_t)) (va_A (w_X12_four cA h_t a_t o_t) sz)) (free := fun sz => va_A (w_X12_four cA h_t a_t o_t) sz) (by decide +kernel) rfl rfl (Nat.le_of_ble_eq_true rfl) ?_
  intro p e R s m args below meth c A Q hR hA hQ X hr hin
  unfold f_X12_isUp at hF
  refine z_aload_n X dX12_isUp_0 rfl 0 rfl ?_
  refine z_get (v := .ref (a_t 0)) X k_X12_isUp_7 0 rfl rfl dX12_isUp_1 ?_
  refine z_iconst (v := (1 : Int32)) X dX12_isUp_4 (by decide) ?_
  obtain ⟨g1, hF⟩ := gi_e hF
  refine z_iald X 1 rfl g1 dX12_isUp_5 ?_
  have hF := if_e hF
  refine z_if_ne (tgt := 11) X dX12_isUp_6 (by decide) (fun c13 => ?_) (fun c13 => ?_)
  · have hF := hF.2 c13
    refine z_aload_n X dX12_isUp_11 rfl 0 rfl ?_
    refine z_get (v := .ref (a_t 0)) X k_X12_isUp_7 0 rfl rfl dX12_isUp_12 ?_
    refine z_iconst (v := (1 : Int32)) X dX12_isUp_15 (by decide) ?_
    obtain ⟨g2, hF⟩ := gi_e hF
    refine z_iald X 1 rfl g2 dX12_isUp_16 ?_
    refine z_iconst (v := (1 : Int32)) X dX12_isUp_17 (by decide) ?_
    have hF := if_e hF
    refine z_icmp_ne (tgt := 48) X dX12_isUp_18 (by decide) (fun c12 => ?_) (fun c12 => ?_)
    · have hF := hF.2 c12
      refine z_aload_n X dX12_isUp_48 rfl 0 rfl ?_
      refine z_get (v := .ref (a_t 0)) X k_X12_isUp_7 0 rfl rfl dX12_isUp_49 ?_
      refine z_bipush (v := (48 : Int32)) X dX12_isUp_52 (by decide) ?_
      refine z_iload_n X dX12_isUp_54 rfl 1 rfl ?_
      refine z_iadd X dX12_isUp_55 ?_
      obtain ⟨g3, hF⟩ := gi_e hF
      refine z_iald X 1 rfl g3 dX12_isUp_56 ?_
      obtain ⟨g4, hF⟩ := gb_e hF
      refine z_i2fb X k_X12_isUp_n215 g4 (by rw [hR]; exact Nat.le_of_ble_eq_true rfl) (by rw [hR]; exact Nat.le_of_ble_eq_true rfl) dX12_isUp_57 ?_
      refine z_aload_n X dX12_isUp_60 rfl 0 rfl ?_
      refine z_get (v := .ref (a_t 0)) X k_X12_isUp_7 0 rfl rfl dX12_isUp_61 ?_
      refine z_bipush (v := (24 : Int32)) X dX12_isUp_64 (by decide) ?_
      refine z_iload_n X dX12_isUp_66 rfl 1 rfl ?_
      refine z_iadd X dX12_isUp_67 ?_
      obtain ⟨g5, hF⟩ := gi_e hF
      refine z_iald X 1 rfl g5 dX12_isUp_68 ?_
      refine z_i2f X dX12_isUp_69 ?_
      obtain ⟨g6, hF⟩ := gq_e hF
      refine z_fmul X g6 dX12_isUp_70 ?_
      refine z_aload_n X dX12_isUp_71 rfl 0 rfl ?_
      refine z_get (v := .ref (a_t 0)) X k_X12_isUp_7 0 rfl rfl dX12_isUp_72 ?_
      refine z_bipush (v := (16 : Int32)) X dX12_isUp_75 (by decide) ?_
      refine z_iload_n X dX12_isUp_77 rfl 1 rfl ?_
      refine z_iadd X dX12_isUp_78 ?_
      obtain ⟨g7, hF⟩ := gi_e hF
      refine z_iald X 1 rfl g7 dX12_isUp_79 ?_
      refine z_i2f X dX12_isUp_80 ?_
      refine z_fcmp X dX12_isUp_81 ?_
      have hF := if_e hF
      refine z_if_lt (tgt := 89) X dX12_isUp_82 (by decide) (fun c8 => ?_) (fun c8 => ?_)
      · have hF := hF.1 c8
        refine z_iconst (v := (0 : Int32)) X dX12_isUp_89 (by decide) ?_
        cases hF
        exact z_zret X hA hQ hr (Or.inl rfl)  rfl dX12_isUp_90 (Nat.le_refl _) (Nat.le_refl _)
      · have hF := hF.2 c8
        refine z_iconst (v := (1 : Int32)) X dX12_isUp_85 (by decide) ?_
        refine z_goto (tgt := 90) X dX12_isUp_86 (by decide) ?_
        cases hF
        exact z_zret X hA hQ hr (Or.inr rfl)  rfl dX12_isUp_90 (Nat.le_refl _) (Nat.le_refl _)
    · have hF := hF.1 c12
      refine z_aload_n X dX12_isUp_21 rfl 0 rfl ?_
      refine z_get (v := .ref (a_t 0)) X k_X12_isUp_7 0 rfl rfl dX12_isUp_22 ?_
      refine z_bipush (v := (40 : Int32)) X dX12_isUp_25 (by decide) ?_
      refine z_iload_n X dX12_isUp_27 rfl 1 rfl ?_
      refine z_iadd X dX12_isUp_28 ?_
      obtain ⟨g9, hF⟩ := gi_e hF
      refine z_iald X 1 rfl g9 dX12_isUp_29 ?_
      refine z_aload_n X dX12_isUp_30 rfl 0 rfl ?_
      refine z_get (v := .ref (a_t 0)) X k_X12_isUp_7 0 rfl rfl dX12_isUp_31 ?_
      refine z_bipush (v := (16 : Int32)) X dX12_isUp_34 (by decide) ?_
      refine z_iload_n X dX12_isUp_36 rfl 1 rfl ?_
      refine z_iadd X dX12_isUp_37 ?_
      obtain ⟨g10, hF⟩ := gi_e hF
      refine z_iald X 1 rfl g10 dX12_isUp_38 ?_
      have hF := if_e hF
      refine z_icmp_lt (tgt := 46) X dX12_isUp_39 (by decide) (fun c11 => ?_) (fun c11 => ?_)
      · have hF := hF.1 c11
        refine z_iconst (v := (0 : Int32)) X dX12_isUp_46 (by decide) ?_
        cases hF
        exact z_zret X hA hQ hr (Or.inl rfl)  rfl dX12_isUp_47 (Nat.le_refl _) (Nat.le_refl _)
      · have hF := hF.2 c11
        refine z_iconst (v := (1 : Int32)) X dX12_isUp_42 (by decide) ?_
        refine z_goto (tgt := 47) X dX12_isUp_43 (by decide) ?_
        cases hF
        exact z_zret X hA hQ hr (Or.inr rfl)  rfl dX12_isUp_47 (Nat.le_refl _) (Nat.le_refl _)
  · have hF := hF.1 c13
    refine z_iconst (v := (1 : Int32)) X dX12_isUp_9 (by decide) ?_
    cases hF
    exact z_zret X hA hQ hr (Or.inr rfl)  rfl dX12_isUp_10 (Nat.le_refl _) (Nat.le_refl _)
set_option maxRecDepth 20000 in
theorem h_X12_asks_X12 : ∀ w ∈ wsX120, w ∈ wsX12_asks := by decide +kernel
set_option maxRecDepth 20000 in
theorem k_X12_asks_7 : ZF wsX12_asks RX12 7 12 0 RX12 TX12 47 := ⟨rfl, by decide, h_X12_asks_X12, by decide +kernel⟩
set_option maxHeartbeats 8000000 in
set_option maxRecDepth 100000 in
theorem c_X12_asks (l : Launch) (D : va_G) (cA : Nat → ClassId) (g : Nat → Nat) (sz : Nat) (h_t : Nat) (a_t : Nat → Nat) (o_t : Ob) (v1 : Int32) (o_t' : Ob) (rv : Int32) (hF : f_X12_asks o_t v1 = some (o_t', rv)) : Met l yX12_asks wsX12_asks ({ frames := 4, cells := 0, slots := 0, locals := 92 }) (va_Pc [.ref h_t, .int v1] (PreW D cA g sz (w_X12_four cA h_t a_t o_t))) (va_Qi (fun (r : Int32) (_ : Unit) => r = rv) (PostW D cA sz (w_X12_four cA h_t a_t o_t) (w_X12_four cA h_t a_t o_t')) (va_A (w_X12_four cA h_t a_t o_t) sz)) 0 0 (va_A (w_X12_four cA h_t a_t o_t) sz) := by
  refine z_start (cc := cX12_asks) (maxL := 4) (ret := (some .int)) (lv0 := [(0, .ref h_t), (1, .int v1)]) (Qc := fun sz => va_Qi (fun (r : Int32) (_ : Unit) => r = rv) (PostW D cA sz (w_X12_four cA h_t a_t o_t) (w_X12_four cA h_t a_t o_t')) (va_A (w_X12_four cA h_t a_t o_t) sz)) (free := fun sz => va_A (w_X12_four cA h_t a_t o_t) sz) (by decide +kernel) rfl rfl (Nat.le_of_ble_eq_true rfl) ?_
  intro p e R s m args below meth c A Q hR hA hQ X hr hin
  unfold f_X12_asks at hF
  refine z_aload_n X dX12_asks_0 rfl 0 rfl ?_
  refine z_iload_n X dX12_asks_1 rfl 1 rfl ?_
  obtain ⟨o1, hc2, hF⟩ := zb1_e hF
  refine z_Vv (As := [.int v1]) (rest := []) (wc := (w_X12_four cA h_t a_t o_t)) (wc' := (w_X12_four cA h_t a_t o1)) (ws' := (w_X12_four cA h_t a_t o1)) X (cwV 1 X.2.2.2.2.1 gX12_asks_X12_heats rfl rfl rfl (by decide +kernel) (by rw [hR]; exact ⟨Nat.le_of_ble_eq_true rfl, Nat.le_of_ble_eq_true rfl⟩)) (fun sz => c_X12_heats l D cA g sz h_t a_t o_t v1 o1 hc2) [0, 1, 2, 3, 4, 5, 6, 7, 8, 9, 10, 11, 12, 13, 14, 15, 16, 17, 18, 19, 20, 21] [1000, 1001, 1002, 1003, 1004, 1005, 1006, 1007, 1008, 1009, 1010, 1011, 1012, 1013, 1014, 1015, 1016, 1017, 1018, 1019, 1020, 1021] rfl (by decide) rfl (by decide) rfl rfl rfl rfl rfl rfl (Nat.le_of_ble_eq_true rfl) dX12_asks_2 ⟨Nat.zero_le _, Nat.zero_le _⟩ ?_
  refine z_aload_n X dX12_asks_5 rfl 0 rfl ?_
  refine z_get (v := .ref (a_t 0)) X k_X12_asks_7 0 rfl rfl dX12_asks_6 ?_
  refine z_iconst (v := (3 : Int32)) X dX12_asks_9 (by decide) ?_
  obtain ⟨g3, hF⟩ := gi_e hF
  refine z_iald X 1 rfl g3 dX12_asks_10 ?_
  refine z_iload_n X dX12_asks_11 rfl 1 rfl ?_
  obtain ⟨r4, hc5, hF⟩ := zb1_e hF
  refine z_Si (As := [.int (o1 0 (Int32.toNatClampNeg (3 : Int32))), .int v1]) (rest := []) (wc := ([] : va_W)) (wc' := ([] : va_W)) (ws' := (w_X12_four cA h_t a_t o1)) (rv := r4) X (va_cwS 2 X.2.2.2.2.1 gX12_asks_X12_bitOf rfl rfl rfl (by decide +kernel) (by rw [hR]; exact ⟨Nat.le_of_ble_eq_true rfl, Nat.le_of_ble_eq_true rfl⟩)) (fun sz => c_X12_bitOf l D cA g sz (o1 0 (Int32.toNatClampNeg (3 : Int32))) v1 r4 hc5) [] [0, 1, 2, 3, 4, 5, 6, 7, 8, 9, 10, 11, 12, 13, 14, 15, 16, 17, 18, 19, 20, 21] rfl (by decide) rfl (by decide) rfl rfl rfl (Nat.le_of_ble_eq_true rfl) dX12_asks_12 ⟨Nat.zero_le _, Nat.zero_le _⟩ ?_
  have hF := if_e hF
  refine z_if_eq (tgt := 58) X dX12_asks_15 (by decide) (fun c82 => ?_) (fun c82 => ?_)
  · have hF := hF.1 c82
    refine z_aload_n X dX12_asks_58 rfl 0 rfl ?_
    refine z_get (v := .ref (a_t 0)) X k_X12_asks_7 0 rfl rfl dX12_asks_59 ?_
    refine z_bipush (v := (8 : Int32)) X dX12_asks_62 (by decide) ?_
    refine z_iload_n X dX12_asks_64 rfl 1 rfl ?_
    refine z_iadd X dX12_asks_65 ?_
    obtain ⟨g6, hF⟩ := gi_e hF
    refine z_iald X 1 rfl g6 dX12_asks_66 ?_
    refine z_aload_n X dX12_asks_67 rfl 0 rfl ?_
    refine z_get (v := .ref (a_t 0)) X k_X12_asks_7 0 rfl rfl dX12_asks_68 ?_
    refine z_iconst (v := (0 : Int32)) X dX12_asks_71 (by decide) ?_
    obtain ⟨g7, hF⟩ := gi_e hF
    refine z_iald X 1 rfl g7 dX12_asks_72 ?_
    obtain ⟨K10, eK10, hF⟩ := nx_e hF
    have K10_l : ∀ (j9 : Int32), K10 j9 = some (o_t', rv) → ZW p l e R s m args below meth c D A 4 0 0 Q (w_X12_four cA h_t a_t o1) [(0, .ref h_t), (1, .int v1)] 81 [.int j9] := by
      intro j9 hF
      rw [eK10] at hF
      refine z_istore_n (lv' := [(2, .int j9), (0, .ref h_t), (1, .int v1)]) X dX12_asks_81 rfl (by decide) rfl ?_
      refine z_aload_n X dX12_asks_82 rfl 1 rfl ?_
      refine z_get (v := .ref (a_t 0)) X k_X12_asks_7 0 rfl rfl dX12_asks_83 ?_
      refine z_iconst (v := (4 : Int32)) X dX12_asks_86 (by decide) ?_
      obtain ⟨g11, hF⟩ := gi_e hF
      refine z_iald X 1 rfl g11 dX12_asks_87 ?_
      obtain ⟨x12, ex12, hF⟩ := nx_e hF
      refine z_nm ex12 ?_
      refine z_istore_n (lv' := [(3, .int x12), (2, .int j9), (0, .ref h_t), (1, .int v1)]) X dX12_asks_88 rfl (by decide) rfl ?_
      refine z_iload_n X dX12_asks_89 rfl 1 rfl ?_
      obtain ⟨K35, eK35, hF⟩ := nx_e hF
      have K35_l : ∀ (q34 : Ob), K35 q34 = some (o_t', rv) → ZW p l e R s m args below meth c D A 4 0 0 Q (w_X12_four cA h_t a_t q34) [(0, .ref h_t), (1, .int v1), (2, .int j9), (3, .int x12)] 170 [] := by
        intro q34 hF
        rw [eK35] at hF
        refine z_iload_n X dX12_asks_170 rfl 2 rfl ?_
        obtain ⟨K46, eK46, hF⟩ := nx_e hF
        have K46_l : ∀ (q45 : Ob), K46 q45 = some (o_t', rv) → ZW p l e R s m args below meth c D A 4 0 0 Q (w_X12_four cA h_t a_t q45) [(0, .ref h_t), (3, .int x12)] 200 [] := by
          intro q45 hF
          rw [eK46] at hF
          refine z_aload_n X dX12_asks_200 rfl 0 rfl ?_
          refine z_get (v := .ref (a_t 0)) X k_X12_asks_7 0 rfl rfl dX12_asks_201 ?_
          refine z_iconst (v := (4 : Int32)) X dX12_asks_204 (by decide) ?_
          obtain ⟨g47, hF⟩ := gi_e hF
          refine z_iald X 1 rfl g47 dX12_asks_205 ?_
          refine z_iload_n X dX12_asks_206 rfl 1 rfl ?_
          refine z_isub X dX12_asks_207 ?_
          cases hF
          exact z_iret X hA hQ hr rfl dX12_asks_208 (Nat.le_refl _) (Nat.le_refl _)
        have hF := if_e hF
        refine z_if_ne (tgt := 200) X dX12_asks_171 (by decide) (fun c56 => ?_) (fun c56 => ?_)
        · have hF := hF.2 c56
          refine z_lv (lv' := [(0, .ref h_t), (3, .int x12)]) [0, 3] rfl ?_
          exact K46_l q34 hF
        · have hF := hF.1 c56
          refine z_aload_n X dX12_asks_174 rfl 0 rfl ?_
          refine z_iload_n X dX12_asks_175 rfl 1 rfl ?_
          obtain ⟨r48, hc49, hF⟩ := zb1_e hF
          refine z_Vi (As := [.int v1]) (rest := []) (wc := (w_X12_four cA h_t a_t q34)) (wc' := (w_X12_four cA h_t a_t q34)) (ws' := (w_X12_four cA h_t a_t q34)) (rv := r48) X (cwV 1 X.2.2.2.2.1 gX12_asks_X12_isUp rfl rfl rfl (by decide +kernel) (by rw [hR]; exact ⟨Nat.le_of_ble_eq_true rfl, Nat.le_of_ble_eq_true rfl⟩)) (fun sz => c_X12_isUp l D cA g sz h_t a_t q34 v1 r48 hc49) [0, 1, 2, 3, 4, 5, 6, 7, 8, 9, 10, 11, 12, 13, 14, 15, 16, 17, 18, 19, 20, 21] [1000, 1001, 1002, 1003, 1004, 1005, 1006, 1007, 1008, 1009, 1010, 1011, 1012, 1013, 1014, 1015, 1016, 1017, 1018, 1019, 1020, 1021] rfl (by decide) rfl (by decide) rfl rfl rfl rfl rfl rfl (Nat.le_of_ble_eq_true rfl) dX12_asks_176 ⟨Nat.zero_le _, Nat.zero_le _⟩ ?_
          have hF := if_e hF
          refine z_if_eq (tgt := 200) X dX12_asks_179 (by decide) (fun c55 => ?_) (fun c55 => ?_)
          · have hF := hF.1 c55
            refine z_lv (lv' := [(0, .ref h_t), (3, .int x12)]) [0, 3] rfl ?_
            exact K46_l q34 hF
          · have hF := hF.2 c55
            refine z_aload_n X dX12_asks_182 rfl 0 rfl ?_
            refine z_aload_n X dX12_asks_183 rfl 0 rfl ?_
            refine z_get (v := .ref (a_t 0)) X k_X12_asks_7 0 rfl rfl dX12_asks_184 ?_
            refine z_bipush (v := (8 : Int32)) X dX12_asks_187 (by decide) ?_
            refine z_iload_n X dX12_asks_189 rfl 1 rfl ?_
            refine z_iadd X dX12_asks_190 ?_
            obtain ⟨g50, hF⟩ := gi_e hF
            refine z_iald X 1 rfl g50 dX12_asks_191 ?_
            obtain ⟨o51, hc52, hF⟩ := zb1_e hF
            refine z_Vv (As := [.int (q34 0 (Int32.toNatClampNeg ((8 : Int32) + v1)))]) (rest := []) (wc := (w_X12_four cA h_t a_t q34)) (wc' := (w_X12_four cA h_t a_t o51)) (ws' := (w_X12_four cA h_t a_t o51)) X (cwV 1 X.2.2.2.2.1 gX12_asks_X12_way rfl rfl rfl (by decide +kernel) (by rw [hR]; exact ⟨Nat.le_of_ble_eq_true rfl, Nat.le_of_ble_eq_true rfl⟩)) (fun sz => c_X12_way l D cA g sz h_t a_t q34 (q34 0 (Int32.toNatClampNeg ((8 : Int32) + v1))) o51 hc52) [0, 1, 2, 3, 4, 5, 6, 7, 8, 9, 10, 11, 12, 13, 14, 15, 16, 17, 18, 19, 20, 21] [1000, 1001, 1002, 1003, 1004, 1005, 1006, 1007, 1008, 1009, 1010, 1011, 1012, 1013, 1014, 1015, 1016, 1017, 1018, 1019, 1020, 1021] rfl (by decide) rfl (by decide) rfl rfl rfl rfl rfl rfl (Nat.le_of_ble_eq_true rfl) dX12_asks_192 ⟨Nat.zero_le _, Nat.zero_le _⟩ ?_
            refine z_aload_n X dX12_asks_195 rfl 0 rfl ?_
            refine z_iload_n X dX12_asks_196 rfl 1 rfl ?_
            obtain ⟨o53, hc54, hF⟩ := zb1_e hF
            refine z_Vv (As := [.int v1]) (rest := []) (wc := (w_X12_four cA h_t a_t o51)) (wc' := (w_X12_four cA h_t a_t o53)) (ws' := (w_X12_four cA h_t a_t o53)) X (cwV 1 X.2.2.2.2.1 gX12_asks_X12_up rfl rfl rfl (by decide +kernel) (by rw [hR]; exact ⟨Nat.le_of_ble_eq_true rfl, Nat.le_of_ble_eq_true rfl⟩)) (fun sz => c_X12_up l D cA g sz h_t a_t o51 v1 o53 hc54) [0, 1, 2, 3, 4, 5, 6, 7, 8, 9, 10, 11, 12, 13, 14, 15, 16, 17, 18, 19, 20, 21] [1000, 1001, 1002, 1003, 1004, 1005, 1006, 1007, 1008, 1009, 1010, 1011, 1012, 1013, 1014, 1015, 1016, 1017, 1018, 1019, 1020, 1021] rfl (by decide) rfl (by decide) rfl rfl rfl rfl rfl rfl (Nat.le_of_ble_eq_true rfl) dX12_asks_197 ⟨Nat.zero_le _, Nat.zero_le _⟩ ?_
            refine z_lv (lv' := [(0, .ref h_t), (3, .int x12)]) [0, 3] rfl ?_
            exact K46_l o53 hF
      obtain ⟨K16, eK16, hF⟩ := nx_e hF
      have K16_l : ∀ (_ : Unit), K16 () = some (o_t', rv) → ZW p l e R s m args below meth c D A 4 0 0 Q (w_X12_four cA h_t a_t o1) [(0, .ref h_t), (1, .int v1), (2, .int j9), (3, .int x12)] 102 [] := by
        intro _ hF
        rw [eK16] at hF
        refine z_aload_n X dX12_asks_102 rfl 0 rfl ?_
        refine z_get (v := .ref (a_t 0)) X k_X12_asks_7 0 rfl rfl dX12_asks_103 ?_
        refine z_iconst (v := (4 : Int32)) X dX12_asks_106 (by decide) ?_
        refine z_dup2 X dX12_asks_107 rfl rfl ?_
        obtain ⟨g57, hF⟩ := gi_e hF
        refine z_iald X 1 rfl g57 dX12_asks_108 ?_
        refine z_aload_n X dX12_asks_109 rfl 0 rfl ?_
        refine z_get (v := .ref (a_t 0)) X k_X12_asks_7 0 rfl rfl dX12_asks_110 ?_
        refine z_bipush (v := (24 : Int32)) X dX12_asks_113 (by decide) ?_
        refine z_iload_n X dX12_asks_115 rfl 1 rfl ?_
        refine z_iadd X dX12_asks_116 ?_
        obtain ⟨g58, hF⟩ := gi_e hF
        refine z_iald X 1 rfl g58 dX12_asks_117 ?_
        refine z_iadd X dX12_asks_118 ?_
        obtain ⟨g59, hF⟩ := gi_e hF
        obtain ⟨o60, eo60, hF⟩ := nx_e hF
        refine z_iast (ws' := (w_X12_four cA h_t a_t o60)) X 1 rfl g59 (by rw [eo60]; rfl) dX12_asks_119 ?_
        refine z_aload_n X dX12_asks_120 rfl 0 rfl ?_
        refine z_iconst (v := (1 : Int32)) X dX12_asks_121 (by decide) ?_
        refine z_iload_n X dX12_asks_122 rfl 1 rfl ?_
        refine z_aload_n X dX12_asks_123 rfl 0 rfl ?_
        refine z_get (v := .ref (a_t 0)) X k_X12_asks_7 0 rfl rfl dX12_asks_124 ?_
        refine z_bipush (v := (24 : Int32)) X dX12_asks_127 (by decide) ?_
        refine z_iload_n X dX12_asks_129 rfl 1 rfl ?_
        refine z_iadd X dX12_asks_130 ?_
        obtain ⟨g61, hF⟩ := gi_e hF
        refine z_iald X 1 rfl g61 dX12_asks_131 ?_
        obtain ⟨o62, hc63, hF⟩ := zb1_e hF
        refine z_Vv (As := [.int (1 : Int32), .int v1, .int (o60 0 (Int32.toNatClampNeg ((24 : Int32) + v1)))]) (rest := []) (wc := (w_X12_four cA h_t a_t o60)) (wc' := (w_X12_four cA h_t a_t o62)) (ws' := (w_X12_four cA h_t a_t o62)) X (cwV 3 X.2.2.2.2.1 gX12_asks_X12_entry rfl rfl rfl (by decide +kernel) (by rw [hR]; exact ⟨Nat.le_of_ble_eq_true rfl, Nat.le_of_ble_eq_true rfl⟩)) (fun sz => c_X12_entry l D cA g sz h_t a_t o60 (1 : Int32) v1 (o60 0 (Int32.toNatClampNeg ((24 : Int32) + v1))) o62 hc63) [0, 1, 2, 3, 4, 5, 6, 7, 8, 9, 10, 11, 12, 13, 14, 15, 16, 17, 18, 19, 20, 21] [1000, 1001, 1002, 1003, 1004, 1005, 1006, 1007, 1008, 1009, 1010, 1011, 1012, 1013, 1014, 1015, 1016, 1017, 1018, 1019, 1020, 1021] rfl (by decide) rfl (by decide) rfl rfl rfl rfl rfl rfl (Nat.le_of_ble_eq_true rfl) dX12_asks_132 ⟨Nat.zero_le _, Nat.zero_le _⟩ ?_
        refine z_iload_n X dX12_asks_135 rfl 2 rfl ?_
        have hF := if_e hF
        refine z_if_ne (tgt := 170) X dX12_asks_136 (by decide) (fun c70 => ?_) (fun c70 => ?_)
        · have hF := hF.2 c70
          refine z_lv (lv' := [(0, .ref h_t), (1, .int v1), (2, .int j9), (3, .int x12)]) [0, 1, 2, 3] rfl ?_
          exact K35_l o62 hF
        · have hF := hF.1 c70
          refine z_aload_n X dX12_asks_139 rfl 0 rfl ?_
          refine z_get (v := .ref (a_t 0)) X k_X12_asks_7 0 rfl rfl dX12_asks_140 ?_
          refine z_iconst (v := (1 : Int32)) X dX12_asks_143 (by decide) ?_
          obtain ⟨g64, hF⟩ := gi_e hF
          refine z_iald X 1 rfl g64 dX12_asks_144 ?_
          refine z_iconst (v := (1 : Int32)) X dX12_asks_145 (by decide) ?_
          have hF := if_e hF
          refine z_icmp_ne (tgt := 170) X dX12_asks_146 (by decide) (fun c69 => ?_) (fun c69 => ?_)
          · have hF := hF.2 c69
            refine z_lv (lv' := [(0, .ref h_t), (1, .int v1), (2, .int j9), (3, .int x12)]) [0, 1, 2, 3] rfl ?_
            exact K35_l o62 hF
          · have hF := hF.1 c69
            refine z_aload_n X dX12_asks_149 rfl 0 rfl ?_
            refine z_get (v := .ref (a_t 0)) X k_X12_asks_7 0 rfl rfl dX12_asks_150 ?_
            refine z_bipush (v := (40 : Int32)) X dX12_asks_153 (by decide) ?_
            refine z_iload_n X dX12_asks_155 rfl 1 rfl ?_
            refine z_iadd X dX12_asks_156 ?_
            refine z_dup2 X dX12_asks_157 rfl rfl ?_
            obtain ⟨g65, hF⟩ := gi_e hF
            refine z_iald X 1 rfl g65 dX12_asks_158 ?_
            refine z_aload_n X dX12_asks_159 rfl 0 rfl ?_
            refine z_get (v := .ref (a_t 0)) X k_X12_asks_7 0 rfl rfl dX12_asks_160 ?_
            refine z_bipush (v := (24 : Int32)) X dX12_asks_163 (by decide) ?_
            refine z_iload_n X dX12_asks_165 rfl 1 rfl ?_
            refine z_iadd X dX12_asks_166 ?_
            obtain ⟨g66, hF⟩ := gi_e hF
            refine z_iald X 1 rfl g66 dX12_asks_167 ?_
            refine z_iadd X dX12_asks_168 ?_
            obtain ⟨g67, hF⟩ := gi_e hF
            obtain ⟨o68, eo68, hF⟩ := nx_e hF
            refine z_iast (ws' := (w_X12_four cA h_t a_t o68)) X 1 rfl g67 (by rw [eo68]; rfl) dX12_asks_169 ?_
            refine z_lv (lv' := [(0, .ref h_t), (1, .int v1), (2, .int j9), (3, .int x12)]) [0, 1, 2, 3] rfl ?_
            exact K35_l o68 hF
      have hF := if_e hF
      refine z_if_ne (tgt := 102) X dX12_asks_90 (by decide) (fun c73 => ?_) (fun c73 => ?_)
      · have hF := hF.2 c73
        refine z_lv (lv' := [(0, .ref h_t), (1, .int v1), (2, .int j9), (3, .int x12)]) [2, 3, 1, 0] rfl ?_
        exact K16_l () hF
      · have hF := hF.1 c73
        refine z_aload_n X dX12_asks_93 rfl 2 rfl ?_
        refine z_get (v := .ref (a_t 0)) X k_X12_asks_7 0 rfl rfl dX12_asks_94 ?_
        refine z_iconst (v := (1 : Int32)) X dX12_asks_97 (by decide) ?_
        obtain ⟨g71, hF⟩ := gi_e hF
        refine z_iald X 1 rfl g71 dX12_asks_98 ?_
        have hF := if_e hF
        refine z_if_le (tgt := 170) X dX12_asks_99 (by decide) (fun c72 => ?_) (fun c72 => ?_)
        · have hF := hF.1 c72
          refine z_lv (lv' := [(0, .ref h_t), (1, .int v1), (2, .int j9), (3, .int x12)]) [2, 3, 1, 0] rfl ?_
          exact K35_l o1 hF
        · have hF := hF.2 c72
          refine z_lv (lv' := [(0, .ref h_t), (1, .int v1), (2, .int j9), (3, .int x12)]) [2, 3, 1, 0] rfl ?_
          exact K16_l () hF
    have hF := if_e hF
    refine z_icmp_le (tgt := 80) X dX12_asks_73 (by decide) (fun c74 => ?_) (fun c74 => ?_)
    · have hF := hF.1 c74
      refine z_iconst (v := (0 : Int32)) X dX12_asks_80 (by decide) ?_
      refine z_lv (lv' := [(0, .ref h_t), (1, .int v1)]) [0, 1] rfl ?_
      exact K10_l (0 : Int32) hF
    · have hF := hF.2 c74
      refine z_iconst (v := (1 : Int32)) X dX12_asks_76 (by decide) ?_
      refine z_goto (tgt := 81) X dX12_asks_77 (by decide) ?_
      refine z_lv (lv' := [(0, .ref h_t), (1, .int v1)]) [0, 1] rfl ?_
      exact K10_l (1 : Int32) hF
  · have hF := hF.2 c82
    refine z_aload_n X dX12_asks_18 rfl 0 rfl ?_
    refine z_get (v := .ref (a_t 0)) X k_X12_asks_7 0 rfl rfl dX12_asks_19 ?_
    refine z_bipush (v := (32 : Int32)) X dX12_asks_22 (by decide) ?_
    refine z_iload_n X dX12_asks_24 rfl 1 rfl ?_
    refine z_iadd X dX12_asks_25 ?_
    refine z_bipush (v := (60 : Int32)) X dX12_asks_26 (by decide) ?_
    refine z_aload_n X dX12_asks_28 rfl 0 rfl ?_
    refine z_get (v := .ref (a_t 0)) X k_X12_asks_7 0 rfl rfl dX12_asks_29 ?_
    refine z_bipush (v := (16 : Int32)) X dX12_asks_32 (by decide) ?_
    refine z_iload_n X dX12_asks_34 rfl 1 rfl ?_
    refine z_iadd X dX12_asks_35 ?_
    obtain ⟨g75, hF⟩ := gi_e hF
    refine z_iald X 1 rfl g75 dX12_asks_36 ?_
    refine z_imul X dX12_asks_37 ?_
    refine z_aload_n X dX12_asks_38 rfl 0 rfl ?_
    refine z_get (v := .ref (a_t 0)) X k_X12_asks_7 0 rfl rfl dX12_asks_39 ?_
    refine z_bipush (v := (8 : Int32)) X dX12_asks_42 (by decide) ?_
    refine z_iload_n X dX12_asks_44 rfl 1 rfl ?_
    refine z_iadd X dX12_asks_45 ?_
    obtain ⟨g76, hF⟩ := gi_e hF
    refine z_iald X 1 rfl g76 dX12_asks_46 ?_
    obtain ⟨g77, hF⟩ := gn_e hF
    refine z_idiv X g77 dX12_asks_47 ?_
    obtain ⟨g78, hF⟩ := gi_e hF
    obtain ⟨o79, eo79, hF⟩ := nx_e hF
    refine z_iast (ws' := (w_X12_four cA h_t a_t o79)) X 1 rfl g78 (by rw [eo79]; rfl) dX12_asks_48 ?_
    refine z_aload_n X dX12_asks_49 rfl 0 rfl ?_
    refine z_iconst (v := (0 : Int32)) X dX12_asks_50 (by decide) ?_
    refine z_iload_n X dX12_asks_51 rfl 1 rfl ?_
    refine z_iconst (v := (0 : Int32)) X dX12_asks_52 (by decide) ?_
    obtain ⟨o80, hc81, hF⟩ := zb1_e hF
    refine z_Vv (As := [.int (0 : Int32), .int v1, .int (0 : Int32)]) (rest := []) (wc := (w_X12_four cA h_t a_t o79)) (wc' := (w_X12_four cA h_t a_t o80)) (ws' := (w_X12_four cA h_t a_t o80)) X (cwV 3 X.2.2.2.2.1 gX12_asks_X12_entry rfl rfl rfl (by decide +kernel) (by rw [hR]; exact ⟨Nat.le_of_ble_eq_true rfl, Nat.le_of_ble_eq_true rfl⟩)) (fun sz => c_X12_entry l D cA g sz h_t a_t o79 (0 : Int32) v1 (0 : Int32) o80 hc81) [0, 1, 2, 3, 4, 5, 6, 7, 8, 9, 10, 11, 12, 13, 14, 15, 16, 17, 18, 19, 20, 21] [1000, 1001, 1002, 1003, 1004, 1005, 1006, 1007, 1008, 1009, 1010, 1011, 1012, 1013, 1014, 1015, 1016, 1017, 1018, 1019, 1020, 1021] rfl (by decide) rfl (by decide) rfl rfl rfl rfl rfl rfl (Nat.le_of_ble_eq_true rfl) dX12_asks_53 ⟨Nat.zero_le _, Nat.zero_le _⟩ ?_
    refine z_iconst (v := (0 : Int32)) X dX12_asks_56 (by decide) ?_
    cases hF
    exact z_iret X hA hQ hr rfl dX12_asks_57 (Nat.le_refl _) (Nat.le_refl _)
set_option maxRecDepth 20000 in
theorem h_X12_logs_X12 : ∀ w ∈ wsX120, w ∈ wsX12_logs := by decide +kernel
set_option maxRecDepth 20000 in
theorem k_X12_logs_7 : ZF wsX12_logs RX12 7 12 0 RX12 TX12 47 := ⟨rfl, by decide, h_X12_logs_X12, by decide +kernel⟩
set_option maxHeartbeats 8000000 in
set_option maxRecDepth 100000 in
theorem c_X12_logs (l : Launch) (D : va_G) (cA : Nat → ClassId) (g : Nat → Nat) (sz : Nat) (h_t : Nat) (a_t : Nat → Nat) (o_t : Ob) (v1 : Int32) (o_t' : Ob) (rv : Int32) (hF : f_X12_logs o_t v1 = some (o_t', rv)) : Met l yX12_logs wsX12_logs ({ frames := 5, cells := 0, slots := 0, locals := 115 }) (va_Pc [.ref h_t, .int v1] (PreW D cA g sz (w_X12_four cA h_t a_t o_t))) (va_Qi (fun (r : Int32) (_ : Unit) => r = rv) (PostW D cA sz (w_X12_four cA h_t a_t o_t) (w_X12_four cA h_t a_t o_t')) (va_A (w_X12_four cA h_t a_t o_t) sz)) 0 0 (va_A (w_X12_four cA h_t a_t o_t) sz) := by
  refine z_start (cc := cX12_logs) (maxL := 5) (ret := (some .int)) (lv0 := [(0, .ref h_t), (1, .int v1)]) (Qc := fun sz => va_Qi (fun (r : Int32) (_ : Unit) => r = rv) (PostW D cA sz (w_X12_four cA h_t a_t o_t) (w_X12_four cA h_t a_t o_t')) (va_A (w_X12_four cA h_t a_t o_t) sz)) (free := fun sz => va_A (w_X12_four cA h_t a_t o_t) sz) (by decide +kernel) rfl rfl (Nat.le_of_ble_eq_true rfl) ?_
  intro p e R s m args below meth c A Q hR hA hQ X hr hin
  unfold f_X12_logs at hF
  refine z_aload_n X dX12_logs_0 rfl 0 rfl ?_
  refine z_iload_n X dX12_logs_1 rfl 1 rfl ?_
  obtain ⟨o1, r2, hc3, hF⟩ := zb2_e hF
  refine z_Vi (As := [.int v1]) (rest := []) (wc := (w_X12_four cA h_t a_t o_t)) (wc' := (w_X12_four cA h_t a_t o1)) (ws' := (w_X12_four cA h_t a_t o1)) (rv := r2) X (cwV 1 X.2.2.2.2.1 gX12_logs_X12_asks rfl rfl rfl (by decide +kernel) (by rw [hR]; exact ⟨Nat.le_of_ble_eq_true rfl, Nat.le_of_ble_eq_true rfl⟩)) (fun sz => c_X12_asks l D cA g sz h_t a_t o_t v1 o1 r2 hc3) [0, 1, 2, 3, 4, 5, 6, 7, 8, 9, 10, 11, 12, 13, 14, 15, 16, 17, 18, 19, 20, 21] [1000, 1001, 1002, 1003, 1004, 1005, 1006, 1007, 1008, 1009, 1010, 1011, 1012, 1013, 1014, 1015, 1016, 1017, 1018, 1019, 1020, 1021] rfl (by decide) rfl (by decide) rfl rfl rfl rfl rfl rfl (Nat.le_of_ble_eq_true rfl) dX12_logs_2 ⟨Nat.zero_le _, Nat.zero_le _⟩ ?_
  refine z_istore_n (lv' := [(2, .int r2), (0, .ref h_t), (1, .int v1)]) X dX12_logs_5 rfl (by decide) rfl ?_
  refine z_aload_n X dX12_logs_6 rfl 1 rfl ?_
  refine z_get (v := .ref (a_t 0)) X k_X12_logs_7 0 rfl rfl dX12_logs_7 ?_
  refine z_bipush (v := (7 : Int32)) X dX12_logs_10 (by decide) ?_
  obtain ⟨g4, hF⟩ := gi_e hF
  refine z_iald X 1 rfl g4 dX12_logs_12 ?_
  obtain ⟨x5, ex5, hF⟩ := nx_e hF
  refine z_nm ex5 ?_
  refine z_istore_n (lv' := [(3, .int x5), (2, .int r2), (0, .ref h_t), (1, .int v1)]) X dX12_logs_13 rfl (by decide) rfl ?_
  refine z_aload_n X dX12_logs_14 rfl 2 rfl ?_
  refine z_get (v := .ref (a_t 0)) X k_X12_logs_7 0 rfl rfl dX12_logs_15 ?_
  refine z_bipush (v := (104 : Int32)) X dX12_logs_18 (by decide) ?_
  refine z_iload_n X dX12_logs_20 rfl 0 rfl ?_
  refine z_iadd X dX12_logs_21 ?_
  refine z_iload_n X dX12_logs_22 rfl 3 rfl ?_
  obtain ⟨g6, hF⟩ := gi_e hF
  obtain ⟨o7, eo7, hF⟩ := nx_e hF
  refine z_iast (ws' := (w_X12_four cA h_t a_t o7)) X 1 rfl g6 (by rw [eo7]; rfl) dX12_logs_23 ?_
  refine z_aload_n X dX12_logs_24 rfl 2 rfl ?_
  refine z_get (v := .ref (a_t 0)) X k_X12_logs_7 0 rfl rfl dX12_logs_25 ?_
  refine z_sipush (v := (144 : Int32)) X dX12_logs_28 (by decide) ?_
  refine z_iload_n X dX12_logs_31 rfl 0 rfl ?_
  refine z_iadd X dX12_logs_32 ?_
  refine z_iload_n X dX12_logs_33 rfl 1 rfl ?_
  obtain ⟨g8, hF⟩ := gi_e hF
  obtain ⟨o9, eo9, hF⟩ := nx_e hF
  refine z_iast (ws' := (w_X12_four cA h_t a_t o9)) X 1 rfl g8 (by rw [eo9]; rfl) dX12_logs_34 ?_
  refine z_aload_n X dX12_logs_35 rfl 2 rfl ?_
  refine z_get (v := .ref (a_t 0)) X k_X12_logs_7 0 rfl rfl dX12_logs_36 ?_
  refine z_sipush (v := (184 : Int32)) X dX12_logs_39 (by decide) ?_
  refine z_iload_n X dX12_logs_42 rfl 0 rfl ?_
  refine z_iadd X dX12_logs_43 ?_
  refine z_aload_n X dX12_logs_44 rfl 2 rfl ?_
  refine z_get (v := .ref (a_t 0)) X k_X12_logs_7 0 rfl rfl dX12_logs_45 ?_
  refine z_iconst (v := (3 : Int32)) X dX12_logs_48 (by decide) ?_
  obtain ⟨g10, hF⟩ := gi_e hF
  refine z_iald X 1 rfl g10 dX12_logs_49 ?_
  obtain ⟨g11, hF⟩ := gi_e hF
  obtain ⟨o12, eo12, hF⟩ := nx_e hF
  refine z_iast (ws' := (w_X12_four cA h_t a_t o12)) X 1 rfl g11 (by rw [eo12]; rfl) dX12_logs_50 ?_
  refine z_iconst (v := (0 : Int32)) X dX12_logs_51 (by decide) ?_
  refine z_istore (lv' := [(4, .int (0 : Int32)), (3, .int x5), (2, .int r2), (0, .ref h_t), (1, .int v1)]) X dX12_logs_52 (by decide) rfl ?_
  obtain ⟨o22, hL, hF⟩ := zb1_e hF
  have L26_x : ∀ (o22' : Ob), o22' = o22 → ZW p l e R s m args below meth c D A 5 0 0 Q (w_X12_four cA h_t a_t o22') [(0, .ref h_t), (2, .int r2)] 93 [] := by
    intro o22' hz
    cases hz
    refine z_aload_n X dX12_logs_93 rfl 0 rfl ?_
    refine z_get (v := .ref (a_t 0)) X k_X12_logs_7 0 rfl rfl dX12_logs_94 ?_
    refine z_bipush (v := (7 : Int32)) X dX12_logs_97 (by decide) ?_
    refine z_dup2 X dX12_logs_99 rfl rfl ?_
    obtain ⟨g23, hF⟩ := gi_e hF
    refine z_iald X 1 rfl g23 dX12_logs_100 ?_
    refine z_iconst (v := (1 : Int32)) X dX12_logs_101 (by decide) ?_
    refine z_iadd X dX12_logs_102 ?_
    obtain ⟨g24, hF⟩ := gi_e hF
    obtain ⟨o25, eo25, hF⟩ := nx_e hF
    refine z_iast (ws' := (w_X12_four cA h_t a_t o25)) X 1 rfl g24 (by rw [eo25]; rfl) dX12_logs_103 ?_
    refine z_iload_n X dX12_logs_104 rfl 1 rfl ?_
    cases hF
    exact z_iret X hA hQ hr rfl dX12_logs_105 (Nat.le_refl _) (Nat.le_refl _)
  obtain ⟨B33, hBB33, hL⟩ := zl2_b hL
  have L26 : ∀ (n : Nat) (o20 : Ob) (k21 : Int32), zl2 B33 n o20 k21 = some o22 → ZW p l e R s m args below meth c D A 5 0 0 Q (w_X12_four cA h_t a_t o20) [(0, .ref h_t), (2, .int r2), (3, .int x5), (4, .int k21)] 54 [] := by
    intro n
    induction n with
    | zero => intro o20 k21 hL; cases hL
    | succ n ih =>
      intro o20 k21 hL
      obtain ⟨zz27, hF, hL⟩ := zl2_e hL
      rw [hBB33] at hF
      refine z_iload X dX12_logs_54 3 rfl ?_
      refine z_bipush (v := (8 : Int32)) X dX12_logs_56 (by decide) ?_
      have hF := if_e hF
      refine z_icmp_ge (tgt := 93) X dX12_logs_58 (by decide) (fun c32 => ?_) (fun c32 => ?_)
      · have hF := hF.1 c32
        cases hF
        have hL := Option.some.inj hL
        refine z_lv (lv' := [(0, .ref h_t), (2, .int r2)]) [0, 1] rfl ?_
        exact L26_x o20 hL
      · have hF := hF.2 c32
        refine z_aload_n X dX12_logs_61 rfl 0 rfl ?_
        refine z_get (v := .ref (a_t 0)) X k_X12_logs_7 0 rfl rfl dX12_logs_62 ?_
        refine z_sipush (v := (224 : Int32)) X dX12_logs_65 (by decide) ?_
        refine z_bipush (v := (8 : Int32)) X dX12_logs_68 (by decide) ?_
        refine z_iload_n X dX12_logs_70 rfl 2 rfl ?_
        refine z_imul X dX12_logs_71 ?_
        refine z_iadd X dX12_logs_72 ?_
        refine z_iload X dX12_logs_73 3 rfl ?_
        refine z_iadd X dX12_logs_75 ?_
        refine z_aload_n X dX12_logs_76 rfl 0 rfl ?_
        refine z_get (v := .ref (a_t 0)) X k_X12_logs_7 0 rfl rfl dX12_logs_77 ?_
        refine z_bipush (v := (32 : Int32)) X dX12_logs_80 (by decide) ?_
        refine z_iload X dX12_logs_82 3 rfl ?_
        refine z_iadd X dX12_logs_84 ?_
        obtain ⟨g28, hF⟩ := gi_e hF
        refine z_iald X 1 rfl g28 dX12_logs_85 ?_
        obtain ⟨g29, hF⟩ := gi_e hF
        obtain ⟨o30, eo30, hF⟩ := nx_e hF
        refine z_iast (ws' := (w_X12_four cA h_t a_t o30)) X 1 rfl g29 (by rw [eo30]; rfl) dX12_logs_86 ?_
        obtain ⟨x31, ex31, hF⟩ := nx_e hF
        refine z_iinc (v := x31) (lv' := [(4, .int x31), (0, .ref h_t), (2, .int r2), (3, .int x5)]) (j := 3) X dX12_logs_87 rfl (by rw [ex31]; rfl) (by decide) rfl ?_
        refine z_goto (tgt := 54) X dX12_logs_90 (by decide) ?_
        cases hF
        refine z_lv (lv' := [(0, .ref h_t), (2, .int r2), (3, .int x5), (4, .int x31)]) [1, 2, 3, 0] rfl ?_
        exact ih o30 x31 hL
  refine z_lv (lv' := [(0, .ref h_t), (2, .int r2), (3, .int x5), (4, .int (0 : Int32))]) [3, 2, 1, 0] rfl ?_
  exact L26 FU o12 (0 : Int32) hL
set_option maxRecDepth 20000 in
theorem h_X12_keeps_X12 : ∀ w ∈ wsX120, w ∈ wsX12_keeps := by decide +kernel
set_option maxRecDepth 20000 in
theorem k_X12_keeps_7 : ZF wsX12_keeps RX12 7 12 0 RX12 TX12 47 := ⟨rfl, by decide, h_X12_keeps_X12, by decide +kernel⟩
set_option maxRecDepth 20000 in
theorem k_X12_keeps_16 : ZF wsX12_keeps RX12 16 12 2 RX12 TX12 47 := ⟨rfl, by decide, h_X12_keeps_X12, by decide +kernel⟩
set_option maxRecDepth 20000 in
theorem k_X12_keeps_181 : ZF wsX12_keeps RX12 181 12 5 RX12 TX12 47 := ⟨rfl, by decide, h_X12_keeps_X12, by decide +kernel⟩
set_option maxHeartbeats 8000000 in
set_option maxRecDepth 100000 in
theorem c_X12_keeps (l : Launch) (D : va_G) (cA : Nat → ClassId) (g : Nat → Nat) (sz : Nat) (h_t : Nat) (a_t : Nat → Nat) (o_t : Ob)  (o_t' : Ob) (hF : f_X12_keeps o_t = some o_t') : Met l yX12_keeps wsX12_keeps ({ frames := 1, cells := 0, slots := 0, locals := 24 }) (va_Pc [.ref h_t] (PreW D cA g sz (w_X12_four cA h_t a_t o_t))) (va_Qv (fun (_ : Unit) => True) (PostW D cA sz (w_X12_four cA h_t a_t o_t) (w_X12_four cA h_t a_t o_t')) (va_A (w_X12_four cA h_t a_t o_t) sz)) 0 0 (va_A (w_X12_four cA h_t a_t o_t) sz) := by
  refine z_start (cc := cX12_keeps) (maxL := 2) (ret := none) (lv0 := [(0, .ref h_t)]) (Qc := fun sz => va_Qv (fun (_ : Unit) => True) (PostW D cA sz (w_X12_four cA h_t a_t o_t) (w_X12_four cA h_t a_t o_t')) (va_A (w_X12_four cA h_t a_t o_t) sz)) (free := fun sz => va_A (w_X12_four cA h_t a_t o_t) sz) (by decide +kernel) rfl rfl (Nat.le_of_ble_eq_true rfl) ?_
  intro p e R s m args below meth c A Q hR hA hQ X hr hin
  unfold f_X12_keeps at hF
  refine z_aload_n X dX12_keeps_0 rfl 0 rfl ?_
  refine z_get (v := .int (o_t 5 0)) X k_X12_keeps_181 0 rfl rfl dX12_keeps_1 ?_
  refine z_bipush (v := (8 : Int32)) X dX12_keeps_4 (by decide) ?_
  obtain ⟨K22, eK22, hF⟩ := nx_e hF
  have K22_l : ∀ (q21 : Ob), K22 q21 = some o_t' → ZW p l e R s m args below meth c D A 2 0 0 Q (w_X12_four cA h_t a_t q21) [(0, .ref h_t)] 50 [] := by
    intro q21 hF
    rw [eK22] at hF
    refine z_aload_n X dX12_keeps_50 rfl 0 rfl ?_
    refine z_get (v := .ref (a_t 0)) X k_X12_keeps_7 0 rfl rfl dX12_keeps_51 ?_
    refine z_iconst (v := (0 : Int32)) X dX12_keeps_54 (by decide) ?_
    refine z_aload_n X dX12_keeps_55 rfl 0 rfl ?_
    refine z_get (v := .ref (a_t 2)) X k_X12_keeps_16 0 rfl rfl dX12_keeps_56 ?_
    refine z_sipush (v := (835 : Int32)) X dX12_keeps_59 (by decide) ?_
    refine z_aload_n X dX12_keeps_62 rfl 0 rfl ?_
    refine z_get (v := .int (q21 5 0)) X k_X12_keeps_181 0 rfl rfl dX12_keeps_63 ?_
    refine z_imul X dX12_keeps_66 ?_
    obtain ⟨o23, hc24, hF⟩ := zb1_e hF
    obtain ⟨o25, eo25, hF⟩ := nx_e hF
    refine z_Sv (As := [.ref (a_t 0), .int (0 : Int32), .ref (a_t 2), .int ((835 : Int32) * (q21 5 0))]) (rest := []) (wc := (w_X12_copies cA (a_t 0) 835 (q21 0) (a_t 2) 6680 (q21 2))) (wc' := (w_X12_copies cA (a_t 0) 835 (q21 0) (a_t 2) 6680 o23)) (ws' := (w_X12_four cA h_t a_t o25)) X (va_cwS 4 X.2.2.2.2.1 gX12_keeps_X12_copies rfl rfl rfl (by decide +kernel) (by rw [hR]; exact ⟨Nat.le_of_ble_eq_true rfl, Nat.le_of_ble_eq_true rfl⟩)) (fun sz => c_X12_copies l D cA g sz (a_t 0) 835 (q21 0) (a_t 2) 6680 (q21 2) (0 : Int32) ((835 : Int32) * (q21 5 0)) o23 hc24) [1, 3] [0, 1000, 2, 1001, 4, 5, 6, 7, 8, 9, 10, 11, 12, 13, 14, 15, 16, 17, 18, 19, 20, 21] rfl (by decide) (by rw [eo25]; rfl) (by decide) rfl rfl rfl (Nat.le_of_ble_eq_true rfl) dX12_keeps_67 ⟨Nat.zero_le _, Nat.zero_le _⟩ ?_
    refine z_aload_n X dX12_keeps_70 rfl 0 rfl ?_
    refine z_dup X dX12_keeps_71 rfl ?_
    refine z_get (v := .int (o25 5 0)) X k_X12_keeps_181 0 rfl rfl dX12_keeps_72 ?_
    refine z_iconst (v := (1 : Int32)) X dX12_keeps_75 (by decide) ?_
    refine z_iadd X dX12_keeps_76 ?_
    obtain ⟨o26, eo26, hF⟩ := nx_e hF
    refine z_put (ws' := (w_X12_four cA h_t a_t o26)) X k_X12_keeps_181 tyX12 tyX12_ok nmX12 rfl rfl 0 rfl (Nat.le_of_ble_eq_true rfl) (by rw [eo26]; rfl) dX12_keeps_77 ?_
    cases hF
    exact z_vret X hA hQ hr dX12_keeps_80 (Nat.le_refl _) (Nat.le_refl _)
  have hF := if_e hF
  refine z_icmp_ne (tgt := 50) X dX12_keeps_6 (by decide) (fun c46 => ?_) (fun c46 => ?_)
  · have hF := hF.2 c46
    refine z_lv (lv' := [(0, .ref h_t)]) [0] rfl ?_
    exact K22_l o_t hF
  · have hF := hF.1 c46
    refine z_iconst (v := (0 : Int32)) X dX12_keeps_9 (by decide) ?_
    refine z_istore_n (lv' := [(1, .int (0 : Int32)), (0, .ref h_t)]) X dX12_keeps_10 rfl (by decide) rfl ?_
    obtain ⟨o36, hL, hF⟩ := zb1_e hF
    have L38_x : ∀ (o36' : Ob), o36' = o36 → ZW p l e R s m args below meth c D A 2 0 0 Q (w_X12_four cA h_t a_t o36') [(0, .ref h_t)] 40 [] := by
      intro o36' hz
      cases hz
      refine z_aload_n X dX12_keeps_40 rfl 0 rfl ?_
      refine z_dup X dX12_keeps_41 rfl ?_
      refine z_get (v := .int (o36 5 0)) X k_X12_keeps_181 0 rfl rfl dX12_keeps_42 ?_
      refine z_iconst (v := (1 : Int32)) X dX12_keeps_45 (by decide) ?_
      refine z_isub X dX12_keeps_46 ?_
      obtain ⟨o37, eo37, hF⟩ := nx_e hF
      refine z_put (ws' := (w_X12_four cA h_t a_t o37)) X k_X12_keeps_181 tyX12 tyX12_ok nmX12 rfl rfl 0 rfl (Nat.le_of_ble_eq_true rfl) (by rw [eo37]; rfl) dX12_keeps_47 ?_
      refine z_lv (lv' := [(0, .ref h_t)]) [0] rfl ?_
      exact K22_l o37 hF
    obtain ⟨B45, hBB45, hL⟩ := zl2_b hL
    have L38 : ∀ (n : Nat) (o34 : Ob) (k35 : Int32), zl2 B45 n o34 k35 = some o36 → ZW p l e R s m args below meth c D A 2 0 0 Q (w_X12_four cA h_t a_t o34) [(0, .ref h_t), (1, .int k35)] 11 [] := by
      intro n
      induction n with
      | zero => intro o34 k35 hL; cases hL
      | succ n ih =>
        intro o34 k35 hL
        obtain ⟨zz39, hF, hL⟩ := zl2_e hL
        rw [hBB45] at hF
        refine z_iload_n X dX12_keeps_11 rfl 1 rfl ?_
        refine z_sipush (v := (5845 : Int32)) X dX12_keeps_12 (by decide) ?_
        have hF := if_e hF
        refine z_icmp_ge (tgt := 40) X dX12_keeps_15 (by decide) (fun c44 => ?_) (fun c44 => ?_)
        · have hF := hF.1 c44
          cases hF
          have hL := Option.some.inj hL
          refine z_lv (lv' := [(0, .ref h_t)]) [0] rfl ?_
          exact L38_x o34 hL
        · have hF := hF.2 c44
          refine z_aload_n X dX12_keeps_18 rfl 0 rfl ?_
          refine z_get (v := .ref (a_t 2)) X k_X12_keeps_16 0 rfl rfl dX12_keeps_19 ?_
          refine z_iload_n X dX12_keeps_22 rfl 1 rfl ?_
          refine z_aload_n X dX12_keeps_23 rfl 0 rfl ?_
          refine z_get (v := .ref (a_t 2)) X k_X12_keeps_16 0 rfl rfl dX12_keeps_24 ?_
          refine z_iload_n X dX12_keeps_27 rfl 1 rfl ?_
          refine z_sipush (v := (835 : Int32)) X dX12_keeps_28 (by decide) ?_
          refine z_iadd X dX12_keeps_31 ?_
          obtain ⟨g40, hF⟩ := gi_e hF
          refine z_iald X 3 rfl g40 dX12_keeps_32 ?_
          obtain ⟨g41, hF⟩ := gi_e hF
          obtain ⟨o42, eo42, hF⟩ := nx_e hF
          refine z_iast (ws' := (w_X12_four cA h_t a_t o42)) X 3 rfl g41 (by rw [eo42]; rfl) dX12_keeps_33 ?_
          obtain ⟨x43, ex43, hF⟩ := nx_e hF
          refine z_iinc (v := x43) (lv' := [(1, .int x43), (0, .ref h_t)]) (j := 1) X dX12_keeps_34 rfl (by rw [ex43]; rfl) (by decide) rfl ?_
          refine z_goto (tgt := 11) X dX12_keeps_37 (by decide) ?_
          cases hF
          refine z_lv (lv' := [(0, .ref h_t), (1, .int x43)]) [1, 0] rfl ?_
          exact ih o42 x43 hL
    refine z_lv (lv' := [(0, .ref h_t), (1, .int (0 : Int32))]) [1, 0] rfl ?_
    exact L38 FU o_t (0 : Int32) hL
set_option maxRecDepth 20000 in
theorem h_X12_undo_X12 : ∀ w ∈ wsX120, w ∈ wsX12_undo := by decide +kernel
set_option maxRecDepth 20000 in
theorem k_X12_undo_7 : ZF wsX12_undo RX12 7 12 0 RX12 TX12 47 := ⟨rfl, by decide, h_X12_undo_X12, by decide +kernel⟩
set_option maxRecDepth 20000 in
theorem k_X12_undo_16 : ZF wsX12_undo RX12 16 12 2 RX12 TX12 47 := ⟨rfl, by decide, h_X12_undo_X12, by decide +kernel⟩
set_option maxRecDepth 20000 in
theorem k_X12_undo_181 : ZF wsX12_undo RX12 181 12 5 RX12 TX12 47 := ⟨rfl, by decide, h_X12_undo_X12, by decide +kernel⟩
set_option maxHeartbeats 8000000 in
set_option maxRecDepth 100000 in
theorem c_X12_undo (l : Launch) (D : va_G) (cA : Nat → ClassId) (g : Nat → Nat) (sz : Nat) (h_t : Nat) (a_t : Nat → Nat) (o_t : Ob)  (o_t' : Ob) (rv : Int32) (hF : f_X12_undo o_t = some (o_t', rv)) : Met l yX12_undo wsX12_undo ({ frames := 1, cells := 0, slots := 0, locals := 24 }) (va_Pc [.ref h_t] (PreW D cA g sz (w_X12_four cA h_t a_t o_t))) (va_Qi (fun (r : Int32) (_ : Unit) => r = rv) (PostW D cA sz (w_X12_four cA h_t a_t o_t) (w_X12_four cA h_t a_t o_t')) (va_A (w_X12_four cA h_t a_t o_t) sz)) 0 0 (va_A (w_X12_four cA h_t a_t o_t) sz) := by
  refine z_start (cc := cX12_undo) (maxL := 1) (ret := (some .int)) (lv0 := [(0, .ref h_t)]) (Qc := fun sz => va_Qi (fun (r : Int32) (_ : Unit) => r = rv) (PostW D cA sz (w_X12_four cA h_t a_t o_t) (w_X12_four cA h_t a_t o_t')) (va_A (w_X12_four cA h_t a_t o_t) sz)) (free := fun sz => va_A (w_X12_four cA h_t a_t o_t) sz) (by decide +kernel) rfl rfl (Nat.le_of_ble_eq_true rfl) ?_
  intro p e R s m args below meth c A Q hR hA hQ X hr hin
  unfold f_X12_undo at hF
  refine z_aload_n X dX12_undo_0 rfl 0 rfl ?_
  refine z_get (v := .int (o_t 5 0)) X k_X12_undo_181 0 rfl rfl dX12_undo_1 ?_
  have hF := if_e hF
  refine z_if_ne (tgt := 9) X dX12_undo_4 (by decide) (fun c5 => ?_) (fun c5 => ?_)
  · have hF := hF.2 c5
    refine z_aload_n X dX12_undo_9 rfl 0 rfl ?_
    refine z_dup X dX12_undo_10 rfl ?_
    refine z_get (v := .int (o_t 5 0)) X k_X12_undo_181 0 rfl rfl dX12_undo_11 ?_
    refine z_iconst (v := (1 : Int32)) X dX12_undo_14 (by decide) ?_
    refine z_isub X dX12_undo_15 ?_
    obtain ⟨o1, eo1, hF⟩ := nx_e hF
    refine z_put (ws' := (w_X12_four cA h_t a_t o1)) X k_X12_undo_181 tyX12 tyX12_ok nmX12 rfl rfl 0 rfl (Nat.le_of_ble_eq_true rfl) (by rw [eo1]; rfl) dX12_undo_16 ?_
    refine z_aload_n X dX12_undo_19 rfl 0 rfl ?_
    refine z_get (v := .ref (a_t 2)) X k_X12_undo_16 0 rfl rfl dX12_undo_20 ?_
    refine z_sipush (v := (835 : Int32)) X dX12_undo_23 (by decide) ?_
    refine z_aload_n X dX12_undo_26 rfl 0 rfl ?_
    refine z_get (v := .int (o1 5 0)) X k_X12_undo_181 0 rfl rfl dX12_undo_27 ?_
    refine z_imul X dX12_undo_30 ?_
    refine z_aload_n X dX12_undo_31 rfl 0 rfl ?_
    refine z_get (v := .ref (a_t 0)) X k_X12_undo_7 0 rfl rfl dX12_undo_32 ?_
    refine z_iconst (v := (0 : Int32)) X dX12_undo_35 (by decide) ?_
    obtain ⟨o2, hc3, hF⟩ := zb1_e hF
    obtain ⟨o4, eo4, hF⟩ := nx_e hF
    refine z_Sv (As := [.ref (a_t 2), .int ((835 : Int32) * (o1 5 0)), .ref (a_t 0), .int (0 : Int32)]) (rest := []) (wc := (w_X12_copies cA (a_t 2) 6680 (o1 2) (a_t 0) 835 (o1 0))) (wc' := (w_X12_copies cA (a_t 2) 6680 (o1 2) (a_t 0) 835 o2)) (ws' := (w_X12_four cA h_t a_t o4)) X (va_cwS 4 X.2.2.2.2.1 gX12_undo_X12_copies rfl rfl rfl (by decide +kernel) (by rw [hR]; exact ⟨Nat.le_of_ble_eq_true rfl, Nat.le_of_ble_eq_true rfl⟩)) (fun sz => c_X12_copies l D cA g sz (a_t 2) 6680 (o1 2) (a_t 0) 835 (o1 0) ((835 : Int32) * (o1 5 0)) (0 : Int32) o2 hc3) [3, 1] [0, 1001, 2, 1000, 4, 5, 6, 7, 8, 9, 10, 11, 12, 13, 14, 15, 16, 17, 18, 19, 20, 21] rfl (by decide) (by rw [eo4]; rfl) (by decide) rfl rfl rfl (Nat.le_of_ble_eq_true rfl) dX12_undo_36 ⟨Nat.zero_le _, Nat.zero_le _⟩ ?_
    refine z_aload_n X dX12_undo_39 rfl 0 rfl ?_
    refine z_get (v := .int (o4 5 0)) X k_X12_undo_181 0 rfl rfl dX12_undo_40 ?_
    cases hF
    exact z_iret X hA hQ hr rfl dX12_undo_43 (Nat.le_refl _) (Nat.le_refl _)
  · have hF := hF.1 c5
    refine z_iconst (v := (-1 : Int32)) X dX12_undo_7 (by decide) ?_
    cases hF
    exact z_iret X hA hQ hr rfl dX12_undo_8 (Nat.le_refl _) (Nat.le_refl _)
set_option maxRecDepth 20000 in
theorem h_X12_request_X12 : ∀ w ∈ wsX120, w ∈ wsX12_request := by decide +kernel
set_option maxRecDepth 20000 in
theorem k_X12_request_7 : ZF wsX12_request RX12 7 12 0 RX12 TX12 47 := ⟨rfl, by decide, h_X12_request_X12, by decide +kernel⟩
set_option maxHeartbeats 8000000 in
set_option maxRecDepth 100000 in
theorem c_X12_request (l : Launch) (D : va_G) (cA : Nat → ClassId) (g : Nat → Nat) (sz : Nat) (h_t : Nat) (a_t : Nat → Nat) (o_t : Ob) (v1 : Int32) (o_t' : Ob) (rv : Int32) (hF : f_X12_request o_t v1 = some (o_t', rv)) : Met l yX12_request wsX12_request ({ frames := 6, cells := 0, slots := 0, locals := 139 }) (va_Pc [.ref h_t, .int v1] (PreW D cA g sz (w_X12_four cA h_t a_t o_t))) (va_Qi (fun (r : Int32) (_ : Unit) => r = rv) (PostW D cA sz (w_X12_four cA h_t a_t o_t) (w_X12_four cA h_t a_t o_t')) (va_A (w_X12_four cA h_t a_t o_t) sz)) 0 0 (va_A (w_X12_four cA h_t a_t o_t) sz) := by
  refine z_start (cc := cX12_request) (maxL := 2) (ret := (some .int)) (lv0 := [(0, .ref h_t), (1, .int v1)]) (Qc := fun sz => va_Qi (fun (r : Int32) (_ : Unit) => r = rv) (PostW D cA sz (w_X12_four cA h_t a_t o_t) (w_X12_four cA h_t a_t o_t')) (va_A (w_X12_four cA h_t a_t o_t) sz)) (free := fun sz => va_A (w_X12_four cA h_t a_t o_t) sz) (by decide +kernel) rfl rfl (Nat.le_of_ble_eq_true rfl) ?_
  intro p e R s m args below meth c A Q hR hA hQ X hr hin
  unfold f_X12_request at hF
  refine z_aload_n X dX12_request_0 rfl 0 rfl ?_
  refine z_iload_n X dX12_request_1 rfl 1 rfl ?_
  obtain ⟨r1, hc2, hF⟩ := zb1_e hF
  refine z_Vi (As := [.int v1]) (rest := []) (wc := (w_X12_four cA h_t a_t o_t)) (wc' := (w_X12_four cA h_t a_t o_t)) (ws' := (w_X12_four cA h_t a_t o_t)) (rv := r1) X (cwV 1 X.2.2.2.2.1 gX12_request_X12_isItem rfl rfl rfl (by decide +kernel) (by rw [hR]; exact ⟨Nat.le_of_ble_eq_true rfl, Nat.le_of_ble_eq_true rfl⟩)) (fun sz => c_X12_isItem l D cA g sz h_t a_t o_t v1 r1 hc2) [0, 1, 2, 3, 4, 5, 6, 7, 8, 9, 10, 11, 12, 13, 14, 15, 16, 17, 18, 19, 20, 21] [1000, 1001, 1002, 1003, 1004, 1005, 1006, 1007, 1008, 1009, 1010, 1011, 1012, 1013, 1014, 1015, 1016, 1017, 1018, 1019, 1020, 1021] rfl (by decide) rfl (by decide) rfl rfl rfl rfl rfl rfl (Nat.le_of_ble_eq_true rfl) dX12_request_2 ⟨Nat.zero_le _, Nat.zero_le _⟩ ?_
  have hF := if_e hF
  refine z_if_ne (tgt := 11) X dX12_request_5 (by decide) (fun c12 => ?_) (fun c12 => ?_)
  · have hF := hF.2 c12
    refine z_aload_n X dX12_request_11 rfl 0 rfl ?_
    refine z_get (v := .ref (a_t 0)) X k_X12_request_7 0 rfl rfl dX12_request_12 ?_
    refine z_bipush (v := (7 : Int32)) X dX12_request_15 (by decide) ?_
    obtain ⟨g3, hF⟩ := gi_e hF
    refine z_iald X 1 rfl g3 dX12_request_17 ?_
    refine z_bipush (v := (40 : Int32)) X dX12_request_18 (by decide) ?_
    have hF := if_e hF
    refine z_icmp_ne (tgt := 26) X dX12_request_20 (by decide) (fun c11 => ?_) (fun c11 => ?_)
    · have hF := hF.2 c11
      refine z_aload_n X dX12_request_26 rfl 0 rfl ?_
      obtain ⟨o4, hc5, hF⟩ := zb1_e hF
      refine z_Vv (As := []) (rest := []) (wc := (w_X12_four cA h_t a_t o_t)) (wc' := (w_X12_four cA h_t a_t o4)) (ws' := (w_X12_four cA h_t a_t o4)) X (cwV 0 X.2.2.2.2.1 gX12_request_X12_call rfl rfl rfl (by decide +kernel) (by rw [hR]; exact ⟨Nat.le_of_ble_eq_true rfl, Nat.le_of_ble_eq_true rfl⟩)) (fun sz => c_X12_call l D cA g sz h_t a_t o_t o4 hc5) [0, 1, 2, 3, 4, 5, 6, 7, 8, 9, 10, 11, 12, 13, 14, 15, 16, 17, 18, 19, 20, 21] [1000, 1001, 1002, 1003, 1004, 1005, 1006, 1007, 1008, 1009, 1010, 1011, 1012, 1013, 1014, 1015, 1016, 1017, 1018, 1019, 1020, 1021] rfl (by decide) rfl (by decide) rfl rfl rfl rfl rfl rfl (Nat.le_of_ble_eq_true rfl) dX12_request_27 ⟨Nat.zero_le _, Nat.zero_le _⟩ ?_
      refine z_aload_n X dX12_request_30 rfl 0 rfl ?_
      obtain ⟨o6, hc7, hF⟩ := zb1_e hF
      refine z_Vv (As := []) (rest := []) (wc := (w_X12_four cA h_t a_t o4)) (wc' := (w_X12_four cA h_t a_t o6)) (ws' := (w_X12_four cA h_t a_t o6)) X (cwV 0 X.2.2.2.2.1 gX12_request_X12_keeps rfl rfl rfl (by decide +kernel) (by rw [hR]; exact ⟨Nat.le_of_ble_eq_true rfl, Nat.le_of_ble_eq_true rfl⟩)) (fun sz => c_X12_keeps l D cA g sz h_t a_t o4 o6 hc7) [0, 1, 2, 3, 4, 5, 6, 7, 8, 9, 10, 11, 12, 13, 14, 15, 16, 17, 18, 19, 20, 21] [1000, 1001, 1002, 1003, 1004, 1005, 1006, 1007, 1008, 1009, 1010, 1011, 1012, 1013, 1014, 1015, 1016, 1017, 1018, 1019, 1020, 1021] rfl (by decide) rfl (by decide) rfl rfl rfl rfl rfl rfl (Nat.le_of_ble_eq_true rfl) dX12_request_31 ⟨Nat.zero_le _, Nat.zero_le _⟩ ?_
      refine z_aload_n X dX12_request_34 rfl 0 rfl ?_
      refine z_iload_n X dX12_request_35 rfl 1 rfl ?_
      obtain ⟨o8, r9, hc10, hF⟩ := zb2_e hF
      refine z_Vi (As := [.int v1]) (rest := []) (wc := (w_X12_four cA h_t a_t o6)) (wc' := (w_X12_four cA h_t a_t o8)) (ws' := (w_X12_four cA h_t a_t o8)) (rv := r9) X (cwV 1 X.2.2.2.2.1 gX12_request_X12_logs rfl rfl rfl (by decide +kernel) (by rw [hR]; exact ⟨Nat.le_of_ble_eq_true rfl, Nat.le_of_ble_eq_true rfl⟩)) (fun sz => c_X12_logs l D cA g sz h_t a_t o6 v1 o8 r9 hc10) [0, 1, 2, 3, 4, 5, 6, 7, 8, 9, 10, 11, 12, 13, 14, 15, 16, 17, 18, 19, 20, 21] [1000, 1001, 1002, 1003, 1004, 1005, 1006, 1007, 1008, 1009, 1010, 1011, 1012, 1013, 1014, 1015, 1016, 1017, 1018, 1019, 1020, 1021] rfl (by decide) rfl (by decide) rfl rfl rfl rfl rfl rfl (Nat.le_of_ble_eq_true rfl) dX12_request_36 ⟨Nat.zero_le _, Nat.zero_le _⟩ ?_
      cases hF
      exact z_iret X hA hQ hr rfl dX12_request_39 (Nat.le_refl _) (Nat.le_refl _)
    · have hF := hF.1 c11
      refine z_bipush (v := (-3 : Int32)) X dX12_request_23 (by decide) ?_
      cases hF
      exact z_iret X hA hQ hr rfl dX12_request_25 (Nat.le_refl _) (Nat.le_refl _)
  · have hF := hF.1 c12
    refine z_bipush (v := (-2 : Int32)) X dX12_request_8 (by decide) ?_
    cases hF
    exact z_iret X hA hQ hr rfl dX12_request_10 (Nat.le_refl _) (Nat.le_refl _)
