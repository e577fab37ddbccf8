set_option maxRecDepth 20000 in
theorem h_X12_ride_X12 : ∀ w ∈ wsX120, w ∈ wsX12_ride := by decide +kernel
set_option maxRecDepth 20000 in
theorem k_X12_ride_69 : ZF wsX12_ride RX12 69 12 41 RX12 TX12 47 := ⟨rfl, by decide, h_X12_ride_X12, by decide +kernel⟩
set_option maxRecDepth 20000 in
theorem k_X12_ride_363 : ZF wsX12_ride RX12 363 12 42 RX12 TX12 47 := ⟨rfl, by decide, h_X12_ride_X12, by decide +kernel⟩
set_option maxHeartbeats 8000000 in
set_option maxRecDepth 100000 in
theorem c_X12_ride (l : Launch) (D : va_G) (cA : Nat → ClassId) (g : Nat → Nat) (sz : Nat) (h_t : Nat) (a_t : Nat → Nat) (o_t : Ob) (v1 : Int32) (rv : Int32) (hF : f_X12_ride o_t v1 = some rv) : Met l yX12_ride wsX12_ride ({ frames := 1, cells := 0, slots := 0, locals := 22 }) (va_Pc [.ref h_t, .int v1] (PreW D cA g sz (w_X12_four cA h_t a_t o_t))) (va_Qi (fun (r : Int32) (_ : Unit) => r = rv) (PostW D cA sz (w_X12_four cA h_t a_t o_t) (w_X12_four cA h_t a_t o_t)) (va_A (w_X12_four cA h_t a_t o_t) sz)) 0 0 (va_A (w_X12_four cA h_t a_t o_t) sz) := by
  refine z_start (cc := cX12_ride) (maxL := 2) (ret := (some .int)) (lv0 := [(0, .ref h_t), (1, .int v1)]) (Qc := fun sz => va_Qi (fun (r : Int32) (_ : Unit) => r = rv) (PostW D cA sz (w_X12_four cA h_t a_t o_t) (w_X12_four cA h_t a_t o_t)) (va_A (w_X12_four cA h_t a_t o_t) sz)) (free := fun sz => va_A (w_X12_four cA h_t a_t o_t) sz) (by decide +kernel) rfl rfl (Nat.le_of_ble_eq_true rfl) ?_
  intro p e R s m args below meth c A Q hR hA hQ X hr hin
  unfold f_X12_ride at hF
  refine z_iload_n X dX12_ride_0 rfl 1 rfl ?_
  refine z_iconst (v := (0 : Int32)) X dX12_ride_1 (by decide) ?_
  refine z_aload_n X dX12_ride_2 rfl 0 rfl ?_
  refine z_get (v := .int (o_t 42 0)) X k_X12_ride_363 0 rfl rfl dX12_ride_3 ?_
  refine z_iconst (v := (1 : Int32)) X dX12_ride_6 (by decide) ?_
  refine z_isub X dX12_ride_7 ?_
  obtain ⟨r1, hc2, hF⟩ := zb1_e hF
  refine z_Si (As := [.int v1, .int (0 : Int32), .int ((o_t 42 0) - (1 : Int32))]) (rest := []) (wc := ([] : va_W)) (wc' := ([] : va_W)) (ws' := (w_X12_four cA h_t a_t o_t)) (rv := r1) X (va_cwS 3 X.2.2.2.2.1 gX12_ride_X12_isIn rfl rfl rfl (by decide +kernel) (by rw [hR]; exact ⟨Nat.le_of_ble_eq_true rfl, Nat.le_of_ble_eq_true rfl⟩)) (fun sz => c_X12_isIn l D cA g sz v1 (0 : Int32) ((o_t 42 0) - (1 : Int32)) r1 hc2) [] [0, 1, 2, 3, 4, 5, 6, 7, 8, 9, 10, 11, 12, 13, 14, 15, 16, 17, 18, 19, 20, 21] rfl (by decide) rfl (by decide) rfl rfl rfl (Nat.le_of_ble_eq_true rfl) dX12_ride_8 ⟨Nat.zero_le _, Nat.zero_le _⟩ ?_
  have hF := if_e hF
  refine z_if_eq (tgt := 23) X dX12_ride_11 (by decide) (fun c4 => ?_) (fun c4 => ?_)
  · have hF := hF.1 c4
    refine z_iconst (v := (-1 : Int32)) X dX12_ride_23 (by decide) ?_
    cases hF
    exact z_iret X hA hQ hr rfl dX12_ride_24 (Nat.le_refl _) (Nat.le_refl _)
  · have hF := hF.2 c4
    refine z_aload_n X dX12_ride_14 rfl 0 rfl ?_
    refine z_get (v := .ref (a_t 41)) X k_X12_ride_69 0 rfl rfl dX12_ride_15 ?_
    refine z_iload_n X dX12_ride_18 rfl 1 rfl ?_
    obtain ⟨g3, hF⟩ := gi_e hF
    refine z_iald X 20 rfl g3 dX12_ride_19 ?_
    refine z_goto (tgt := 24) X dX12_ride_20 (by decide) ?_
    cases hF
    exact z_iret X hA hQ hr rfl dX12_ride_24 (Nat.le_refl _) (Nat.le_refl _)
set_option maxRecDepth 20000 in
theorem h_X12_shift_X12 : ∀ w ∈ wsX120, w ∈ wsX12_shift := by decide +kernel
set_option maxRecDepth 20000 in
theorem k_X12_shift_7 : ZF wsX12_shift RX12 7 12 0 RX12 TX12 47 := ⟨rfl, by decide, h_X12_shift_X12, by decide +kernel⟩
set_option maxRecDepth 20000 in
theorem k_X12_shift_72 : ZF wsX12_shift RX12 72 12 45 RX12 TX12 47 := ⟨rfl, by decide, h_X12_shift_X12, by decide +kernel⟩
set_option maxRecDepth 20000 in
theorem k_X12_shift_347 : ZF wsX12_shift RX12 347 12 43 RX12 TX12 47 := ⟨rfl, by decide, h_X12_shift_X12, by decide +kernel⟩
set_option maxHeartbeats 8000000 in
set_option maxRecDepth 100000 in
theorem c_X12_shift (l : Launch) (D : va_G) (cA : Nat → ClassId) (g : Nat → Nat) (sz : Nat) (h_t : Nat) (a_t : Nat → Nat) (o_t : Ob) (v1 : Int32) (v2 : Int32) (o_t' : Ob) (rv : Int32) (hF : f_X12_shift o_t v1 v2 = some (o_t', rv)) : Met l yX12_shift wsX12_shift ({ frames := 5, cells := 0, slots := 0, locals := 115 }) (va_Pc [.ref h_t, .int v1, .int v2] (PreW D cA g sz (w_X12_four cA h_t a_t o_t))) (va_Qi (fun (r : Int32) (_ : Unit) => r = rv) (PostW D cA sz (w_X12_four cA h_t a_t o_t) (w_X12_four cA h_t a_t o_t')) (va_A (w_X12_four cA h_t a_t o_t) sz)) 0 0 (va_A (w_X12_four cA h_t a_t o_t) sz) := by
  refine z_start (cc := cX12_shift) (maxL := 8) (ret := (some .int)) (lv0 := [(0, .ref h_t), (1, .int v1), (2, .int v2)]) (Qc := fun sz => va_Qi (fun (r : Int32) (_ : Unit) => r = rv) (PostW D cA sz (w_X12_four cA h_t a_t o_t) (w_X12_four cA h_t a_t o_t')) (va_A (w_X12_four cA h_t a_t o_t) sz)) (free := fun sz => va_A (w_X12_four cA h_t a_t o_t) sz) (by decide +kernel) rfl rfl (Nat.le_of_ble_eq_true rfl) ?_
  intro p e R s m args below meth c A Q hR hA hQ X hr hin
  unfold f_X12_shift at hF
  refine z_aload_n X dX12_shift_0 rfl 0 rfl ?_
  refine z_iload_n X dX12_shift_1 rfl 1 rfl ?_
  refine z_iload_n X dX12_shift_2 rfl 2 rfl ?_
  obtain ⟨r1, hc2, hF⟩ := zb1_e hF
  refine z_Vi (As := [.int v1, .int v2]) (rest := []) (wc := (w_X12_four cA h_t a_t o_t)) (wc' := (w_X12_four cA h_t a_t o_t)) (ws' := (w_X12_four cA h_t a_t o_t)) (rv := r1) X (cwV 2 X.2.2.2.2.1 gX12_shift_X12_canShift rfl rfl rfl (by decide +kernel) (by rw [hR]; exact ⟨Nat.le_of_ble_eq_true rfl, Nat.le_of_ble_eq_true rfl⟩)) (fun sz => c_X12_canShift l D cA g sz h_t a_t o_t v1 v2 r1 hc2) [0, 1, 2, 3, 4, 5, 6, 7, 8, 9, 10, 11, 12, 13, 14, 15, 16, 17, 18, 19, 20, 21] [1000, 1001, 1002, 1003, 1004, 1005, 1006, 1007, 1008, 1009, 1010, 1011, 1012, 1013, 1014, 1015, 1016, 1017, 1018, 1019, 1020, 1021] rfl (by decide) rfl (by decide) rfl rfl rfl rfl rfl rfl (Nat.le_of_ble_eq_true rfl) dX12_shift_3 ⟨Nat.zero_le _, Nat.zero_le _⟩ ?_
  have hF := if_e hF
  refine z_if_ne (tgt := 11) X dX12_shift_6 (by decide) (fun c142 => ?_) (fun c142 => ?_)
  · have hF := hF.2 c142
    refine z_iload_n X dX12_shift_11 rfl 1 rfl ?_
    refine z_aload_n X dX12_shift_12 rfl 0 rfl ?_
    refine z_get (v := .ref (a_t 0)) X k_X12_shift_7 0 rfl rfl dX12_shift_13 ?_
    refine z_iconst (v := (3 : Int32)) X dX12_shift_16 (by decide) ?_
    obtain ⟨g3, hF⟩ := gi_e hF
    refine z_iald X 1 rfl g3 dX12_shift_17 ?_
    have hF := if_e hF
    refine z_icmp_ne (tgt := 23) X dX12_shift_18 (by decide) (fun c141 => ?_) (fun c141 => ?_)
    · have hF := hF.2 c141
      refine z_aload_n X dX12_shift_23 rfl 0 rfl ?_
      refine z_iload_n X dX12_shift_24 rfl 1 rfl ?_
      refine z_iload_n X dX12_shift_25 rfl 2 rfl ?_
      refine z_aload_n X dX12_shift_26 rfl 0 rfl ?_
      refine z_get (v := .ref (a_t 45)) X k_X12_shift_72 0 rfl rfl dX12_shift_27 ?_
      obtain ⟨o4, r5, hc6, hF⟩ := zb2_e hF
      refine z_Vi (As := [.int v1, .int v2, .ref (a_t 45)]) (rest := []) (wc := (w_X12_four cA h_t a_t o_t)) (wc' := (w_X12_four cA h_t a_t o4)) (ws' := (w_X12_four cA h_t a_t o4)) (rv := r5) X (cwV 3 X.2.2.2.2.1 gX12_shift_X12_laysRides rfl rfl rfl (by decide +kernel) (by rw [hR]; exact ⟨Nat.le_of_ble_eq_true rfl, Nat.le_of_ble_eq_true rfl⟩)) (fun sz => c_X12_laysRides__g l D cA g sz h_t a_t o_t v1 v2 o4 r5 hc6) [0, 1, 2, 3, 4, 5, 6, 7, 8, 9, 10, 11, 12, 13, 14, 15, 16, 17, 18, 19, 20, 21] [1000, 1001, 1002, 1003, 1004, 1005, 1006, 1007, 1008, 1009, 1010, 1011, 1012, 1013, 1014, 1015, 1016, 1017, 1018, 1019, 1020, 1021] rfl (by decide) rfl (by decide) rfl rfl rfl rfl rfl rfl (Nat.le_of_ble_eq_true rfl) dX12_shift_30 ⟨Nat.zero_le _, Nat.zero_le _⟩ ?_
      refine z_istore_n (lv' := [(3, .int r5), (0, .ref h_t), (1, .int v1), (2, .int v2)]) X dX12_shift_33 rfl (by decide) rfl ?_
      refine z_aload_n X dX12_shift_34 rfl 1 rfl ?_
      refine z_get (v := .int (o4 43 0)) X k_X12_shift_347 0 rfl rfl dX12_shift_35 ?_
      obtain ⟨r7, hc8, hF⟩ := zb1_e hF
      refine z_Si (As := [.int (o4 43 0)]) (rest := []) (wc := ([] : va_W)) (wc' := ([] : va_W)) (ws' := (w_X12_four cA h_t a_t o4)) (rv := r7) X (va_cwS 1 X.2.2.2.2.1 gX12_shift_X12_ones rfl rfl rfl (by decide +kernel) (by rw [hR]; exact ⟨Nat.le_of_ble_eq_true rfl, Nat.le_of_ble_eq_true rfl⟩)) (fun sz => c_X12_ones l D cA g sz (o4 43 0) r7 hc8) [] [0, 1, 2, 3, 4, 5, 6, 7, 8, 9, 10, 11, 12, 13, 14, 15, 16, 17, 18, 19, 20, 21] rfl (by decide) rfl (by decide) rfl rfl rfl (Nat.le_of_ble_eq_true rfl) dX12_shift_38 ⟨Nat.zero_le _, Nat.zero_le _⟩ ?_
      refine z_istore (lv' := [(4, .int r7), (3, .int r5), (0, .ref h_t), (1, .int v1), (2, .int v2)]) X dX12_shift_41 (by decide) rfl ?_
      refine z_aload_n X dX12_shift_43 rfl 2 rfl ?_
      obtain ⟨o9, hc10, hF⟩ := zb1_e hF
      refine z_Vv (As := []) (rest := []) (wc := (w_X12_four cA h_t a_t o4)) (wc' := (w_X12_four cA h_t a_t o9)) (ws' := (w_X12_four cA h_t a_t o9)) X (cwV 0 X.2.2.2.2.1 gX12_shift_X12_call rfl rfl rfl (by decide +kernel) (by rw [hR]; exact ⟨Nat.le_of_ble_eq_true rfl, Nat.le_of_ble_eq_true rfl⟩)) (fun sz => c_X12_call l D cA g sz h_t a_t o4 o9 hc10) [0, 1, 2, 3, 4, 5, 6, 7, 8, 9, 10, 11, 12, 13, 14, 15, 16, 17, 18, 19, 20, 21] [1000, 1001, 1002, 1003, 1004, 1005, 1006, 1007, 1008, 1009, 1010, 1011, 1012, 1013, 1014, 1015, 1016, 1017, 1018, 1019, 1020, 1021] rfl (by decide) rfl (by decide) rfl rfl rfl rfl rfl rfl (Nat.le_of_ble_eq_true rfl) dX12_shift_44 ⟨Nat.zero_le _, Nat.zero_le _⟩ ?_
      refine z_aload_n X dX12_shift_47 rfl 2 rfl ?_
      obtain ⟨o11, hc12, hF⟩ := zb1_e hF
      refine z_Vv (As := []) (rest := []) (wc := (w_X12_four cA h_t a_t o9)) (wc' := (w_X12_four cA h_t a_t o11)) (ws' := (w_X12_four cA h_t a_t o11)) X (cwV 0 X.2.2.2.2.1 gX12_shift_X12_keeps rfl rfl rfl (by decide +kernel) (by rw [hR]; exact ⟨Nat.le_of_ble_eq_true rfl, Nat.le_of_ble_eq_true rfl⟩)) (fun sz => c_X12_keeps l D cA g sz h_t a_t o9 o11 hc12) [0, 1, 2, 3, 4, 5, 6, 7, 8, 9, 10, 11, 12, 13, 14, 15, 16, 17, 18, 19, 20, 21] [1000, 1001, 1002, 1003, 1004, 1005, 1006, 1007, 1008, 1009, 1010, 1011, 1012, 1013, 1014, 1015, 1016, 1017, 1018, 1019, 1020, 1021] rfl (by decide) rfl (by decide) rfl rfl rfl rfl rfl rfl (Nat.le_of_ble_eq_true rfl) dX12_shift_48 ⟨Nat.zero_le _, Nat.zero_le _⟩ ?_
      refine z_iconst (v := (0 : Int32)) X dX12_shift_51 (by decide) ?_
      refine z_istore (lv' := [(5, .int (0 : Int32)), (4, .int r7), (3, .int r5), (0, .ref h_t), (1, .int v1), (2, .int v2)]) X dX12_shift_52 (by decide) rfl ?_
      obtain ⟨o77, hL, hF⟩ := zb1_e hF
      have L78_x : ∀ (o77' : Ob), o77' = o77 → ZW p l e R s m args below meth c D A 8 0 0 Q (w_X12_four cA h_t a_t o77') [(4, .int r7)] 164 [] := by
        intro o77' hz
        cases hz
        refine z_iload X dX12_shift_164 0 rfl ?_
        cases hF
        exact z_iret X hA hQ hr rfl dX12_shift_166 (Nat.le_refl _) (Nat.le_refl _)
      obtain ⟨B140, hBB140, hL⟩ := zl2_b hL
      have L78 : ∀ (n : Nat) (o75 : Ob) (k76 : Int32), zl2 B140 n o75 k76 = some o77 → ZW p l e R s m args below meth c D A 8 0 0 Q (w_X12_four cA h_t a_t o75) [(0, .ref h_t), (3, .int r5), (4, .int r7), (5, .int k76)] 54 [] := by
        intro n
        induction n with
        | zero => intro o75 k76 hL; cases hL
        | succ n ih =>
          intro o75 k76 hL
          obtain ⟨zz79, hF, hL⟩ := zl2_e hL
          rw [hBB140] at hF
          refine z_iload X dX12_shift_54 3 rfl ?_
          refine z_iload_n X dX12_shift_56 rfl 1 rfl ?_
          have hF := if_e hF
          refine z_icmp_ge (tgt := 164) X dX12_shift_57 (by decide) (fun c139 => ?_) (fun c139 => ?_)
          · have hF := hF.1 c139
            cases hF
            have hL := Option.some.inj hL
            refine z_lv (lv' := [(4, .int r7)]) [2] rfl ?_
            exact L78_x o75 hL
          · have hF := hF.2 c139
            refine z_aload_n X dX12_shift_60 rfl 0 rfl ?_
            refine z_get (v := .ref (a_t 0)) X k_X12_shift_7 0 rfl rfl dX12_shift_61 ?_
            refine z_iconst (v := (3 : Int32)) X dX12_shift_64 (by decide) ?_
            obtain ⟨g80, hF⟩ := gi_e hF
            refine z_iald X 1 rfl g80 dX12_shift_65 ?_
            obtain ⟨x81, ex81, hF⟩ := nx_e hF
            refine z_nm ex81 ?_
            refine z_istore (lv' := [(6, .int x81), (0, .ref h_t), (3, .int r5), (4, .int r7), (5, .int k76)]) X dX12_shift_66 (by decide) rfl ?_
            refine z_iconst (v := (0 : Int32)) X dX12_shift_68 (by decide) ?_
            refine z_istore (lv' := [(7, .int (0 : Int32)), (6, .int x81), (0, .ref h_t), (3, .int r5), (4, .int r7), (5, .int k76)]) X dX12_shift_69 (by decide) rfl ?_
            obtain ⟨o96, hL, hF⟩ := zb1_e hF
            have L126_x : ∀ (o96' : Ob), o96' = o96 → ZW p l e R s m args below meth c D A 8 0 0 Q (w_X12_four cA h_t a_t o96') [(0, .ref h_t), (3, .int r5), (4, .int r7), (5, .int k76), (6, .int x81)] 112 [] := by
              intro o96' hz
              cases hz
              refine z_iconst (v := (0 : Int32)) X dX12_shift_112 (by decide) ?_
              refine z_istore (lv' := [(7, .int (0 : Int32)), (0, .ref h_t), (3, .int r5), (4, .int r7), (5, .int k76), (6, .int x81)]) X dX12_shift_113 (by decide) rfl ?_
              obtain ⟨o111, hL, hF⟩ := zb1_e hF
              have L113_x : ∀ (o111' : Ob), o111' = o111 → ZW p l e R s m args below meth c D A 8 0 0 Q (w_X12_four cA h_t a_t o111') [(0, .ref h_t), (3, .int r5), (4, .int r7), (5, .int k76)] 158 [] := by
                intro o111' hz
                cases hz
                obtain ⟨x112, ex112, hF⟩ := nx_e hF
                refine z_iinc (v := x112) (lv' := [(5, .int x112), (0, .ref h_t), (3, .int r5), (4, .int r7)]) (j := 3) X dX12_shift_158 rfl (by rw [ex112]; rfl) (by decide) rfl ?_
                refine z_goto (tgt := 54) X dX12_shift_161 (by decide) ?_
                cases hF
                refine z_lv (lv' := [(0, .ref h_t), (3, .int r5), (4, .int r7), (5, .int x112)]) [1, 2, 3, 0] rfl ?_
                exact ih o111 x112 hL
              obtain ⟨B125, hBB125, hL⟩ := zl2_b hL
              have L113 : ∀ (n : Nat) (o109 : Ob) (k110 : Int32), zl2 B125 n o109 k110 = some o111 → ZW p l e R s m args below meth c D A 8 0 0 Q (w_X12_four cA h_t a_t o109) [(0, .ref h_t), (3, .int r5), (4, .int r7), (5, .int k76), (6, .int x81), (7, .int k110)] 115 [] := by
                intro n
                induction n with
                | zero => intro o109 k110 hL; cases hL
                | succ n ih =>
                  intro o109 k110 hL
                  obtain ⟨zz114, hF, hL⟩ := zl2_e hL
                  rw [hBB125] at hF
                  refine z_iload X dX12_shift_115 5 rfl ?_
                  refine z_aload_n X dX12_shift_117 rfl 0 rfl ?_
                  refine z_get (v := .ref (a_t 0)) X k_X12_shift_7 0 rfl rfl dX12_shift_118 ?_
                  refine z_iconst (v := (2 : Int32)) X dX12_shift_121 (by decide) ?_
                  obtain ⟨g115, hF⟩ := gi_e hF
                  refine z_iald X 1 rfl g115 dX12_shift_122 ?_
                  have hF := if_e hF
                  refine z_icmp_ge (tgt := 158) X dX12_shift_123 (by decide) (fun c124 => ?_) (fun c124 => ?_)
                  · have hF := hF.1 c124
                    cases hF
                    have hL := Option.some.inj hL
                    refine z_lv (lv' := [(0, .ref h_t), (3, .int r5), (4, .int r7), (5, .int k76)]) [0, 1, 2, 3] rfl ?_
                    exact L113_x o109 hL
                  · have hF := hF.2 c124
                    refine z_aload_n X dX12_shift_126 rfl 0 rfl ?_
                    refine z_get (v := .ref (a_t 45)) X k_X12_shift_72 0 rfl rfl dX12_shift_127 ?_
                    refine z_iload X dX12_shift_130 3 rfl ?_
                    obtain ⟨g116, hF⟩ := gi_e hF
                    refine z_iald X 21 rfl g116 dX12_shift_132 ?_
                    refine z_iload X dX12_shift_133 4 rfl ?_
                    refine z_iconst (v := (-1 : Int32)) X dX12_shift_135 (by decide) ?_
                    refine z_ixor X dX12_shift_136 ?_
                    refine z_iand X dX12_shift_137 ?_
                    refine z_iload X dX12_shift_138 5 rfl ?_
                    obtain ⟨r117, hc118, hF⟩ := zb1_e hF
                    refine z_Si (As := [.int ((o109 45 (Int32.toNatClampNeg k76)) &&& (x81 ^^^ (-1 : Int32))), .int k110]) (rest := []) (wc := ([] : va_W)) (wc' := ([] : va_W)) (ws' := (w_X12_four cA h_t a_t o109)) (rv := r117) X (va_cwS 2 X.2.2.2.2.1 gX12_shift_X12_bitOf rfl rfl rfl (by decide +kernel) (by rw [hR]; exact ⟨Nat.le_of_ble_eq_true rfl, Nat.le_of_ble_eq_true rfl⟩)) (fun sz => c_X12_bitOf l D cA g sz ((o109 45 (Int32.toNatClampNeg k76)) &&& (x81 ^^^ (-1 : Int32))) k110 r117 hc118) [] [0, 1, 2, 3, 4, 5, 6, 7, 8, 9, 10, 11, 12, 13, 14, 15, 16, 17, 18, 19, 20, 21] rfl (by decide) rfl (by decide) rfl rfl rfl (Nat.le_of_ble_eq_true rfl) dX12_shift_140 ⟨Nat.zero_le _, Nat.zero_le _⟩ ?_
                    have hF := if_e hF
                    refine z_if_eq (tgt := 152) X dX12_shift_143 (by decide) (fun c123 => ?_) (fun c123 => ?_)
                    · have hF := hF.1 c123
                      obtain ⟨x119, ex119, hF⟩ := nx_e hF
                      refine z_iinc (v := x119) (lv' := [(7, .int x119), (0, .ref h_t), (3, .int r5), (4, .int r7), (5, .int k76), (6, .int x81)]) (j := 5) X dX12_shift_152 rfl (by rw [ex119]; rfl) (by decide) rfl ?_
                      refine z_goto (tgt := 115) X dX12_shift_155 (by decide) ?_
                      cases hF
                      refine z_lv (lv' := [(0, .ref h_t), (3, .int r5), (4, .int r7), (5, .int k76), (6, .int x81), (7, .int x119)]) [1, 2, 3, 4, 5, 0] rfl ?_
                      exact ih o109 x119 hL
                    · have hF := hF.2 c123
                      refine z_aload_n X dX12_shift_146 rfl 0 rfl ?_
                      refine z_iload X dX12_shift_147 5 rfl ?_
                      obtain ⟨o120, hc121, hF⟩ := zb1_e hF
                      refine z_Vv (As := [.int k110]) (rest := []) (wc := (w_X12_four cA h_t a_t o109)) (wc' := (w_X12_four cA h_t a_t o120)) (ws' := (w_X12_four cA h_t a_t o120)) X (cwV 1 X.2.2.2.2.1 gX12_shift_X12_up rfl rfl rfl (by decide +kernel) (by rw [hR]; exact ⟨Nat.le_of_ble_eq_true rfl, Nat.le_of_ble_eq_true rfl⟩)) (fun sz => c_X12_up l D cA g sz h_t a_t o109 k110 o120 hc121) [0, 1, 2, 3, 4, 5, 6, 7, 8, 9, 10, 11, 12, 13, 14, 15, 16, 17, 18, 19, 20, 21] [1000, 1001, 1002, 1003, 1004, 1005, 1006, 1007, 1008, 1009, 1010, 1011, 1012, 1013, 1014, 1015, 1016, 1017, 1018, 1019, 1020, 1021] rfl (by decide) rfl (by decide) rfl rfl rfl rfl rfl rfl (Nat.le_of_ble_eq_true rfl) dX12_shift_149 ⟨Nat.zero_le _, Nat.zero_le _⟩ ?_
                      obtain ⟨x122, ex122, hF⟩ := nx_e hF
                      refine z_iinc (v := x122) (lv' := [(7, .int x122), (0, .ref h_t), (3, .int r5), (4, .int r7), (5, .int k76), (6, .int x81)]) (j := 5) X dX12_shift_152 rfl (by rw [ex122]; rfl) (by decide) rfl ?_
                      refine z_goto (tgt := 115) X dX12_shift_155 (by decide) ?_
                      cases hF
                      refine z_lv (lv' := [(0, .ref h_t), (3, .int r5), (4, .int r7), (5, .int k76), (6, .int x81), (7, .int x122)]) [1, 2, 3, 4, 5, 0] rfl ?_
                      exact ih o120 x122 hL
              refine z_lv (lv' := [(0, .ref h_t), (3, .int r5), (4, .int r7), (5, .int k76), (6, .int x81), (7, .int (0 : Int32))]) [1, 2, 3, 4, 5, 0] rfl ?_
              exact L113 FU o96 (0 : Int32) hL
            obtain ⟨B138, hBB138, hL⟩ := zl2_b hL
            have L126 : ∀ (n : Nat) (o94 : Ob) (k95 : Int32), zl2 B138 n o94 k95 = some o96 → ZW p l e R s m args below meth c D A 8 0 0 Q (w_X12_four cA h_t a_t o94) [(0, .ref h_t), (3, .int r5), (4, .int r7), (5, .int k76), (6, .int x81), (7, .int k95)] 71 [] := by
              intro n
              induction n with
              | zero => intro o94 k95 hL; cases hL
              | succ n ih =>
                intro o94 k95 hL
                obtain ⟨zz127, hF, hL⟩ := zl2_e hL
                rw [hBB138] at hF
                refine z_iload X dX12_shift_71 5 rfl ?_
                refine z_aload_n X dX12_shift_73 rfl 0 rfl ?_
                refine z_get (v := .ref (a_t 0)) X k_X12_shift_7 0 rfl rfl dX12_shift_74 ?_
                refine z_iconst (v := (2 : Int32)) X dX12_shift_77 (by decide) ?_
                obtain ⟨g128, hF⟩ := gi_e hF
                refine z_iald X 1 rfl g128 dX12_shift_78 ?_
                have hF := if_e hF
                refine z_icmp_ge (tgt := 112) X dX12_shift_79 (by decide) (fun c137 => ?_) (fun c137 => ?_)
                · have hF := hF.1 c137
                  cases hF
                  have hL := Option.some.inj hL
                  refine z_lv (lv' := [(0, .ref h_t), (3, .int r5), (4, .int r7), (5, .int k76), (6, .int x81)]) [0, 1, 2, 3, 4] rfl ?_
                  exact L126_x o94 hL
                · have hF := hF.2 c137
                  refine z_aload_n X dX12_shift_82 rfl 0 rfl ?_
                  refine z_get (v := .ref (a_t 45)) X k_X12_shift_72 0 rfl rfl dX12_shift_83 ?_
                  refine z_iload X dX12_shift_86 3 rfl ?_
                  obtain ⟨g129, hF⟩ := gi_e hF
                  refine z_iald X 21 rfl g129 dX12_shift_88 ?_
                  refine z_iload X dX12_shift_89 4 rfl ?_
                  refine z_iand X dX12_shift_91 ?_
                  refine z_iload X dX12_shift_92 5 rfl ?_
                  obtain ⟨r130, hc131, hF⟩ := zb1_e hF
                  refine z_Si (As := [.int ((o94 45 (Int32.toNatClampNeg k76)) &&& x81), .int k95]) (rest := []) (wc := ([] : va_W)) (wc' := ([] : va_W)) (ws' := (w_X12_four cA h_t a_t o94)) (rv := r130) X (va_cwS 2 X.2.2.2.2.1 gX12_shift_X12_bitOf rfl rfl rfl (by decide +kernel) (by rw [hR]; exact ⟨Nat.le_of_ble_eq_true rfl, Nat.le_of_ble_eq_true rfl⟩)) (fun sz => c_X12_bitOf l D cA g sz ((o94 45 (Int32.toNatClampNeg k76)) &&& x81) k95 r130 hc131) [] [0, 1, 2, 3, 4, 5, 6, 7, 8, 9, 10, 11, 12, 13, 14, 15, 16, 17, 18, 19, 20, 21] rfl (by decide) rfl (by decide) rfl rfl rfl (Nat.le_of_ble_eq_true rfl) dX12_shift_94 ⟨Nat.zero_le _, Nat.zero_le _⟩ ?_
                  have hF := if_e hF
                  refine z_if_eq (tgt := 106) X dX12_shift_97 (by decide) (fun c136 => ?_) (fun c136 => ?_)
                  · have hF := hF.1 c136
                    obtain ⟨x132, ex132, hF⟩ := nx_e hF
                    refine z_iinc (v := x132) (lv' := [(7, .int x132), (0, .ref h_t), (3, .int r5), (4, .int r7), (5, .int k76), (6, .int x81)]) (j := 5) X dX12_shift_106 rfl (by rw [ex132]; rfl) (by decide) rfl ?_
                    refine z_goto (tgt := 71) X dX12_shift_109 (by decide) ?_
                    cases hF
                    refine z_lv (lv' := [(0, .ref h_t), (3, .int r5), (4, .int r7), (5, .int k76), (6, .int x81), (7, .int x132)]) [1, 2, 3, 4, 5, 0] rfl ?_
                    exact ih o94 x132 hL
                  · have hF := hF.2 c136
                    refine z_aload_n X dX12_shift_100 rfl 0 rfl ?_
                    refine z_iload X dX12_shift_101 5 rfl ?_
                    obtain ⟨o133, hc134, hF⟩ := zb1_e hF
                    refine z_Vv (As := [.int k95]) (rest := []) (wc := (w_X12_four cA h_t a_t o94)) (wc' := (w_X12_four cA h_t a_t o133)) (ws' := (w_X12_four cA h_t a_t o133)) X (cwV 1 X.2.2.2.2.1 gX12_shift_X12_down rfl rfl rfl (by decide +kernel) (by rw [hR]; exact ⟨Nat.le_of_ble_eq_true rfl, Nat.le_of_ble_eq_true rfl⟩)) (fun sz => c_X12_down l D cA g sz h_t a_t o94 k95 o133 hc134) [0, 1, 2, 3, 4, 5, 6, 7, 8, 9, 10, 11, 12, 13, 14, 15, 16, 17, 18, 19, 20, 21] [1000, 1001, 1002, 1003, 1004, 1005, 1006, 1007, 1008, 1009, 1010, 1011, 1012, 1013, 1014, 1015, 1016, 1017, 1018, 1019, 1020, 1021] rfl (by decide) rfl (by decide) rfl rfl rfl rfl rfl rfl (Nat.le_of_ble_eq_true rfl) dX12_shift_103 ⟨Nat.zero_le _, Nat.zero_le _⟩ ?_
                    obtain ⟨x135, ex135, hF⟩ := nx_e hF
                    refine z_iinc (v := x135) (lv' := [(7, .int x135), (0, .ref h_t), (3, .int r5), (4, .int r7), (5, .int k76), (6, .int x81)]) (j := 5) X dX12_shift_106 rfl (by rw [ex135]; rfl) (by decide) rfl ?_
                    refine z_goto (tgt := 71) X dX12_shift_109 (by decide) ?_
                    cases hF
                    refine z_lv (lv' := [(0, .ref h_t), (3, .int r5), (4, .int r7), (5, .int k76), (6, .int x81), (7, .int x135)]) [1, 2, 3, 4, 5, 0] rfl ?_
                    exact ih o133 x135 hL
            refine z_lv (lv' := [(0, .ref h_t), (3, .int r5), (4, .int r7), (5, .int k76), (6, .int x81), (7, .int (0 : Int32))]) [2, 3, 4, 5, 1, 0] rfl ?_
            exact L126 FU o75 (0 : Int32) hL
      refine z_lv (lv' := [(0, .ref h_t), (3, .int r5), (4, .int r7), (5, .int (0 : Int32))]) [3, 2, 1, 0] rfl ?_
      exact L78 FU o11 (0 : Int32) hL
    · have hF := hF.1 c141
      refine z_iconst (v := (0 : Int32)) X dX12_shift_21 (by decide) ?_
      cases hF
      exact z_iret X hA hQ hr rfl dX12_shift_22 (Nat.le_refl _) (Nat.le_refl _)
  · have hF := hF.1 c142
    refine z_iconst (v := (-1 : Int32)) X dX12_shift_9 (by decide) ?_
    cases hF
    exact z_iret X hA hQ hr rfl dX12_shift_10 (Nat.le_refl _) (Nat.le_refl _)
set_option maxRecDepth 20000 in
theorem h_X12_draw_X12 : ∀ w ∈ wsX120, w ∈ wsX12_draw := by decide +kernel
set_option maxRecDepth 20000 in
theorem k_X12_draw_366 : ZF wsX12_draw RX12 366 12 46 RX12 TX12 47 := ⟨rfl, by decide, h_X12_draw_X12, by decide +kernel⟩
set_option maxRecDepth 20000 in
theorem k_X12_draw_c369 : Cond.constant RX12 369 (1103515245) ∈ wsX12_draw := by decide +kernel
set_option maxHeartbeats 8000000 in
set_option maxRecDepth 100000 in
theorem c_X12_draw (l : Launch) (D : va_G) (cA : Nat → ClassId) (g : Nat → Nat) (sz : Nat) (h_t : Nat) (a_t : Nat → Nat) (o_t : Ob) (v1 : Int32) (o_t' : Ob) (rv : Int32) (hF : f_X12_draw o_t v1 = some (o_t', rv)) : Met l yX12_draw wsX12_draw ({ frames := 0, cells := 0, slots := 0, locals := 0 }) (va_Pc [.ref h_t, .int v1] (PreW D cA g sz (w_X12_four cA h_t a_t o_t))) (va_Qi (fun (r : Int32) (_ : Unit) => r = rv) (PostW D cA sz (w_X12_four cA h_t a_t o_t) (w_X12_four cA h_t a_t o_t')) (va_A (w_X12_four cA h_t a_t o_t) sz)) 0 0 (va_A (w_X12_four cA h_t a_t o_t) sz) := by
  refine z_start (cc := cX12_draw) (maxL := 2) (ret := (some .int)) (lv0 := [(0, .ref h_t), (1, .int v1)]) (Qc := fun sz => va_Qi (fun (r : Int32) (_ : Unit) => r = rv) (PostW D cA sz (w_X12_four cA h_t a_t o_t) (w_X12_four cA h_t a_t o_t')) (va_A (w_X12_four cA h_t a_t o_t) sz)) (free := fun sz => va_A (w_X12_four cA h_t a_t o_t) sz) (by decide +kernel) rfl rfl (Nat.le_of_ble_eq_true rfl) ?_
  intro p e R s m args below meth c A Q hR hA hQ X hr hin
  unfold f_X12_draw at hF
  refine z_aload_n X dX12_draw_0 rfl 0 rfl ?_
  refine z_aload_n X dX12_draw_1 rfl 0 rfl ?_
  refine z_get (v := .int (o_t 46 0)) X k_X12_draw_366 0 rfl rfl dX12_draw_2 ?_
  refine z_ldcw X k_X12_draw_c369 dX12_draw_5 ?_
  refine z_imul X dX12_draw_8 ?_
  refine z_sipush (v := (12345 : Int32)) X dX12_draw_9 (by decide) ?_
  refine z_iadd X dX12_draw_12 ?_
  obtain ⟨o1, eo1, hF⟩ := nx_e hF
  refine z_put (ws' := (w_X12_four cA h_t a_t o1)) X k_X12_draw_366 tyX12 tyX12_ok nmX12 rfl rfl 0 rfl (Nat.le_of_ble_eq_true rfl) (by rw [eo1]; rfl) dX12_draw_13 ?_
  refine z_aload_n X dX12_draw_16 rfl 0 rfl ?_
  refine z_get (v := .int (o1 46 0)) X k_X12_draw_366 0 rfl rfl dX12_draw_17 ?_
  refine z_bipush (v := (8 : Int32)) X dX12_draw_20 (by decide) ?_
  refine z_iushr X dX12_draw_22 ?_
  refine z_iload_n X dX12_draw_23 rfl 1 rfl ?_
  obtain ⟨g2, hF⟩ := gn_e hF
  refine z_irem X g2 dX12_draw_24 ?_
  cases hF
  exact z_iret X hA hQ hr rfl dX12_draw_25 (Nat.le_refl _) (Nat.le_refl _)
set_option maxRecDepth 20000 in
theorem h_X12_drawn_X12 : ∀ w ∈ wsX120, w ∈ wsX12_drawn := by decide +kernel
set_option maxRecDepth 20000 in
theorem k_X12_drawn_7 : ZF wsX12_drawn RX12 7 12 0 RX12 TX12 47 := ⟨rfl, by decide, h_X12_drawn_X12, by decide +kernel⟩
set_option maxRecDepth 20000 in
theorem k_X12_drawn_366 : ZF wsX12_drawn RX12 366 12 46 RX12 TX12 47 := ⟨rfl, by decide, h_X12_drawn_X12, by decide +kernel⟩
set_option maxHeartbeats 8000000 in
set_option maxRecDepth 100000 in
theorem c_X12_drawn (l : Launch) (D : va_G) (cA : Nat → ClassId) (g : Nat → Nat) (sz : Nat) (h_t : Nat) (a_t : Nat → Nat) (o_t : Ob) (v1 : Int32) (v2 : Int32) (o_t' : Ob) (rv : Int32) (hF : f_X12_drawn o_t v1 v2 = some (o_t', rv)) : Met l yX12_drawn wsX12_drawn ({ frames := 6, cells := 0, slots := 0, locals := 139 }) (va_Pc [.ref h_t, .int v1, .int v2] (PreW D cA g sz (w_X12_four cA h_t a_t o_t))) (va_Qi (fun (r : Int32) (_ : Unit) => r = rv) (PostW D cA sz (w_X12_four cA h_t a_t o_t) (w_X12_four cA h_t a_t o_t')) (va_A (w_X12_four cA h_t a_t o_t) sz)) 0 0 (va_A (w_X12_four cA h_t a_t o_t) sz) := by
  refine z_start (cc := cX12_drawn) (maxL := 7) (ret := (some .int)) (lv0 := [(0, .ref h_t), (1, .int v1), (2, .int v2)]) (Qc := fun sz => va_Qi (fun (r : Int32) (_ : Unit) => r = rv) (PostW D cA sz (w_X12_four cA h_t a_t o_t) (w_X12_four cA h_t a_t o_t')) (va_A (w_X12_four cA h_t a_t o_t) sz)) (free := fun sz => va_A (w_X12_four cA h_t a_t o_t) sz) (by decide +kernel) rfl rfl (Nat.le_of_ble_eq_true rfl) ?_
  intro p e R s m args below meth c A Q hR hA hQ X hr hin
  unfold f_X12_drawn at hF
  refine z_iload_n X dX12_drawn_0 rfl 1 rfl ?_
  refine z_iconst (v := (1 : Int32)) X dX12_drawn_1 (by decide) ?_
  refine z_bipush (v := (40 : Int32)) X dX12_drawn_2 (by decide) ?_
  obtain ⟨r1, hc2, hF⟩ := zb1_e hF
  refine z_Si (As := [.int v1, .int (1 : Int32), .int (40 : Int32)]) (rest := []) (wc := ([] : va_W)) (wc' := ([] : va_W)) (ws' := (w_X12_four cA h_t a_t o_t)) (rv := r1) X (va_cwS 3 X.2.2.2.2.1 gX12_drawn_X12_isIn rfl rfl rfl (by decide +kernel) (by rw [hR]; exact ⟨Nat.le_of_ble_eq_true rfl, Nat.le_of_ble_eq_true rfl⟩)) (fun sz => c_X12_isIn l D cA g sz v1 (1 : Int32) (40 : Int32) r1 hc2) [] [0, 1, 2, 3, 4, 5, 6, 7, 8, 9, 10, 11, 12, 13, 14, 15, 16, 17, 18, 19, 20, 21] rfl (by decide) rfl (by decide) rfl rfl rfl (Nat.le_of_ble_eq_true rfl) dX12_drawn_4 ⟨Nat.zero_le _, Nat.zero_le _⟩ ?_
  have hF := if_e hF
  refine z_if_eq (tgt := 19) X dX12_drawn_7 (by decide) (fun c81 => ?_) (fun c81 => ?_)
  · have hF := hF.1 c81
    refine z_iconst (v := (-1 : Int32)) X dX12_drawn_19 (by decide) ?_
    cases hF
    exact z_iret X hA hQ hr rfl dX12_drawn_20 (Nat.le_refl _) (Nat.le_refl _)
  · have hF := hF.2 c81
    refine z_aload_n X dX12_drawn_10 rfl 0 rfl ?_
    refine z_get (v := .ref (a_t 0)) X k_X12_drawn_7 0 rfl rfl dX12_drawn_11 ?_
    refine z_iconst (v := (2 : Int32)) X dX12_drawn_14 (by decide) ?_
    obtain ⟨g3, hF⟩ := gi_e hF
    refine z_iald X 1 rfl g3 dX12_drawn_15 ?_
    have hF := if_e hF
    refine z_if_ne (tgt := 21) X dX12_drawn_16 (by decide) (fun c80 => ?_) (fun c80 => ?_)
    · have hF := hF.2 c80
      refine z_aload_n X dX12_drawn_21 rfl 0 rfl ?_
      obtain ⟨o4, hc5, hF⟩ := zb1_e hF
      refine z_Vv (As := []) (rest := []) (wc := (w_X12_four cA h_t a_t o_t)) (wc' := (w_X12_four cA h_t a_t o4)) (ws' := (w_X12_four cA h_t a_t o4)) X (cwV 0 X.2.2.2.2.1 gX12_drawn_X12_call rfl rfl rfl (by decide +kernel) (by rw [hR]; exact ⟨Nat.le_of_ble_eq_true rfl, Nat.le_of_ble_eq_true rfl⟩)) (fun sz => c_X12_call l D cA g sz h_t a_t o_t o4 hc5) [0, 1, 2, 3, 4, 5, 6, 7, 8, 9, 10, 11, 12, 13, 14, 15, 16, 17, 18, 19, 20, 21] [1000, 1001, 1002, 1003, 1004, 1005, 1006, 1007, 1008, 1009, 1010, 1011, 1012, 1013, 1014, 1015, 1016, 1017, 1018, 1019, 1020, 1021] rfl (by decide) rfl (by decide) rfl rfl rfl rfl rfl rfl (Nat.le_of_ble_eq_true rfl) dX12_drawn_22 ⟨Nat.zero_le _, Nat.zero_le _⟩ ?_
      refine z_aload_n X dX12_drawn_25 rfl 0 rfl ?_
      obtain ⟨o6, hc7, hF⟩ := zb1_e hF
      refine z_Vv (As := []) (rest := []) (wc := (w_X12_four cA h_t a_t o4)) (wc' := (w_X12_four cA h_t a_t o6)) (ws' := (w_X12_four cA h_t a_t o6)) X (cwV 0 X.2.2.2.2.1 gX12_drawn_X12_keeps rfl rfl rfl (by decide +kernel) (by rw [hR]; exact ⟨Nat.le_of_ble_eq_true rfl, Nat.le_of_ble_eq_true rfl⟩)) (fun sz => c_X12_keeps l D cA g sz h_t a_t o4 o6 hc7) [0, 1, 2, 3, 4, 5, 6, 7, 8, 9, 10, 11, 12, 13, 14, 15, 16, 17, 18, 19, 20, 21] [1000, 1001, 1002, 1003, 1004, 1005, 1006, 1007, 1008, 1009, 1010, 1011, 1012, 1013, 1014, 1015, 1016, 1017, 1018, 1019, 1020, 1021] rfl (by decide) rfl (by decide) rfl rfl rfl rfl rfl rfl (Nat.le_of_ble_eq_true rfl) dX12_drawn_26 ⟨Nat.zero_le _, Nat.zero_le _⟩ ?_
      refine z_aload_n X dX12_drawn_29 rfl 0 rfl ?_
      refine z_iload_n X dX12_drawn_30 rfl 2 rfl ?_
      obtain ⟨o8, eo8, hF⟩ := nx_e hF
      refine z_put (ws' := (w_X12_four cA h_t a_t o8)) X k_X12_drawn_366 tyX12 tyX12_ok nmX12 rfl rfl 0 rfl (Nat.le_of_ble_eq_true rfl) (by rw [eo8]; rfl) dX12_drawn_31 ?_
      refine z_iconst (v := (0 : Int32)) X dX12_drawn_34 (by decide) ?_
      refine z_istore_n (lv' := [(3, .int (0 : Int32)), (0, .ref h_t), (1, .int v1), (2, .int v2)]) X dX12_drawn_35 rfl (by decide) rfl ?_
      refine z_iconst (v := (0 : Int32)) X dX12_drawn_36 (by decide) ?_
      refine z_istore (lv' := [(4, .int (0 : Int32)), (3, .int (0 : Int32)), (0, .ref h_t), (1, .int v1), (2, .int v2)]) X dX12_drawn_37 (by decide) rfl ?_
      obtain ⟨o45, k46, hL, hF⟩ := zb2_e hF
      have L47_x : ∀ (o45' : Ob) (k46' : Int32), (o45', k46') = (o45, k46) → ZW p l e R s m args below meth c D A 7 0 0 Q (w_X12_four cA h_t a_t o45') [(3, .int k46')] 114 [] := by
        intro o45' k46' hz
        cases hz
        refine z_iload_n X dX12_drawn_114 rfl 0 rfl ?_
        cases hF
        exact z_iret X hA hQ hr rfl dX12_drawn_115 (Nat.le_refl _) (Nat.le_refl _)
      obtain ⟨B79, hBB79, hL⟩ := zl3_b hL
      have L47 : ∀ (n : Nat) (o42 : Ob) (k43 : Int32) (k44 : Int32), zl3 B79 n o42 k43 k44 = some (o45, k46) → ZW p l e R s m args below meth c D A 7 0 0 Q (w_X12_four cA h_t a_t o42) [(0, .ref h_t), (1, .int v1), (3, .int k43), (4, .int k44)] 39 [] := by
        intro n
        induction n with
        | zero => intro o42 k43 k44 hL; cases hL
        | succ n ih =>
          intro o42 k43 k44 hL
          obtain ⟨zz48, hF, hL⟩ := zl3_e hL
          rw [hBB79] at hF
          refine z_iload X dX12_drawn_39 3 rfl ?_
          refine z_iload_n X dX12_drawn_41 rfl 1 rfl ?_
          have hF := if_e hF
          refine z_icmp_ge (tgt := 114) X dX12_drawn_42 (by decide) (fun c78 => ?_) (fun c78 => ?_)
          · have hF := hF.1 c78
            cases hF
            have hL := Option.some.inj hL
            refine z_lv (lv' := [(3, .int k43)]) [2] rfl ?_
            exact L47_x o42 k43 hL
          · have hF := hF.2 c78
            refine z_aload_n X dX12_drawn_45 rfl 0 rfl ?_
            refine z_get (v := .ref (a_t 0)) X k_X12_drawn_7 0 rfl rfl dX12_drawn_46 ?_
            refine z_bipush (v := (7 : Int32)) X dX12_drawn_49 (by decide) ?_
            obtain ⟨g49, hF⟩ := gi_e hF
            refine z_iald X 1 rfl g49 dX12_drawn_51 ?_
            refine z_bipush (v := (40 : Int32)) X dX12_drawn_52 (by decide) ?_
            have hF := if_e hF
            refine z_icmp_ge (tgt := 114) X dX12_drawn_54 (by decide) (fun c77 => ?_) (fun c77 => ?_)
            · have hF := hF.1 c77
              cases hF
              have hL := Option.some.inj hL
              refine z_lv (lv' := [(3, .int k43)]) [2] rfl ?_
              exact L47_x o42 k43 hL
            · have hF := hF.2 c77
              refine z_aload_n X dX12_drawn_57 rfl 0 rfl ?_
              refine z_iconst (v := (3 : Int32)) X dX12_drawn_58 (by decide) ?_
              obtain ⟨o50, r51, hc52, hF⟩ := zb2_e hF
              refine z_Vi (As := [.int (3 : Int32)]) (rest := []) (wc := (w_X12_four cA h_t a_t o42)) (wc' := (w_X12_four cA h_t a_t o50)) (ws' := (w_X12_four cA h_t a_t o50)) (rv := r51) X (cwV 1 X.2.2.2.2.1 gX12_drawn_X12_draw rfl rfl rfl (by decide +kernel) (by rw [hR]; exact ⟨Nat.le_of_ble_eq_true rfl, Nat.le_of_ble_eq_true rfl⟩)) (fun sz => c_X12_draw l D cA g sz h_t a_t o42 (3 : Int32) o50 r51 hc52) [0, 1, 2, 3, 4, 5, 6, 7, 8, 9, 10, 11, 12, 13, 14, 15, 16, 17, 18, 19, 20, 21] [1000, 1001, 1002, 1003, 1004, 1005, 1006, 1007, 1008, 1009, 1010, 1011, 1012, 1013, 1014, 1015, 1016, 1017, 1018, 1019, 1020, 1021] rfl (by decide) rfl (by decide) rfl rfl rfl rfl rfl rfl (Nat.le_of_ble_eq_true rfl) dX12_drawn_59 ⟨Nat.zero_le _, Nat.zero_le _⟩ ?_
              obtain ⟨K55, eK55, hF⟩ := nx_e hF
              have K55_l : ∀ (j54 : Int32), K55 j54 = some zz48 → ZW p l e R s m args below meth c D A 7 0 0 Q (w_X12_four cA h_t a_t o50) [(0, .ref h_t), (1, .int v1), (3, .int k43), (4, .int k44)] 70 [.int j54] := by
                intro j54 hF
                rw [eK55] at hF
                refine z_istore (lv' := [(5, .int j54), (0, .ref h_t), (1, .int v1), (3, .int k43), (4, .int k44)]) X dX12_drawn_70 (by decide) rfl ?_
                refine z_aload_n X dX12_drawn_72 rfl 1 rfl ?_
                refine z_aload_n X dX12_drawn_73 rfl 1 rfl ?_
                refine z_get (v := .ref (a_t 0)) X k_X12_drawn_7 0 rfl rfl dX12_drawn_74 ?_
                refine z_iconst (v := (2 : Int32)) X dX12_drawn_77 (by decide) ?_
                obtain ⟨g56, hF⟩ := gi_e hF
                refine z_iald X 1 rfl g56 dX12_drawn_78 ?_
                obtain ⟨o57, r58, hc59, hF⟩ := zb2_e hF
                refine z_Vi (As := [.int (o50 0 (Int32.toNatClampNeg (2 : Int32)))]) (rest := []) (wc := (w_X12_four cA h_t a_t o50)) (wc' := (w_X12_four cA h_t a_t o57)) (ws' := (w_X12_four cA h_t a_t o57)) (rv := r58) X (cwV 1 X.2.2.2.2.1 gX12_drawn_X12_draw rfl rfl rfl (by decide +kernel) (by rw [hR]; exact ⟨Nat.le_of_ble_eq_true rfl, Nat.le_of_ble_eq_true rfl⟩)) (fun sz => c_X12_draw l D cA g sz h_t a_t o50 (o50 0 (Int32.toNatClampNeg (2 : Int32))) o57 r58 hc59) [0, 1, 2, 3, 4, 5, 6, 7, 8, 9, 10, 11, 12, 13, 14, 15, 16, 17, 18, 19, 20, 21] [1000, 1001, 1002, 1003, 1004, 1005, 1006, 1007, 1008, 1009, 1010, 1011, 1012, 1013, 1014, 1015, 1016, 1017, 1018, 1019, 1020, 1021] rfl (by decide) rfl (by decide) rfl rfl rfl rfl rfl rfl (Nat.le_of_ble_eq_true rfl) dX12_drawn_79 ⟨Nat.zero_le _, Nat.zero_le _⟩ ?_
                refine z_istore (lv' := [(6, .int r58), (5, .int j54), (0, .ref h_t), (1, .int v1), (3, .int k43), (4, .int k44)]) X dX12_drawn_82 (by decide) rfl ?_
                refine z_iload X dX12_drawn_84 1 rfl ?_
                obtain ⟨K66, eK66, hF⟩ := nx_e hF
                have K66_l : ∀ (j64 : Int32) (q65 : Ob), K66 j64 q65 = some zz48 → ZW p l e R s m args below meth c D A 7 0 0 Q (w_X12_four cA h_t a_t q65) [(0, .ref h_t), (1, .int v1), (3, .int k43), (4, .int k44), (6, .int j64)] 99 [] := by
                  intro j64 q65 hF
                  rw [eK66] at hF
                  refine z_iload_n X dX12_drawn_99 rfl 2 rfl ?_
                  refine z_aload_n X dX12_drawn_100 rfl 0 rfl ?_
                  refine z_iload X dX12_drawn_101 4 rfl ?_
                  obtain ⟨o67, r68, hc69, hF⟩ := zb2_e hF
                  refine z_Vi (As := [.int j64]) (rest := [.int k43]) (wc := (w_X12_four cA h_t a_t q65)) (wc' := (w_X12_four cA h_t a_t o67)) (ws' := (w_X12_four cA h_t a_t o67)) (rv := r68) X (cwV 1 X.2.2.2.2.1 gX12_drawn_X12_logs rfl rfl rfl (by decide +kernel) (by rw [hR]; exact ⟨Nat.le_of_ble_eq_true rfl, Nat.le_of_ble_eq_true rfl⟩)) (fun sz => c_X12_logs l D cA g sz h_t a_t q65 j64 o67 r68 hc69) [0, 1, 2, 3, 4, 5, 6, 7, 8, 9, 10, 11, 12, 13, 14, 15, 16, 17, 18, 19, 20, 21] [1000, 1001, 1002, 1003, 1004, 1005, 1006, 1007, 1008, 1009, 1010, 1011, 1012, 1013, 1014, 1015, 1016, 1017, 1018, 1019, 1020, 1021] rfl (by decide) rfl (by decide) rfl rfl rfl rfl rfl rfl (Nat.le_of_ble_eq_true rfl) dX12_drawn_103 ⟨Nat.zero_le _, Nat.zero_le _⟩ ?_
                  refine z_iadd X dX12_drawn_106 ?_
                  obtain ⟨x70, ex70, hF⟩ := nx_e hF
                  refine z_nm ex70 ?_
                  refine z_istore_n (lv' := [(3, .int x70), (0, .ref h_t), (1, .int v1), (4, .int k44), (6, .int j64)]) X dX12_drawn_107 rfl (by decide) rfl ?_
                  obtain ⟨x71, ex71, hF⟩ := nx_e hF
                  refine z_iinc (v := x71) (lv' := [(4, .int x71), (3, .int x70), (0, .ref h_t), (1, .int v1), (6, .int j64)]) (j := 3) X dX12_drawn_108 rfl (by rw [ex71]; rfl) (by decide) rfl ?_
                  refine z_goto (tgt := 39) X dX12_drawn_111 (by decide) ?_
                  cases hF
                  refine z_lv (lv' := [(0, .ref h_t), (1, .int v1), (3, .int x70), (4, .int x71)]) [2, 3, 1, 0] rfl ?_
                  exact ih o67 x70 x71 hL
                have hF := if_e hF
                refine z_if_ne (tgt := 99) X dX12_drawn_86 (by decide) (fun c75 => ?_) (fun c75 => ?_)
                · have hF := hF.2 c75
                  refine z_lv (lv' := [(0, .ref h_t), (1, .int v1), (3, .int k43), (4, .int k44), (6, .int r58)]) [2, 3, 4, 5, 0] rfl ?_
                  exact K66_l r58 o57 hF
                · have hF := hF.1 c75
                  refine z_aload_n X dX12_drawn_89 rfl 2 rfl ?_
                  refine z_iload X dX12_drawn_90 0 rfl ?_
                  refine z_iconst (v := (1 : Int32)) X dX12_drawn_92 (by decide) ?_
                  refine z_iadd X dX12_drawn_93 ?_
                  obtain ⟨o72, r73, hc74, hF⟩ := zb2_e hF
                  refine z_Vi (As := [.int (r58 + (1 : Int32))]) (rest := []) (wc := (w_X12_four cA h_t a_t o57)) (wc' := (w_X12_four cA h_t a_t o72)) (ws' := (w_X12_four cA h_t a_t o72)) (rv := r73) X (cwV 1 X.2.2.2.2.1 gX12_drawn_X12_draw rfl rfl rfl (by decide +kernel) (by rw [hR]; exact ⟨Nat.le_of_ble_eq_true rfl, Nat.le_of_ble_eq_true rfl⟩)) (fun sz => c_X12_draw l D cA g sz h_t a_t o57 (r58 + (1 : Int32)) o72 r73 hc74) [0, 1, 2, 3, 4, 5, 6, 7, 8, 9, 10, 11, 12, 13, 14, 15, 16, 17, 18, 19, 20, 21] [1000, 1001, 1002, 1003, 1004, 1005, 1006, 1007, 1008, 1009, 1010, 1011, 1012, 1013, 1014, 1015, 1016, 1017, 1018, 1019, 1020, 1021] rfl (by decide) rfl (by decide) rfl rfl rfl rfl rfl rfl (Nat.le_of_ble_eq_true rfl) dX12_drawn_94 ⟨Nat.zero_le _, Nat.zero_le _⟩ ?_
                  refine z_istore (lv' := [(6, .int r73), (5, .int j54), (0, .ref h_t), (1, .int v1), (3, .int k43), (4, .int k44)]) X dX12_drawn_97 (by decide) rfl ?_
                  refine z_lv (lv' := [(0, .ref h_t), (1, .int v1), (3, .int k43), (4, .int k44), (6, .int r73)]) [2, 3, 4, 5, 0] rfl ?_
                  exact K66_l r73 o72 hF
              have hF := if_e hF
              refine z_if_ne (tgt := 69) X dX12_drawn_62 (by decide) (fun c76 => ?_) (fun c76 => ?_)
              · have hF := hF.2 c76
                refine z_iconst (v := (0 : Int32)) X dX12_drawn_69 (by decide) ?_
                refine z_lv (lv' := [(0, .ref h_t), (1, .int v1), (3, .int k43), (4, .int k44)]) [0, 1, 2, 3] rfl ?_
                exact K55_l (0 : Int32) hF
              · have hF := hF.1 c76
                refine z_iconst (v := (1 : Int32)) X dX12_drawn_65 (by decide) ?_
                refine z_goto (tgt := 70) X dX12_drawn_66 (by decide) ?_
                refine z_lv (lv' := [(0, .ref h_t), (1, .int v1), (3, .int k43), (4, .int k44)]) [0, 1, 2, 3] rfl ?_
                exact K55_l (1 : Int32) hF
      refine z_lv (lv' := [(0, .ref h_t), (1, .int v1), (3, .int (0 : Int32)), (4, .int (0 : Int32))]) [2, 3, 1, 0] rfl ?_
      exact L47 FU o8 (0 : Int32) (0 : Int32) hL
    · have hF := hF.1 c80
      refine z_iconst (v := (-1 : Int32)) X dX12_drawn_19 (by decide) ?_
      cases hF
      exact z_iret X hA hQ hr rfl dX12_drawn_20 (Nat.le_refl _) (Nat.le_refl _)
set_option maxRecDepth 20000 in
theorem h_X12_image_X12 : ∀ w ∈ wsX120, w ∈ wsX12_image := by decide +kernel
set_option maxRecDepth 20000 in
theorem k_X12_image_7 : ZF wsX12_image RX12 7 12 0 RX12 TX12 47 := ⟨rfl, by decide, h_X12_image_X12, by decide +kernel⟩
set_option maxRecDepth 20000 in
theorem k_X12_image_13 : ZF wsX12_image RX12 13 12 1 RX12 TX12 47 := ⟨rfl, by decide, h_X12_image_X12, by decide +kernel⟩
set_option maxRecDepth 20000 in
theorem k_X12_image_22 : ZF wsX12_image RX12 22 12 4 RX12 TX12 47 := ⟨rfl, by decide, h_X12_image_X12, by decide +kernel⟩
set_option maxHeartbeats 8000000 in
set_option maxRecDepth 100000 in
theorem c_X12_image (l : Launch) (D : va_G) (cA : Nat → ClassId) (g : Nat → Nat) (sz : Nat) (h_t : Nat) (a_t : Nat → Nat) (o_t : Ob) (v1 : Int32) (o_t' : Ob) (rv : Int32) (hF : f_X12_image o_t v1 = some (o_t', rv)) : Met l yX12_image wsX12_image ({ frames := 1, cells := 0, slots := 0, locals := 24 }) (va_Pc [.ref h_t, .int v1] (PreW D cA g sz (w_X12_four cA h_t a_t o_t))) (va_Qi (fun (r : Int32) (_ : Unit) => r = rv) (PostW D cA sz (w_X12_four cA h_t a_t o_t) (w_X12_four cA h_t a_t o_t')) (va_A (w_X12_four cA h_t a_t o_t) sz)) 0 0 (va_A (w_X12_four cA h_t a_t o_t) sz) := by
  refine z_start (cc := cX12_image) (maxL := 2) (ret := (some .boolean)) (lv0 := [(0, .ref h_t), (1, .int v1)]) (Qc := fun sz => va_Qi (fun (r : Int32) (_ : Unit) => r = rv) (PostW D cA sz (w_X12_four cA h_t a_t o_t) (w_X12_four cA h_t a_t o_t')) (va_A (w_X12_four cA h_t a_t o_t) sz)) (free := fun sz => va_A (w_X12_four cA h_t a_t o_t) sz) (by decide +kernel) rfl rfl (Nat.le_of_ble_eq_true rfl) ?_
  intro p e R s m args below meth c A Q hR hA hQ X hr hin
  unfold f_X12_image at hF
  refine z_iload_n X dX12_image_0 rfl 1 rfl ?_
  refine z_iconst (v := (0 : Int32)) X dX12_image_1 (by decide) ?_
  refine z_iconst (v := (1 : Int32)) X dX12_image_2 (by decide) ?_
  obtain ⟨r1, hc2, hF⟩ := zb1_e hF
  refine z_Si (As := [.int v1, .int (0 : Int32), .int (1 : Int32)]) (rest := []) (wc := ([] : va_W)) (wc' := ([] : va_W)) (ws' := (w_X12_four cA h_t a_t o_t)) (rv := r1) X (va_cwS 3 X.2.2.2.2.1 gX12_image_X12_isIn rfl rfl rfl (by decide +kernel) (by rw [hR]; exact ⟨Nat.le_of_ble_eq_true rfl, Nat.le_of_ble_eq_true rfl⟩)) (fun sz => c_X12_isIn l D cA g sz v1 (0 : Int32) (1 : Int32) r1 hc2) [] [0, 1, 2, 3, 4, 5, 6, 7, 8, 9, 10, 11, 12, 13, 14, 15, 16, 17, 18, 19, 20, 21] rfl (by decide) rfl (by decide) rfl rfl rfl (Nat.le_of_ble_eq_true rfl) dX12_image_3 ⟨Nat.zero_le _, Nat.zero_le _⟩ ?_
  have hF := if_e hF
  refine z_if_ne (tgt := 11) X dX12_image_6 (by decide) (fun c8 => ?_) (fun c8 => ?_)
  · have hF := hF.2 c8
    refine z_aload_n X dX12_image_11 rfl 0 rfl ?_
    refine z_get (v := .ref (a_t 0)) X k_X12_image_7 0 rfl rfl dX12_image_12 ?_
    refine z_iconst (v := (0 : Int32)) X dX12_image_15 (by decide) ?_
    refine z_aload_n X dX12_image_16 rfl 0 rfl ?_
    refine z_get (v := .ref (a_t 1)) X k_X12_image_13 0 rfl rfl dX12_image_17 ?_
    refine z_sipush (v := (835 : Int32)) X dX12_image_20 (by decide) ?_
    refine z_iload_n X dX12_image_23 rfl 1 rfl ?_
    refine z_imul X dX12_image_24 ?_
    obtain ⟨o3, hc4, hF⟩ := zb1_e hF
    obtain ⟨o5, eo5, hF⟩ := nx_e hF
    refine z_Sv (As := [.ref (a_t 0), .int (0 : Int32), .ref (a_t 1), .int ((835 : Int32) * v1)]) (rest := []) (wc := (w_X12_copies cA (a_t 0) 835 (o_t 0) (a_t 1) 1670 (o_t 1))) (wc' := (w_X12_copies cA (a_t 0) 835 (o_t 0) (a_t 1) 1670 o3)) (ws' := (w_X12_four cA h_t a_t o5)) X (va_cwS 4 X.2.2.2.2.1 gX12_image_X12_copies rfl rfl rfl (by decide +kernel) (by rw [hR]; exact ⟨Nat.le_of_ble_eq_true rfl, Nat.le_of_ble_eq_true rfl⟩)) (fun sz => c_X12_copies l D cA g sz (a_t 0) 835 (o_t 0) (a_t 1) 1670 (o_t 1) (0 : Int32) ((835 : Int32) * v1) o3 hc4) [1, 2] [0, 1000, 1001, 3, 4, 5, 6, 7, 8, 9, 10, 11, 12, 13, 14, 15, 16, 17, 18, 19, 20, 21] rfl (by decide) (by rw [eo5]; rfl) (by decide) rfl rfl rfl (Nat.le_of_ble_eq_true rfl) dX12_image_25 ⟨Nat.zero_le _, Nat.zero_le _⟩ ?_
    refine z_aload_n X dX12_image_28 rfl 0 rfl ?_
    refine z_get (v := .ref (a_t 4)) X k_X12_image_22 0 rfl rfl dX12_image_29 ?_
    refine z_iload_n X dX12_image_32 rfl 1 rfl ?_
    refine z_iconst (v := (1 : Int32)) X dX12_image_33 (by decide) ?_
    obtain ⟨g6, hF⟩ := gi_e hF
    obtain ⟨o7, eo7, hF⟩ := nx_e hF
    refine z_zast (ws' := (w_X12_four cA h_t a_t o7)) X 5 rfl g6 (by rw [eo7]; rfl) dX12_image_34 ?_
    refine z_iconst (v := (1 : Int32)) X dX12_image_35 (by decide) ?_
    cases hF
    exact z_zret X hA hQ hr (Or.inr rfl)  rfl dX12_image_36 (Nat.le_refl _) (Nat.le_refl _)
  · have hF := hF.1 c8
    refine z_iconst (v := (0 : Int32)) X dX12_image_9 (by decide) ?_
    cases hF
    exact z_zret X hA hQ hr (Or.inl rfl)  rfl dX12_image_10 (Nat.le_refl _) (Nat.le_refl _)
set_option maxRecDepth 20000 in
theorem h_X12_restore_X12 : ∀ w ∈ wsX120, w ∈ wsX12_restore := by decide +kernel
set_option maxRecDepth 20000 in
theorem k_X12_restore_7 : ZF wsX12_restore RX12 7 12 0 RX12 TX12 47 := ⟨rfl, by decide, h_X12_restore_X12, by decide +kernel⟩
set_option maxRecDepth 20000 in
theorem k_X12_restore_13 : ZF wsX12_restore RX12 13 12 1 RX12 TX12 47 := ⟨rfl, by decide, h_X12_restore_X12, by decide +kernel⟩
set_option maxRecDepth 20000 in
theorem k_X12_restore_22 : ZF wsX12_restore RX12 22 12 4 RX12 TX12 47 := ⟨rfl, by decide, h_X12_restore_X12, by decide +kernel⟩
set_option maxRecDepth 20000 in
theorem k_X12_restore_181 : ZF wsX12_restore RX12 181 12 5 RX12 TX12 47 := ⟨rfl, by decide, h_X12_restore_X12, by decide +kernel⟩
set_option maxHeartbeats 8000000 in
set_option maxRecDepth 100000 in
theorem c_X12_restore (l : Launch) (D : va_G) (cA : Nat → ClassId) (g : Nat → Nat) (sz : Nat) (h_t : Nat) (a_t : Nat → Nat) (o_t : Ob) (v1 : Int32) (o_t' : Ob) (rv : Int32) (hF : f_X12_restore o_t v1 = some (o_t', rv)) : Met l yX12_restore wsX12_restore ({ frames := 1, cells := 0, slots := 0, locals := 24 }) (va_Pc [.ref h_t, .int v1] (PreW D cA g sz (w_X12_four cA h_t a_t o_t))) (va_Qi (fun (r : Int32) (_ : Unit) => r = rv) (PostW D cA sz (w_X12_four cA h_t a_t o_t) (w_X12_four cA h_t a_t o_t')) (va_A (w_X12_four cA h_t a_t o_t) sz)) 0 0 (va_A (w_X12_four cA h_t a_t o_t) sz) := by
  refine z_start (cc := cX12_restore) (maxL := 2) (ret := (some .boolean)) (lv0 := [(0, .ref h_t), (1, .int v1)]) (Qc := fun sz => va_Qi (fun (r : Int32) (_ : Unit) => r = rv) (PostW D cA sz (w_X12_four cA h_t a_t o_t) (w_X12_four cA h_t a_t o_t')) (va_A (w_X12_four cA h_t a_t o_t) sz)) (free := fun sz => va_A (w_X12_four cA h_t a_t o_t) sz) (by decide +kernel) rfl rfl (Nat.le_of_ble_eq_true rfl) ?_
  intro p e R s m args below meth c A Q hR hA hQ X hr hin
  unfold f_X12_restore at hF
  refine z_iload_n X dX12_restore_0 rfl 1 rfl ?_
  refine z_iconst (v := (0 : Int32)) X dX12_restore_1 (by decide) ?_
  refine z_iconst (v := (1 : Int32)) X dX12_restore_2 (by decide) ?_
  obtain ⟨r1, hc2, hF⟩ := zb1_e hF
  refine z_Si (As := [.int v1, .int (0 : Int32), .int (1 : Int32)]) (rest := []) (wc := ([] : va_W)) (wc' := ([] : va_W)) (ws' := (w_X12_four cA h_t a_t o_t)) (rv := r1) X (va_cwS 3 X.2.2.2.2.1 gX12_restore_X12_isIn rfl rfl rfl (by decide +kernel) (by rw [hR]; exact ⟨Nat.le_of_ble_eq_true rfl, Nat.le_of_ble_eq_true rfl⟩)) (fun sz => c_X12_isIn l D cA g sz v1 (0 : Int32) (1 : Int32) r1 hc2) [] [0, 1, 2, 3, 4, 5, 6, 7, 8, 9, 10, 11, 12, 13, 14, 15, 16, 17, 18, 19, 20, 21] rfl (by decide) rfl (by decide) rfl rfl rfl (Nat.le_of_ble_eq_true rfl) dX12_restore_3 ⟨Nat.zero_le _, Nat.zero_le _⟩ ?_
  have hF := if_e hF
  refine z_if_eq (tgt := 18) X dX12_restore_6 (by decide) (fun c9 => ?_) (fun c9 => ?_)
  · have hF := hF.1 c9
    refine z_iconst (v := (0 : Int32)) X dX12_restore_18 (by decide) ?_
    cases hF
    exact z_zret X hA hQ hr (Or.inl rfl)  rfl dX12_restore_19 (Nat.le_refl _) (Nat.le_refl _)
  · have hF := hF.2 c9
    refine z_aload_n X dX12_restore_9 rfl 0 rfl ?_
    refine z_get (v := .ref (a_t 4)) X k_X12_restore_22 0 rfl rfl dX12_restore_10 ?_
    refine z_iload_n X dX12_restore_13 rfl 1 rfl ?_
    obtain ⟨g3, hF⟩ := gi_e hF
    refine z_zald X 5 rfl g3 dX12_restore_14 ?_
    have hF := if_e hF
    refine z_if_ne (tgt := 20) X dX12_restore_15 (by decide) (fun c8 => ?_) (fun c8 => ?_)
    · have hF := hF.2 c8
      refine z_aload_n X dX12_restore_20 rfl 0 rfl ?_
      refine z_get (v := .ref (a_t 1)) X k_X12_restore_13 0 rfl rfl dX12_restore_21 ?_
      refine z_sipush (v := (835 : Int32)) X dX12_restore_24 (by decide) ?_
      refine z_iload_n X dX12_restore_27 rfl 1 rfl ?_
      refine z_imul X dX12_restore_28 ?_
      refine z_aload_n X dX12_restore_29 rfl 0 rfl ?_
      refine z_get (v := .ref (a_t 0)) X k_X12_restore_7 0 rfl rfl dX12_restore_30 ?_
      refine z_iconst (v := (0 : Int32)) X dX12_restore_33 (by decide) ?_
      obtain ⟨o4, hc5, hF⟩ := zb1_e hF
      obtain ⟨o6, eo6, hF⟩ := nx_e hF
      refine z_Sv (As := [.ref (a_t 1), .int ((835 : Int32) * v1), .ref (a_t 0), .int (0 : Int32)]) (rest := []) (wc := (w_X12_copies cA (a_t 1) 1670 (o_t 1) (a_t 0) 835 (o_t 0))) (wc' := (w_X12_copies cA (a_t 1) 1670 (o_t 1) (a_t 0) 835 o4)) (ws' := (w_X12_four cA h_t a_t o6)) X (va_cwS 4 X.2.2.2.2.1 gX12_restore_X12_copies rfl rfl rfl (by decide +kernel) (by rw [hR]; exact ⟨Nat.le_of_ble_eq_true rfl, Nat.le_of_ble_eq_true rfl⟩)) (fun sz => c_X12_copies l D cA g sz (a_t 1) 1670 (o_t 1) (a_t 0) 835 (o_t 0) ((835 : Int32) * v1) (0 : Int32) o4 hc5) [2, 1] [0, 1001, 1000, 3, 4, 5, 6, 7, 8, 9, 10, 11, 12, 13, 14, 15, 16, 17, 18, 19, 20, 21] rfl (by decide) (by rw [eo6]; rfl) (by decide) rfl rfl rfl (Nat.le_of_ble_eq_true rfl) dX12_restore_34 ⟨Nat.zero_le _, Nat.zero_le _⟩ ?_
      refine z_aload_n X dX12_restore_37 rfl 0 rfl ?_
      refine z_iconst (v := (0 : Int32)) X dX12_restore_38 (by decide) ?_
      obtain ⟨o7, eo7, hF⟩ := nx_e hF
      refine z_put (ws' := (w_X12_four cA h_t a_t o7)) X k_X12_restore_181 tyX12 tyX12_ok nmX12 rfl rfl 0 rfl (Nat.le_of_ble_eq_true rfl) (by rw [eo7]; rfl) dX12_restore_39 ?_
      refine z_iconst (v := (1 : Int32)) X dX12_restore_42 (by decide) ?_
      cases hF
      exact z_zret X hA hQ hr (Or.inr rfl)  rfl dX12_restore_43 (Nat.le_refl _) (Nat.le_refl _)
    · have hF := hF.1 c8
      refine z_iconst (v := (0 : Int32)) X dX12_restore_18 (by decide) ?_
      cases hF
      exact z_zret X hA hQ hr (Or.inl rfl)  rfl dX12_restore_19 (Nat.le_refl _) (Nat.le_refl _)
