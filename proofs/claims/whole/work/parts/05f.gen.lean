set_option maxRecDepth 20000 in
theorem h_X12_soon_X12 : ∀ w ∈ wsX120, w ∈ wsX12_soon := by decide +kernel
set_option maxRecDepth 20000 in
theorem k_X12_soon_7 : ZF wsX12_soon RX12 7 12 0 RX12 TX12 47 := ⟨rfl, by decide, h_X12_soon_X12, by decide +kernel⟩
set_option maxHeartbeats 8000000 in
set_option maxRecDepth 100000 in
theorem c_X12_soon (l : Launch) (D : va_G) (cA : Nat → ClassId) (g : Nat → Nat) (sz : Nat) (h_t : Nat) (a_t : Nat → Nat) (o_t : Ob) (v1 : Int32) (o_t' : Ob) (rv : Int32) (hF : f_X12_soon o_t v1 = some (o_t', rv)) : Met l yX12_soon wsX12_soon ({ frames := 5, cells := 0, slots := 0, locals := 115 }) (va_Pc [.ref h_t, .int v1] (PreW D cA g sz (w_X12_four cA h_t a_t o_t))) (va_Qi (fun (r : Int32) (_ : Unit) => r = rv) (PostW D cA sz (w_X12_four cA h_t a_t o_t) (w_X12_four cA h_t a_t o_t')) (va_A (w_X12_four cA h_t a_t o_t) sz)) 0 0 (va_A (w_X12_four cA h_t a_t o_t) sz) := by
  refine z_start (cc := cX12_soon) (maxL := 4) (ret := (some .int)) (lv0 := [(0, .ref h_t), (1, .int v1)]) (Qc := fun sz => va_Qi (fun (r : Int32) (_ : Unit) => r = rv) (PostW D cA sz (w_X12_four cA h_t a_t o_t) (w_X12_four cA h_t a_t o_t')) (va_A (w_X12_four cA h_t a_t o_t) sz)) (free := fun sz => va_A (w_X12_four cA h_t a_t o_t) sz) (by decide +kernel) rfl rfl (Nat.le_of_ble_eq_true rfl) ?_
  intro p e R s m args below meth c A Q hR hA hQ X hr hin
  unfold f_X12_soon at hF
  refine z_aload_n X dX12_soon_0 rfl 0 rfl ?_
  refine z_iload_n X dX12_soon_1 rfl 1 rfl ?_
  obtain ⟨r1, hc2, hF⟩ := zb1_e hF
  refine z_Vi (As := [.int v1]) (rest := []) (wc := (w_X12_four cA h_t a_t o_t)) (wc' := (w_X12_four cA h_t a_t o_t)) (ws' := (w_X12_four cA h_t a_t o_t)) (rv := r1) X (cwV 1 X.2.2.2.2.1 gX12_soon_X12_isItem rfl rfl rfl (by decide +kernel) (by rw [hR]; exact ⟨Nat.le_of_ble_eq_true rfl, Nat.le_of_ble_eq_true rfl⟩)) (fun sz => c_X12_isItem l D cA g sz h_t a_t o_t v1 r1 hc2) [0, 1, 2, 3, 4, 5, 6, 7, 8, 9, 10, 11, 12, 13, 14, 15, 16, 17, 18, 19, 20, 21] [1000, 1001, 1002, 1003, 1004, 1005, 1006, 1007, 1008, 1009, 1010, 1011, 1012, 1013, 1014, 1015, 1016, 1017, 1018, 1019, 1020, 1021] rfl (by decide) rfl (by decide) rfl rfl rfl rfl rfl rfl (Nat.le_of_ble_eq_true rfl) dX12_soon_2 ⟨Nat.zero_le _, Nat.zero_le _⟩ ?_
  have hF := if_e hF
  refine z_if_ne (tgt := 10) X dX12_soon_5 (by decide) (fun c38 => ?_) (fun c38 => ?_)
  · have hF := hF.2 c38
    refine z_aload_n X dX12_soon_10 rfl 0 rfl ?_
    obtain ⟨o3, hc4, hF⟩ := zb1_e hF
    refine z_Vv (As := []) (rest := []) (wc := (w_X12_four cA h_t a_t o_t)) (wc' := (w_X12_four cA h_t a_t o3)) (ws' := (w_X12_four cA h_t a_t o3)) X (cwV 0 X.2.2.2.2.1 gX12_soon_X12_begins rfl rfl rfl (by decide +kernel) (by rw [hR]; exact ⟨Nat.le_of_ble_eq_true rfl, Nat.le_of_ble_eq_true rfl⟩)) (fun sz => c_X12_begins l D cA g sz h_t a_t o_t o3 hc4) [0, 1, 2, 3, 4, 5, 6, 7, 8, 9, 10, 11, 12, 13, 14, 15, 16, 17, 18, 19, 20, 21] [1000, 1001, 1002, 1003, 1004, 1005, 1006, 1007, 1008, 1009, 1010, 1011, 1012, 1013, 1014, 1015, 1016, 1017, 1018, 1019, 1020, 1021] rfl (by decide) rfl (by decide) rfl rfl rfl rfl rfl rfl (Nat.le_of_ble_eq_true rfl) dX12_soon_11 ⟨Nat.zero_le _, Nat.zero_le _⟩ ?_
    refine z_iconst (v := (0 : Int32)) X dX12_soon_14 (by decide) ?_
    refine z_istore_n (lv' := [(2, .int (0 : Int32)), (0, .ref h_t), (1, .int v1)]) X dX12_soon_15 rfl (by decide) rfl ?_
    obtain ⟨o18, k19, hL, hF⟩ := zb2_e hF
    have L26_x : ∀ (o18' : Ob) (k19' : Int32), (o18', k19') = (o18, k19) → ZW p l e R s m args below meth c D A 4 0 0 Q (w_X12_four cA h_t a_t o18') [(0, .ref h_t), (1, .int v1), (2, .int k19')] 47 [] := by
      intro o18' k19' hz
      cases hz
      refine z_aload_n X dX12_soon_47 rfl 0 rfl ?_
      refine z_get (v := .ref (a_t 0)) X k_X12_soon_7 0 rfl rfl dX12_soon_48 ?_
      refine z_iconst (v := (3 : Int32)) X dX12_soon_51 (by decide) ?_
      obtain ⟨g20, hF⟩ := gi_e hF
      refine z_iald X 1 rfl g20 dX12_soon_52 ?_
      refine z_iload_n X dX12_soon_53 rfl 1 rfl ?_
      obtain ⟨r21, hc22, hF⟩ := zb1_e hF
      refine z_Si (As := [.int (o18 0 (Int32.toNatClampNeg (3 : Int32))), .int v1]) (rest := []) (wc := ([] : va_W)) (wc' := ([] : va_W)) (ws' := (w_X12_four cA h_t a_t o18)) (rv := r21) X (va_cwS 2 X.2.2.2.2.1 gX12_soon_X12_bitOf rfl rfl rfl (by decide +kernel) (by rw [hR]; exact ⟨Nat.le_of_ble_eq_true rfl, Nat.le_of_ble_eq_true rfl⟩)) (fun sz => c_X12_bitOf l D cA g sz (o18 0 (Int32.toNatClampNeg (3 : Int32))) v1 r21 hc22) [] [0, 1, 2, 3, 4, 5, 6, 7, 8, 9, 10, 11, 12, 13, 14, 15, 16, 17, 18, 19, 20, 21] rfl (by decide) rfl (by decide) rfl rfl rfl (Nat.le_of_ble_eq_true rfl) dX12_soon_54 ⟨Nat.zero_le _, Nat.zero_le _⟩ ?_
      refine z_istore_n (lv' := [(3, .int r21), (0, .ref h_t), (1, .int v1), (2, .int k19)]) X dX12_soon_57 rfl (by decide) rfl ?_
      refine z_aload_n X dX12_soon_58 rfl 1 rfl ?_
      obtain ⟨o23, hc24, hF⟩ := zb1_e hF
      refine z_Vv (As := []) (rest := []) (wc := (w_X12_four cA h_t a_t o18)) (wc' := (w_X12_four cA h_t a_t o23)) (ws' := (w_X12_four cA h_t a_t o23)) X (cwV 0 X.2.2.2.2.1 gX12_soon_X12_ends rfl rfl rfl (by decide +kernel) (by rw [hR]; exact ⟨Nat.le_of_ble_eq_true rfl, Nat.le_of_ble_eq_true rfl⟩)) (fun sz => c_X12_ends l D cA g sz h_t a_t o18 o23 hc24) [0, 1, 2, 3, 4, 5, 6, 7, 8, 9, 10, 11, 12, 13, 14, 15, 16, 17, 18, 19, 20, 21] [1000, 1001, 1002, 1003, 1004, 1005, 1006, 1007, 1008, 1009, 1010, 1011, 1012, 1013, 1014, 1015, 1016, 1017, 1018, 1019, 1020, 1021] rfl (by decide) rfl (by decide) rfl rfl rfl rfl rfl rfl (Nat.le_of_ble_eq_true rfl) dX12_soon_59 ⟨Nat.zero_le _, Nat.zero_le _⟩ ?_
      refine z_iload_n X dX12_soon_62 rfl 0 rfl ?_
      have hF := if_e hF
      refine z_if_eq (tgt := 70) X dX12_soon_63 (by decide) (fun c25 => ?_) (fun c25 => ?_)
      · have hF := hF.1 c25
        refine z_iconst (v := (-1 : Int32)) X dX12_soon_70 (by decide) ?_
        cases hF
        exact z_iret X hA hQ hr rfl dX12_soon_71 (Nat.le_refl _) (Nat.le_refl _)
      · have hF := hF.2 c25
        refine z_iload_n X dX12_soon_66 rfl 3 rfl ?_
        refine z_goto (tgt := 71) X dX12_soon_67 (by decide) ?_
        cases hF
        exact z_iret X hA hQ hr rfl dX12_soon_71 (Nat.le_refl _) (Nat.le_refl _)
    obtain ⟨B37, hBB37, hL⟩ := zl2_b hL
    have L26 : ∀ (n : Nat) (o16 : Ob) (k17 : Int32), zl2 B37 n o16 k17 = some (o18, k19) → ZW p l e R s m args below meth c D A 4 0 0 Q (w_X12_four cA h_t a_t o16) [(0, .ref h_t), (1, .int v1), (2, .int k17)] 16 [] := by
      intro n
      induction n with
      | zero => intro o16 k17 hL; cases hL
      | succ n ih =>
        intro o16 k17 hL
        obtain ⟨zz27, hF, hL⟩ := zl2_e hL
        rw [hBB37] at hF
        refine z_iload_n X dX12_soon_16 rfl 2 rfl ?_
        refine z_bipush (v := (40 : Int32)) X dX12_soon_17 (by decide) ?_
        have hF := if_e hF
        refine z_icmp_ge (tgt := 47) X dX12_soon_19 (by decide) (fun c36 => ?_) (fun c36 => ?_)
        · have hF := hF.1 c36
          cases hF
          have hL := Option.some.inj hL
          refine z_lv (lv' := [(0, .ref h_t), (1, .int v1), (2, .int k17)]) [0, 1, 2] rfl ?_
          exact L26_x o16 k17 hL
        · have hF := hF.2 c36
          refine z_aload_n X dX12_soon_22 rfl 0 rfl ?_
          refine z_get (v := .ref (a_t 0)) X k_X12_soon_7 0 rfl rfl dX12_soon_23 ?_
          refine z_iconst (v := (3 : Int32)) X dX12_soon_26 (by decide) ?_
          obtain ⟨g28, hF⟩ := gi_e hF
          refine z_iald X 1 rfl g28 dX12_soon_27 ?_
          refine z_iload_n X dX12_soon_28 rfl 1 rfl ?_
          obtain ⟨r29, hc30, hF⟩ := zb1_e hF
          refine z_Si (As := [.int (o16 0 (Int32.toNatClampNeg (3 : Int32))), .int v1]) (rest := []) (wc := ([] : va_W)) (wc' := ([] : va_W)) (ws' := (w_X12_four cA h_t a_t o16)) (rv := r29) X (va_cwS 2 X.2.2.2.2.1 gX12_soon_X12_bitOf rfl rfl rfl (by decide +kernel) (by rw [hR]; exact ⟨Nat.le_of_ble_eq_true rfl, Nat.le_of_ble_eq_true rfl⟩)) (fun sz => c_X12_bitOf l D cA g sz (o16 0 (Int32.toNatClampNeg (3 : Int32))) v1 r29 hc30) [] [0, 1, 2, 3, 4, 5, 6, 7, 8, 9, 10, 11, 12, 13, 14, 15, 16, 17, 18, 19, 20, 21] rfl (by decide) rfl (by decide) rfl rfl rfl (Nat.le_of_ble_eq_true rfl) dX12_soon_29 ⟨Nat.zero_le _, Nat.zero_le _⟩ ?_
          have hF := if_e hF
          refine z_if_ne (tgt := 47) X dX12_soon_32 (by decide) (fun c35 => ?_) (fun c35 => ?_)
          · have hF := hF.2 c35
            cases hF
            have hL := Option.some.inj hL
            refine z_lv (lv' := [(0, .ref h_t), (1, .int v1), (2, .int k17)]) [0, 1, 2] rfl ?_
            exact L26_x o16 k17 hL
          · have hF := hF.1 c35
            refine z_aload_n X dX12_soon_35 rfl 0 rfl ?_
            refine z_iload_n X dX12_soon_36 rfl 1 rfl ?_
            obtain ⟨o31, r32, hc33, hF⟩ := zb2_e hF
            refine z_Vi (As := [.int v1]) (rest := []) (wc := (w_X12_four cA h_t a_t o16)) (wc' := (w_X12_four cA h_t a_t o31)) (ws' := (w_X12_four cA h_t a_t o31)) (rv := r32) X (cwV 1 X.2.2.2.2.1 gX12_soon_X12_asks rfl rfl rfl (by decide +kernel) (by rw [hR]; exact ⟨Nat.le_of_ble_eq_true rfl, Nat.le_of_ble_eq_true rfl⟩)) (fun sz => c_X12_asks l D cA g sz h_t a_t o16 v1 o31 r32 hc33) [0, 1, 2, 3, 4, 5, 6, 7, 8, 9, 10, 11, 12, 13, 14, 15, 16, 17, 18, 19, 20, 21] [1000, 1001, 1002, 1003, 1004, 1005, 1006, 1007, 1008, 1009, 1010, 1011, 1012, 1013, 1014, 1015, 1016, 1017, 1018, 1019, 1020, 1021] rfl (by decide) rfl (by decide) rfl rfl rfl rfl rfl rfl (Nat.le_of_ble_eq_true rfl) dX12_soon_37 ⟨Nat.zero_le _, Nat.zero_le _⟩ ?_
            refine z_pop X dX12_soon_40 rfl ?_
            obtain ⟨x34, ex34, hF⟩ := nx_e hF
            refine z_iinc (v := x34) (lv' := [(2, .int x34), (0, .ref h_t), (1, .int v1)]) (j := 2) X dX12_soon_41 rfl (by rw [ex34]; rfl) (by decide) rfl ?_
            refine z_goto (tgt := 16) X dX12_soon_44 (by decide) ?_
            cases hF
            refine z_lv (lv' := [(0, .ref h_t), (1, .int v1), (2, .int x34)]) [1, 2, 0] rfl ?_
            exact ih o31 x34 hL
    refine z_lv (lv' := [(0, .ref h_t), (1, .int v1), (2, .int (0 : Int32))]) [1, 2, 0] rfl ?_
    exact L26 FU o3 (0 : Int32) hL
  · have hF := hF.1 c38
    refine z_iconst (v := (-1 : Int32)) X dX12_soon_8 (by decide) ?_
    cases hF
    exact z_iret X hA hQ hr rfl dX12_soon_9 (Nat.le_refl _) (Nat.le_refl _)
set_option maxRecDepth 20000 in
theorem h_X12_victims_X12 : ∀ w ∈ wsX120, w ∈ wsX12_victims := by decide +kernel
set_option maxRecDepth 20000 in
theorem k_X12_victims_7 : ZF wsX12_victims RX12 7 12 0 RX12 TX12 47 := ⟨rfl, by decide, h_X12_victims_X12, by decide +kernel⟩
set_option maxHeartbeats 8000000 in
set_option maxRecDepth 100000 in
theorem c_X12_victims (l : Launch) (D : va_G) (cA : Nat → ClassId) (g : Nat → Nat) (sz : Nat) (h_t : Nat) (a_t : Nat → Nat) (o_t : Ob) (v1 : Int32) (o_t' : Ob) (rv : Int32) (hF : f_X12_victims o_t v1 = some (o_t', rv)) : Met l yX12_victims wsX12_victims ({ frames := 4, cells := 0, slots := 0, locals := 92 }) (va_Pc [.ref h_t, .int v1] (PreW D cA g sz (w_X12_four cA h_t a_t o_t))) (va_Qi (fun (r : Int32) (_ : Unit) => r = rv) (PostW D cA sz (w_X12_four cA h_t a_t o_t) (w_X12_four cA h_t a_t o_t')) (va_A (w_X12_four cA h_t a_t o_t) sz)) 0 0 (va_A (w_X12_four cA h_t a_t o_t) sz) := by
  refine z_start (cc := cX12_victims) (maxL := 4) (ret := (some .int)) (lv0 := [(0, .ref h_t), (1, .int v1)]) (Qc := fun sz => va_Qi (fun (r : Int32) (_ : Unit) => r = rv) (PostW D cA sz (w_X12_four cA h_t a_t o_t) (w_X12_four cA h_t a_t o_t')) (va_A (w_X12_four cA h_t a_t o_t) sz)) (free := fun sz => va_A (w_X12_four cA h_t a_t o_t) sz) (by decide +kernel) rfl rfl (Nat.le_of_ble_eq_true rfl) ?_
  intro p e R s m args below meth c A Q hR hA hQ X hr hin
  unfold f_X12_victims at hF
  refine z_aload_n X dX12_victims_0 rfl 0 rfl ?_
  refine z_iload_n X dX12_victims_1 rfl 1 rfl ?_
  obtain ⟨r1, hc2, hF⟩ := zb1_e hF
  refine z_Vi (As := [.int v1]) (rest := []) (wc := (w_X12_four cA h_t a_t o_t)) (wc' := (w_X12_four cA h_t a_t o_t)) (ws' := (w_X12_four cA h_t a_t o_t)) (rv := r1) X (cwV 1 X.2.2.2.2.1 gX12_victims_X12_isItem rfl rfl rfl (by decide +kernel) (by rw [hR]; exact ⟨Nat.le_of_ble_eq_true rfl, Nat.le_of_ble_eq_true rfl⟩)) (fun sz => c_X12_isItem l D cA g sz h_t a_t o_t v1 r1 hc2) [0, 1, 2, 3, 4, 5, 6, 7, 8, 9, 10, 11, 12, 13, 14, 15, 16, 17, 18, 19, 20, 21] [1000, 1001, 1002, 1003, 1004, 1005, 1006, 1007, 1008, 1009, 1010, 1011, 1012, 1013, 1014, 1015, 1016, 1017, 1018, 1019, 1020, 1021] rfl (by decide) rfl (by decide) rfl rfl rfl rfl rfl rfl (Nat.le_of_ble_eq_true rfl) dX12_victims_2 ⟨Nat.zero_le _, Nat.zero_le _⟩ ?_
  have hF := if_e hF
  refine z_if_eq (tgt := 39) X dX12_victims_5 (by decide) (fun c21 => ?_) (fun c21 => ?_)
  · have hF := hF.1 c21
    refine z_iconst (v := (-1 : Int32)) X dX12_victims_39 (by decide) ?_
    cases hF
    exact z_iret X hA hQ hr rfl dX12_victims_40 (Nat.le_refl _) (Nat.le_refl _)
  · have hF := hF.2 c21
    refine z_aload_n X dX12_victims_8 rfl 0 rfl ?_
    refine z_get (v := .ref (a_t 0)) X k_X12_victims_7 0 rfl rfl dX12_victims_9 ?_
    refine z_iconst (v := (3 : Int32)) X dX12_victims_12 (by decide) ?_
    obtain ⟨g3, hF⟩ := gi_e hF
    refine z_iald X 1 rfl g3 dX12_victims_13 ?_
    refine z_iload_n X dX12_victims_14 rfl 1 rfl ?_
    obtain ⟨r4, hc5, hF⟩ := zb1_e hF
    refine z_Si (As := [.int (o_t 0 (Int32.toNatClampNeg (3 : Int32))), .int v1]) (rest := []) (wc := ([] : va_W)) (wc' := ([] : va_W)) (ws' := (w_X12_four cA h_t a_t o_t)) (rv := r4) X (va_cwS 2 X.2.2.2.2.1 gX12_victims_X12_bitOf rfl rfl rfl (by decide +kernel) (by rw [hR]; exact ⟨Nat.le_of_ble_eq_true rfl, Nat.le_of_ble_eq_true rfl⟩)) (fun sz => c_X12_bitOf l D cA g sz (o_t 0 (Int32.toNatClampNeg (3 : Int32))) v1 r4 hc5) [] [0, 1, 2, 3, 4, 5, 6, 7, 8, 9, 10, 11, 12, 13, 14, 15, 16, 17, 18, 19, 20, 21] rfl (by decide) rfl (by decide) rfl rfl rfl (Nat.le_of_ble_eq_true rfl) dX12_victims_15 ⟨Nat.zero_le _, Nat.zero_le _⟩ ?_
    have hF := if_e hF
    refine z_if_ne (tgt := 39) X dX12_victims_18 (by decide) (fun c20 => ?_) (fun c20 => ?_)
    · have hF := hF.2 c20
      refine z_iconst (v := (-1 : Int32)) X dX12_victims_39 (by decide) ?_
      cases hF
      exact z_iret X hA hQ hr rfl dX12_victims_40 (Nat.le_refl _) (Nat.le_refl _)
    · have hF := hF.1 c20
      refine z_aload_n X dX12_victims_21 rfl 0 rfl ?_
      refine z_get (v := .ref (a_t 0)) X k_X12_victims_7 0 rfl rfl dX12_victims_22 ?_
      refine z_bipush (v := (8 : Int32)) X dX12_victims_25 (by decide) ?_
      refine z_iload_n X dX12_victims_27 rfl 1 rfl ?_
      refine z_iadd X dX12_victims_28 ?_
      obtain ⟨g6, hF⟩ := gi_e hF
      refine z_iald X 1 rfl g6 dX12_victims_29 ?_
      refine z_aload_n X dX12_victims_30 rfl 0 rfl ?_
      refine z_get (v := .ref (a_t 0)) X k_X12_victims_7 0 rfl rfl dX12_victims_31 ?_
      refine z_iconst (v := (0 : Int32)) X dX12_victims_34 (by decide) ?_
      obtain ⟨g7, hF⟩ := gi_e hF
      refine z_iald X 1 rfl g7 dX12_victims_35 ?_
      have hF := if_e hF
      refine z_icmp_le (tgt := 41) X dX12_victims_36 (by decide) (fun c19 => ?_) (fun c19 => ?_)
      · have hF := hF.1 c19
        refine z_aload_n X dX12_victims_41 rfl 0 rfl ?_
        obtain ⟨o8, hc9, hF⟩ := zb1_e hF
        refine z_Vv (As := []) (rest := []) (wc := (w_X12_four cA h_t a_t o_t)) (wc' := (w_X12_four cA h_t a_t o8)) (ws' := (w_X12_four cA h_t a_t o8)) X (cwV 0 X.2.2.2.2.1 gX12_victims_X12_begins rfl rfl rfl (by decide +kernel) (by rw [hR]; exact ⟨Nat.le_of_ble_eq_true rfl, Nat.le_of_ble_eq_true rfl⟩)) (fun sz => c_X12_begins l D cA g sz h_t a_t o_t o8 hc9) [0, 1, 2, 3, 4, 5, 6, 7, 8, 9, 10, 11, 12, 13, 14, 15, 16, 17, 18, 19, 20, 21] [1000, 1001, 1002, 1003, 1004, 1005, 1006, 1007, 1008, 1009, 1010, 1011, 1012, 1013, 1014, 1015, 1016, 1017, 1018, 1019, 1020, 1021] rfl (by decide) rfl (by decide) rfl rfl rfl rfl rfl rfl (Nat.le_of_ble_eq_true rfl) dX12_victims_42 ⟨Nat.zero_le _, Nat.zero_le _⟩ ?_
        refine z_aload_n X dX12_victims_45 rfl 0 rfl ?_
        refine z_get (v := .ref (a_t 0)) X k_X12_victims_7 0 rfl rfl dX12_victims_46 ?_
        refine z_iconst (v := (3 : Int32)) X dX12_victims_49 (by decide) ?_
        obtain ⟨g10, hF⟩ := gi_e hF
        refine z_iald X 1 rfl g10 dX12_victims_50 ?_
        obtain ⟨x11, ex11, hF⟩ := nx_e hF
        refine z_nm ex11 ?_
        refine z_istore_n (lv' := [(2, .int x11), (0, .ref h_t), (1, .int v1)]) X dX12_victims_51 rfl (by decide) rfl ?_
        refine z_aload_n X dX12_victims_52 rfl 1 rfl ?_
        refine z_aload_n X dX12_victims_53 rfl 1 rfl ?_
        refine z_get (v := .ref (a_t 0)) X k_X12_victims_7 0 rfl rfl dX12_victims_54 ?_
        refine z_bipush (v := (8 : Int32)) X dX12_victims_57 (by decide) ?_
        refine z_iload_n X dX12_victims_59 rfl 2 rfl ?_
        refine z_iadd X dX12_victims_60 ?_
        obtain ⟨g12, hF⟩ := gi_e hF
        refine z_iald X 1 rfl g12 dX12_victims_61 ?_
        obtain ⟨o13, hc14, hF⟩ := zb1_e hF
        refine z_Vv (As := [.int (o8 0 (Int32.toNatClampNeg ((8 : Int32) + v1)))]) (rest := []) (wc := (w_X12_four cA h_t a_t o8)) (wc' := (w_X12_four cA h_t a_t o13)) (ws' := (w_X12_four cA h_t a_t o13)) X (cwV 1 X.2.2.2.2.1 gX12_victims_X12_way rfl rfl rfl (by decide +kernel) (by rw [hR]; exact ⟨Nat.le_of_ble_eq_true rfl, Nat.le_of_ble_eq_true rfl⟩)) (fun sz => c_X12_way l D cA g sz h_t a_t o8 (o8 0 (Int32.toNatClampNeg ((8 : Int32) + v1))) o13 hc14) [0, 1, 2, 3, 4, 5, 6, 7, 8, 9, 10, 11, 12, 13, 14, 15, 16, 17, 18, 19, 20, 21] [1000, 1001, 1002, 1003, 1004, 1005, 1006, 1007, 1008, 1009, 1010, 1011, 1012, 1013, 1014, 1015, 1016, 1017, 1018, 1019, 1020, 1021] rfl (by decide) rfl (by decide) rfl rfl rfl rfl rfl rfl (Nat.le_of_ble_eq_true rfl) dX12_victims_62 ⟨Nat.zero_le _, Nat.zero_le _⟩ ?_
        refine z_iload_n X dX12_victims_65 rfl 0 rfl ?_
        refine z_aload_n X dX12_victims_66 rfl 1 rfl ?_
        refine z_get (v := .ref (a_t 0)) X k_X12_victims_7 0 rfl rfl dX12_victims_67 ?_
        refine z_iconst (v := (3 : Int32)) X dX12_victims_70 (by decide) ?_
        obtain ⟨g15, hF⟩ := gi_e hF
        refine z_iald X 1 rfl g15 dX12_victims_71 ?_
        refine z_iconst (v := (-1 : Int32)) X dX12_victims_72 (by decide) ?_
        refine z_ixor X dX12_victims_73 ?_
        refine z_iand X dX12_victims_74 ?_
        obtain ⟨x16, ex16, hF⟩ := nx_e hF
        refine z_nm ex16 ?_
        refine z_istore_n (lv' := [(3, .int x16), (2, .int x11), (0, .ref h_t), (1, .int v1)]) X dX12_victims_75 rfl (by decide) rfl ?_
        refine z_aload_n X dX12_victims_76 rfl 2 rfl ?_
        obtain ⟨o17, hc18, hF⟩ := zb1_e hF
        refine z_Vv (As := []) (rest := []) (wc := (w_X12_four cA h_t a_t o13)) (wc' := (w_X12_four cA h_t a_t o17)) (ws' := (w_X12_four cA h_t a_t o17)) X (cwV 0 X.2.2.2.2.1 gX12_victims_X12_ends rfl rfl rfl (by decide +kernel) (by rw [hR]; exact ⟨Nat.le_of_ble_eq_true rfl, Nat.le_of_ble_eq_true rfl⟩)) (fun sz => c_X12_ends l D cA g sz h_t a_t o13 o17 hc18) [0, 1, 2, 3, 4, 5, 6, 7, 8, 9, 10, 11, 12, 13, 14, 15, 16, 17, 18, 19, 20, 21] [1000, 1001, 1002, 1003, 1004, 1005, 1006, 1007, 1008, 1009, 1010, 1011, 1012, 1013, 1014, 1015, 1016, 1017, 1018, 1019, 1020, 1021] rfl (by decide) rfl (by decide) rfl rfl rfl rfl rfl rfl (Nat.le_of_ble_eq_true rfl) dX12_victims_77 ⟨Nat.zero_le _, Nat.zero_le _⟩ ?_
        refine z_iload_n X dX12_victims_80 rfl 0 rfl ?_
        cases hF
        exact z_iret X hA hQ hr rfl dX12_victims_81 (Nat.le_refl _) (Nat.le_refl _)
      · have hF := hF.2 c19
        refine z_iconst (v := (-1 : Int32)) X dX12_victims_39 (by decide) ?_
        cases hF
        exact z_iret X hA hQ hr rfl dX12_victims_40 (Nat.le_refl _) (Nat.le_refl _)
set_option maxRecDepth 20000 in
theorem h_X12_replays_X12 : ∀ w ∈ wsX120, w ∈ wsX12_replays := by decide +kernel
set_option maxRecDepth 20000 in
theorem k_X12_replays_7 : ZF wsX12_replays RX12 7 12 0 RX12 TX12 47 := ⟨rfl, by decide, h_X12_replays_X12, by decide +kernel⟩
set_option maxHeartbeats 8000000 in
set_option maxRecDepth 100000 in
theorem c_X12_replays (l : Launch) (D : va_G) (cA : Nat → ClassId) (g : Nat → Nat) (sz : Nat) (h_t : Nat) (a_t : Nat → Nat) (o_t : Ob) (v1 : Int32) (v2 : Int32) (o_t' : Ob) (rv : Int32) (hF : f_X12_replays o_t v1 v2 = some (o_t', rv)) : Met l yX12_replays wsX12_replays ({ frames := 5, cells := 0, slots := 0, locals := 115 }) (va_Pc [.ref h_t, .int v1, .int v2] (PreW D cA g sz (w_X12_four cA h_t a_t o_t))) (va_Qi (fun (r : Int32) (_ : Unit) => r = rv) (PostW D cA sz (w_X12_four cA h_t a_t o_t) (w_X12_four cA h_t a_t o_t')) (va_A (w_X12_four cA h_t a_t o_t) sz)) 0 0 (va_A (w_X12_four cA h_t a_t o_t) sz) := by
  refine z_start (cc := cX12_replays) (maxL := 6) (ret := (some .int)) (lv0 := [(0, .ref h_t), (1, .int v1), (2, .int v2)]) (Qc := fun sz => va_Qi (fun (r : Int32) (_ : Unit) => r = rv) (PostW D cA sz (w_X12_four cA h_t a_t o_t) (w_X12_four cA h_t a_t o_t')) (va_A (w_X12_four cA h_t a_t o_t) sz)) (free := fun sz => va_A (w_X12_four cA h_t a_t o_t) sz) (by decide +kernel) rfl rfl (Nat.le_of_ble_eq_true rfl) ?_
  intro p e R s m args below meth c A Q hR hA hQ X hr hin
  unfold f_X12_replays at hF
  refine z_aload_n X dX12_replays_0 rfl 0 rfl ?_
  obtain ⟨o1, hc2, hF⟩ := zb1_e hF
  refine z_Vv (As := []) (rest := []) (wc := (w_X12_four cA h_t a_t o_t)) (wc' := (w_X12_four cA h_t a_t o1)) (ws' := (w_X12_four cA h_t a_t o1)) X (cwV 0 X.2.2.2.2.1 gX12_replays_X12_begins rfl rfl rfl (by decide +kernel) (by rw [hR]; exact ⟨Nat.le_of_ble_eq_true rfl, Nat.le_of_ble_eq_true rfl⟩)) (fun sz => c_X12_begins l D cA g sz h_t a_t o_t o1 hc2) [0, 1, 2, 3, 4, 5, 6, 7, 8, 9, 10, 11, 12, 13, 14, 15, 16, 17, 18, 19, 20, 21] [1000, 1001, 1002, 1003, 1004, 1005, 1006, 1007, 1008, 1009, 1010, 1011, 1012, 1013, 1014, 1015, 1016, 1017, 1018, 1019, 1020, 1021] rfl (by decide) rfl (by decide) rfl rfl rfl rfl rfl rfl (Nat.le_of_ble_eq_true rfl) dX12_replays_1 ⟨Nat.zero_le _, Nat.zero_le _⟩ ?_
  refine z_aload_n X dX12_replays_4 rfl 0 rfl ?_
  refine z_get (v := .ref (a_t 0)) X k_X12_replays_7 0 rfl rfl dX12_replays_5 ?_
  refine z_bipush (v := (7 : Int32)) X dX12_replays_8 (by decide) ?_
  obtain ⟨g3, hF⟩ := gi_e hF
  refine z_iald X 1 rfl g3 dX12_replays_10 ?_
  obtain ⟨x4, ex4, hF⟩ := nx_e hF
  refine z_nm ex4 ?_
  refine z_istore_n (lv' := [(3, .int x4), (0, .ref h_t), (1, .int v1), (2, .int v2)]) X dX12_replays_11 rfl (by decide) rfl ?_
  refine z_aload_n X dX12_replays_12 rfl 1 rfl ?_
  obtain ⟨o5, r6, hc7, hF⟩ := zb2_e hF
  refine z_Vi (As := []) (rest := []) (wc := (w_X12_four cA h_t a_t o1)) (wc' := (w_X12_four cA h_t a_t o5)) (ws' := (w_X12_four cA h_t a_t o5)) (rv := r6) X (cwV 0 X.2.2.2.2.1 gX12_replays_X12_empties rfl rfl rfl (by decide +kernel) (by rw [hR]; exact ⟨Nat.le_of_ble_eq_true rfl, Nat.le_of_ble_eq_true rfl⟩)) (fun sz => c_X12_empties l D cA g sz h_t a_t o1 o5 r6 hc7) [0, 1, 2, 3, 4, 5, 6, 7, 8, 9, 10, 11, 12, 13, 14, 15, 16, 17, 18, 19, 20, 21] [1000, 1001, 1002, 1003, 1004, 1005, 1006, 1007, 1008, 1009, 1010, 1011, 1012, 1013, 1014, 1015, 1016, 1017, 1018, 1019, 1020, 1021] rfl (by decide) rfl (by decide) rfl rfl rfl rfl rfl rfl (Nat.le_of_ble_eq_true rfl) dX12_replays_13 ⟨Nat.zero_le _, Nat.zero_le _⟩ ?_
  refine z_pop X dX12_replays_16 rfl ?_
  refine z_aload_n X dX12_replays_17 rfl 1 rfl ?_
  refine z_get (v := .ref (a_t 0)) X k_X12_replays_7 0 rfl rfl dX12_replays_18 ?_
  refine z_iconst (v := (0 : Int32)) X dX12_replays_21 (by decide) ?_
  refine z_iload_n X dX12_replays_22 rfl 2 rfl ?_
  obtain ⟨g8, hF⟩ := gi_e hF
  obtain ⟨o9, eo9, hF⟩ := nx_e hF
  refine z_iast (ws' := (w_X12_four cA h_t a_t o9)) X 1 rfl g8 (by rw [eo9]; rfl) dX12_replays_23 ?_
  refine z_aload_n X dX12_replays_24 rfl 1 rfl ?_
  refine z_get (v := .ref (a_t 0)) X k_X12_replays_7 0 rfl rfl dX12_replays_25 ?_
  refine z_iconst (v := (1 : Int32)) X dX12_replays_28 (by decide) ?_
  refine z_iload_n X dX12_replays_29 rfl 3 rfl ?_
  obtain ⟨g10, hF⟩ := gi_e hF
  obtain ⟨o11, eo11, hF⟩ := nx_e hF
  refine z_iast (ws' := (w_X12_four cA h_t a_t o11)) X 1 rfl g10 (by rw [eo11]; rfl) dX12_replays_30 ?_
  refine z_iconst (v := (0 : Int32)) X dX12_replays_31 (by decide) ?_
  refine z_istore (lv' := [(4, .int (0 : Int32)), (3, .int x4), (0, .ref h_t), (1, .int v1), (2, .int v2)]) X dX12_replays_32 (by decide) rfl ?_
  refine z_iconst (v := (0 : Int32)) X dX12_replays_34 (by decide) ?_
  refine z_istore (lv' := [(5, .int (0 : Int32)), (4, .int (0 : Int32)), (3, .int x4), (0, .ref h_t), (1, .int v1), (2, .int v2)]) X dX12_replays_35 (by decide) rfl ?_
  obtain ⟨o25, k26, hL, hF⟩ := zb2_e hF
  have L29_x : ∀ (o25' : Ob) (k26' : Int32), (o25', k26') = (o25, k26) → ZW p l e R s m args below meth c D A 6 0 0 Q (w_X12_four cA h_t a_t o25') [(0, .ref h_t), (4, .int k26')] 68 [] := by
    intro o25' k26' hz
    cases hz
    refine z_aload_n X dX12_replays_68 rfl 0 rfl ?_
    obtain ⟨o27, hc28, hF⟩ := zb1_e hF
    refine z_Vv (As := []) (rest := []) (wc := (w_X12_four cA h_t a_t o25)) (wc' := (w_X12_four cA h_t a_t o27)) (ws' := (w_X12_four cA h_t a_t o27)) X (cwV 0 X.2.2.2.2.1 gX12_replays_X12_ends rfl rfl rfl (by decide +kernel) (by rw [hR]; exact ⟨Nat.le_of_ble_eq_true rfl, Nat.le_of_ble_eq_true rfl⟩)) (fun sz => c_X12_ends l D cA g sz h_t a_t o25 o27 hc28) [0, 1, 2, 3, 4, 5, 6, 7, 8, 9, 10, 11, 12, 13, 14, 15, 16, 17, 18, 19, 20, 21] [1000, 1001, 1002, 1003, 1004, 1005, 1006, 1007, 1008, 1009, 1010, 1011, 1012, 1013, 1014, 1015, 1016, 1017, 1018, 1019, 1020, 1021] rfl (by decide) rfl (by decide) rfl rfl rfl rfl rfl rfl (Nat.le_of_ble_eq_true rfl) dX12_replays_69 ⟨Nat.zero_le _, Nat.zero_le _⟩ ?_
    refine z_iload X dX12_replays_72 1 rfl ?_
    cases hF
    exact z_iret X hA hQ hr rfl dX12_replays_74 (Nat.le_refl _) (Nat.le_refl _)
  obtain ⟨B38, hBB38, hL⟩ := zl3_b hL
  have L29 : ∀ (n : Nat) (o22 : Ob) (k23 : Int32) (k24 : Int32), zl3 B38 n o22 k23 k24 = some (o25, k26) → ZW p l e R s m args below meth c D A 6 0 0 Q (w_X12_four cA h_t a_t o22) [(0, .ref h_t), (3, .int x4), (4, .int k23), (5, .int k24)] 37 [] := by
    intro n
    induction n with
    | zero => intro o22 k23 k24 hL; cases hL
    | succ n ih =>
      intro o22 k23 k24 hL
      obtain ⟨zz30, hF, hL⟩ := zl3_e hL
      rw [hBB38] at hF
      refine z_iload X dX12_replays_37 3 rfl ?_
      refine z_iload_n X dX12_replays_39 rfl 1 rfl ?_
      have hF := if_e hF
      refine z_icmp_ge (tgt := 68) X dX12_replays_40 (by decide) (fun c37 => ?_) (fun c37 => ?_)
      · have hF := hF.1 c37
        cases hF
        have hL := Option.some.inj hL
        refine z_lv (lv' := [(0, .ref h_t), (4, .int k23)]) [0, 2] rfl ?_
        exact L29_x o22 k23 hL
      · have hF := hF.2 c37
        refine z_iload X dX12_replays_43 2 rfl ?_
        refine z_aload_n X dX12_replays_45 rfl 0 rfl ?_
        refine z_aload_n X dX12_replays_46 rfl 0 rfl ?_
        refine z_get (v := .ref (a_t 0)) X k_X12_replays_7 0 rfl rfl dX12_replays_47 ?_
        refine z_bipush (v := (104 : Int32)) X dX12_replays_50 (by decide) ?_
        refine z_iload X dX12_replays_52 3 rfl ?_
        refine z_iadd X dX12_replays_54 ?_
        obtain ⟨g31, hF⟩ := gi_e hF
        refine z_iald X 1 rfl g31 dX12_replays_55 ?_
        obtain ⟨o32, r33, hc34, hF⟩ := zb2_e hF
        refine z_Vi (As := [.int (o22 0 (Int32.toNatClampNeg ((104 : Int32) + k24)))]) (rest := [.int k23]) (wc := (w_X12_four cA h_t a_t o22)) (wc' := (w_X12_four cA h_t a_t o32)) (ws' := (w_X12_four cA h_t a_t o32)) (rv := r33) X (cwV 1 X.2.2.2.2.1 gX12_replays_X12_asks rfl rfl rfl (by decide +kernel) (by rw [hR]; exact ⟨Nat.le_of_ble_eq_true rfl, Nat.le_of_ble_eq_true rfl⟩)) (fun sz => c_X12_asks l D cA g sz h_t a_t o22 (o22 0 (Int32.toNatClampNeg ((104 : Int32) + k24))) o32 r33 hc34) [0, 1, 2, 3, 4, 5, 6, 7, 8, 9, 10, 11, 12, 13, 14, 15, 16, 17, 18, 19, 20, 21] [1000, 1001, 1002, 1003, 1004, 1005, 1006, 1007, 1008, 1009, 1010, 1011, 1012, 1013, 1014, 1015, 1016, 1017, 1018, 1019, 1020, 1021] rfl (by decide) rfl (by decide) rfl rfl rfl rfl rfl rfl (Nat.le_of_ble_eq_true rfl) dX12_replays_56 ⟨Nat.zero_le _, Nat.zero_le _⟩ ?_
        refine z_iadd X dX12_replays_59 ?_
        obtain ⟨x35, ex35, hF⟩ := nx_e hF
        refine z_nm ex35 ?_
        refine z_istore (lv' := [(4, .int x35), (0, .ref h_t), (3, .int x4), (5, .int k24)]) X dX12_replays_60 (by decide) rfl ?_
        obtain ⟨x36, ex36, hF⟩ := nx_e hF
        refine z_iinc (v := x36) (lv' := [(5, .int x36), (4, .int x35), (0, .ref h_t), (3, .int x4)]) (j := 3) X dX12_replays_62 rfl (by rw [ex36]; rfl) (by decide) rfl ?_
        refine z_goto (tgt := 37) X dX12_replays_65 (by decide) ?_
        cases hF
        refine z_lv (lv' := [(0, .ref h_t), (3, .int x4), (4, .int x35), (5, .int x36)]) [2, 3, 1, 0] rfl ?_
        exact ih o32 x35 x36 hL
  refine z_lv (lv' := [(0, .ref h_t), (3, .int x4), (4, .int (0 : Int32)), (5, .int (0 : Int32))]) [3, 2, 1, 0] rfl ?_
  exact L29 FU o11 (0 : Int32) (0 : Int32) hL
set_option maxRecDepth 20000 in
theorem h_X12_curve_X12 : ∀ w ∈ wsX120, w ∈ wsX12_curve := by decide +kernel
set_option maxRecDepth 20000 in
theorem k_X12_curve_7 : ZF wsX12_curve RX12 7 12 0 RX12 TX12 47 := ⟨rfl, by decide, h_X12_curve_X12, by decide +kernel⟩
set_option maxHeartbeats 8000000 in
set_option maxRecDepth 100000 in
theorem c_X12_curve (l : Launch) (D : va_G) (cA : Nat → ClassId) (g : Nat → Nat) (sz : Nat) (h_t : Nat) (a_t : Nat → Nat) (o_t : Ob) (v1 : Int32) (v2 : Int32) (o_t' : Ob) (rv : Int32) (hF : f_X12_curve o_t v1 v2 = some (o_t', rv)) : Met l yX12_curve wsX12_curve ({ frames := 6, cells := 0, slots := 0, locals := 140 }) (va_Pc [.ref h_t, .int v1, .int v2] (PreW D cA g sz (w_X12_four cA h_t a_t o_t))) (va_Qi (fun (r : Int32) (_ : Unit) => r = rv) (PostW D cA sz (w_X12_four cA h_t a_t o_t) (w_X12_four cA h_t a_t o_t')) (va_A (w_X12_four cA h_t a_t o_t) sz)) 0 0 (va_A (w_X12_four cA h_t a_t o_t) sz) := by
  refine z_start (cc := cX12_curve) (maxL := 3) (ret := (some .int)) (lv0 := [(0, .ref h_t), (1, .int v1), (2, .int v2)]) (Qc := fun sz => va_Qi (fun (r : Int32) (_ : Unit) => r = rv) (PostW D cA sz (w_X12_four cA h_t a_t o_t) (w_X12_four cA h_t a_t o_t')) (va_A (w_X12_four cA h_t a_t o_t) sz)) (free := fun sz => va_A (w_X12_four cA h_t a_t o_t) sz) (by decide +kernel) rfl rfl (Nat.le_of_ble_eq_true rfl) ?_
  intro p e R s m args below meth c A Q hR hA hQ X hr hin
  unfold f_X12_curve at hF
  refine z_iload_n X dX12_curve_0 rfl 1 rfl ?_
  refine z_iconst (v := (1 : Int32)) X dX12_curve_1 (by decide) ?_
  refine z_bipush (v := (20 : Int32)) X dX12_curve_2 (by decide) ?_
  obtain ⟨r1, hc2, hF⟩ := zb1_e hF
  refine z_Si (As := [.int v1, .int (1 : Int32), .int (20 : Int32)]) (rest := []) (wc := ([] : va_W)) (wc' := ([] : va_W)) (ws' := (w_X12_four cA h_t a_t o_t)) (rv := r1) X (va_cwS 3 X.2.2.2.2.1 gX12_curve_X12_isIn rfl rfl rfl (by decide +kernel) (by rw [hR]; exact ⟨Nat.le_of_ble_eq_true rfl, Nat.le_of_ble_eq_true rfl⟩)) (fun sz => c_X12_isIn l D cA g sz v1 (1 : Int32) (20 : Int32) r1 hc2) [] [0, 1, 2, 3, 4, 5, 6, 7, 8, 9, 10, 11, 12, 13, 14, 15, 16, 17, 18, 19, 20, 21] rfl (by decide) rfl (by decide) rfl rfl rfl (Nat.le_of_ble_eq_true rfl) dX12_curve_4 ⟨Nat.zero_le _, Nat.zero_le _⟩ ?_
  have hF := if_e hF
  refine z_if_eq (tgt := 19) X dX12_curve_7 (by decide) (fun c15 => ?_) (fun c15 => ?_)
  · have hF := hF.1 c15
    refine z_iconst (v := (-1 : Int32)) X dX12_curve_19 (by decide) ?_
    cases hF
    exact z_iret X hA hQ hr rfl dX12_curve_20 (Nat.le_refl _) (Nat.le_refl _)
  · have hF := hF.2 c15
    refine z_iload_n X dX12_curve_10 rfl 2 rfl ?_
    refine z_iconst (v := (0 : Int32)) X dX12_curve_11 (by decide) ?_
    refine z_iconst (v := (1 : Int32)) X dX12_curve_12 (by decide) ?_
    obtain ⟨r3, hc4, hF⟩ := zb1_e hF
    refine z_Si (As := [.int v2, .int (0 : Int32), .int (1 : Int32)]) (rest := []) (wc := ([] : va_W)) (wc' := ([] : va_W)) (ws' := (w_X12_four cA h_t a_t o_t)) (rv := r3) X (va_cwS 3 X.2.2.2.2.1 gX12_curve_X12_isIn rfl rfl rfl (by decide +kernel) (by rw [hR]; exact ⟨Nat.le_of_ble_eq_true rfl, Nat.le_of_ble_eq_true rfl⟩)) (fun sz => c_X12_isIn l D cA g sz v2 (0 : Int32) (1 : Int32) r3 hc4) [] [0, 1, 2, 3, 4, 5, 6, 7, 8, 9, 10, 11, 12, 13, 14, 15, 16, 17, 18, 19, 20, 21] rfl (by decide) rfl (by decide) rfl rfl rfl (Nat.le_of_ble_eq_true rfl) dX12_curve_13 ⟨Nat.zero_le _, Nat.zero_le _⟩ ?_
    have hF := if_e hF
    refine z_if_ne (tgt := 21) X dX12_curve_16 (by decide) (fun c14 => ?_) (fun c14 => ?_)
    · have hF := hF.2 c14
      refine z_iload_n X dX12_curve_21 rfl 2 rfl ?_
      have hF := if_e hF
      refine z_if_ne (tgt := 39) X dX12_curve_22 (by decide) (fun c13 => ?_) (fun c13 => ?_)
      · have hF := hF.2 c13
        refine z_aload_n X dX12_curve_39 rfl 0 rfl ?_
        refine z_aload_n X dX12_curve_40 rfl 0 rfl ?_
        refine z_get (v := .ref (a_t 0)) X k_X12_curve_7 0 rfl rfl dX12_curve_41 ?_
        refine z_bipush (v := (7 : Int32)) X dX12_curve_44 (by decide) ?_
        obtain ⟨g5, hF⟩ := gi_e hF
        refine z_iald X 1 rfl g5 dX12_curve_46 ?_
        refine z_iload_n X dX12_curve_47 rfl 1 rfl ?_
        refine z_iconst (v := (0 : Int32)) X dX12_curve_48 (by decide) ?_
        obtain ⟨o6, r7, hc8, hF⟩ := zb2_e hF
        refine z_Vi (As := [.int (o_t 0 (Int32.toNatClampNeg (7 : Int32))), .int v1, .int (0 : Int32)]) (rest := []) (wc := (w_X12_four cA h_t a_t o_t)) (wc' := (w_X12_four cA h_t a_t o6)) (ws' := (w_X12_four cA h_t a_t o6)) (rv := r7) X (cwV 3 X.2.2.2.2.1 gX12_curve_X12_plans rfl rfl rfl (by decide +kernel) (by rw [hR]; exact ⟨Nat.le_of_ble_eq_true rfl, Nat.le_of_ble_eq_true rfl⟩)) (fun sz => c_X12_plans l D cA g sz h_t a_t o_t (o_t 0 (Int32.toNatClampNeg (7 : Int32))) v1 (0 : Int32) o6 r7 hc8) [0, 1, 2, 3, 4, 5, 6, 7, 8, 9, 10, 11, 12, 13, 14, 15, 16, 17, 18, 19, 20, 21] [1000, 1001, 1002, 1003, 1004, 1005, 1006, 1007, 1008, 1009, 1010, 1011, 1012, 1013, 1014, 1015, 1016, 1017, 1018, 1019, 1020, 1021] rfl (by decide) rfl (by decide) rfl rfl rfl rfl rfl rfl (Nat.le_of_ble_eq_true rfl) dX12_curve_49 ⟨Nat.zero_le _, Nat.zero_le _⟩ ?_
        cases hF
        exact z_iret X hA hQ hr rfl dX12_curve_52 (Nat.le_refl _) (Nat.le_refl _)
      · have hF := hF.1 c13
        refine z_aload_n X dX12_curve_25 rfl 0 rfl ?_
        refine z_iload_n X dX12_curve_26 rfl 1 rfl ?_
        refine z_aload_n X dX12_curve_27 rfl 0 rfl ?_
        refine z_get (v := .ref (a_t 0)) X k_X12_curve_7 0 rfl rfl dX12_curve_28 ?_
        refine z_iconst (v := (1 : Int32)) X dX12_curve_31 (by decide) ?_
        obtain ⟨g9, hF⟩ := gi_e hF
        refine z_iald X 1 rfl g9 dX12_curve_32 ?_
        obtain ⟨o10, r11, hc12, hF⟩ := zb2_e hF
        refine z_Vi (As := [.int v1, .int (o_t 0 (Int32.toNatClampNeg (1 : Int32)))]) (rest := []) (wc := (w_X12_four cA h_t a_t o_t)) (wc' := (w_X12_four cA h_t a_t o10)) (ws' := (w_X12_four cA h_t a_t o10)) (rv := r11) X (cwV 2 X.2.2.2.2.1 gX12_curve_X12_replays rfl rfl rfl (by decide +kernel) (by rw [hR]; exact ⟨Nat.le_of_ble_eq_true rfl, Nat.le_of_ble_eq_true rfl⟩)) (fun sz => c_X12_replays l D cA g sz h_t a_t o_t v1 (o_t 0 (Int32.toNatClampNeg (1 : Int32))) o10 r11 hc12) [0, 1, 2, 3, 4, 5, 6, 7, 8, 9, 10, 11, 12, 13, 14, 15, 16, 17, 18, 19, 20, 21] [1000, 1001, 1002, 1003, 1004, 1005, 1006, 1007, 1008, 1009, 1010, 1011, 1012, 1013, 1014, 1015, 1016, 1017, 1018, 1019, 1020, 1021] rfl (by decide) rfl (by decide) rfl rfl rfl rfl rfl rfl (Nat.le_of_ble_eq_true rfl) dX12_curve_33 ⟨Nat.zero_le _, Nat.zero_le _⟩ ?_
        refine z_goto (tgt := 52) X dX12_curve_36 (by decide) ?_
        cases hF
        exact z_iret X hA hQ hr rfl dX12_curve_52 (Nat.le_refl _) (Nat.le_refl _)
    · have hF := hF.1 c14
      refine z_iconst (v := (-1 : Int32)) X dX12_curve_19 (by decide) ?_
      cases hF
      exact z_iret X hA hQ hr rfl dX12_curve_20 (Nat.le_refl _) (Nat.le_refl _)
set_option maxRecDepth 20000 in
theorem h_X12_would_X12 : ∀ w ∈ wsX120, w ∈ wsX12_would := by decide +kernel
set_option maxRecDepth 20000 in
theorem k_X12_would_7 : ZF wsX12_would RX12 7 12 0 RX12 TX12 47 := ⟨rfl, by decide, h_X12_would_X12, by decide +kernel⟩
set_option maxHeartbeats 8000000 in
set_option maxRecDepth 100000 in
theorem c_X12_would (l : Launch) (D : va_G) (cA : Nat → ClassId) (g : Nat → Nat) (sz : Nat) (h_t : Nat) (a_t : Nat → Nat) (o_t : Ob) (v1 : Int32) (o_t' : Ob) (rv : Int32) (hF : f_X12_would o_t v1 = some (o_t', rv)) : Met l yX12_would wsX12_would ({ frames := 6, cells := 0, slots := 0, locals := 140 }) (va_Pc [.ref h_t, .int v1] (PreW D cA g sz (w_X12_four cA h_t a_t o_t))) (va_Qi (fun (r : Int32) (_ : Unit) => r = rv) (PostW D cA sz (w_X12_four cA h_t a_t o_t) (w_X12_four cA h_t a_t o_t')) (va_A (w_X12_four cA h_t a_t o_t) sz)) 0 0 (va_A (w_X12_four cA h_t a_t o_t) sz) := by
  refine z_start (cc := cX12_would) (maxL := 2) (ret := (some .int)) (lv0 := [(0, .ref h_t), (1, .int v1)]) (Qc := fun sz => va_Qi (fun (r : Int32) (_ : Unit) => r = rv) (PostW D cA sz (w_X12_four cA h_t a_t o_t) (w_X12_four cA h_t a_t o_t')) (va_A (w_X12_four cA h_t a_t o_t) sz)) (free := fun sz => va_A (w_X12_four cA h_t a_t o_t) sz) (by decide +kernel) rfl rfl (Nat.le_of_ble_eq_true rfl) ?_
  intro p e R s m args below meth c A Q hR hA hQ X hr hin
  unfold f_X12_would at hF
  refine z_iload_n X dX12_would_0 rfl 1 rfl ?_
  refine z_iconst (v := (0 : Int32)) X dX12_would_1 (by decide) ?_
  refine z_iconst (v := (2 : Int32)) X dX12_would_2 (by decide) ?_
  obtain ⟨r1, hc2, hF⟩ := zb1_e hF
  refine z_Si (As := [.int v1, .int (0 : Int32), .int (2 : Int32)]) (rest := []) (wc := ([] : va_W)) (wc' := ([] : va_W)) (ws' := (w_X12_four cA h_t a_t o_t)) (rv := r1) X (va_cwS 3 X.2.2.2.2.1 gX12_would_X12_isIn rfl rfl rfl (by decide +kernel) (by rw [hR]; exact ⟨Nat.le_of_ble_eq_true rfl, Nat.le_of_ble_eq_true rfl⟩)) (fun sz => c_X12_isIn l D cA g sz v1 (0 : Int32) (2 : Int32) r1 hc2) [] [0, 1, 2, 3, 4, 5, 6, 7, 8, 9, 10, 11, 12, 13, 14, 15, 16, 17, 18, 19, 20, 21] rfl (by decide) rfl (by decide) rfl rfl rfl (Nat.le_of_ble_eq_true rfl) dX12_would_3 ⟨Nat.zero_le _, Nat.zero_le _⟩ ?_
  have hF := if_e hF
  refine z_if_eq (tgt := 23) X dX12_would_6 (by decide) (fun c7 => ?_) (fun c7 => ?_)
  · have hF := hF.1 c7
    refine z_iconst (v := (-1 : Int32)) X dX12_would_23 (by decide) ?_
    cases hF
    exact z_iret X hA hQ hr rfl dX12_would_24 (Nat.le_refl _) (Nat.le_refl _)
  · have hF := hF.2 c7
    refine z_aload_n X dX12_would_9 rfl 0 rfl ?_
    refine z_aload_n X dX12_would_10 rfl 0 rfl ?_
    refine z_get (v := .ref (a_t 0)) X k_X12_would_7 0 rfl rfl dX12_would_11 ?_
    refine z_iconst (v := (0 : Int32)) X dX12_would_14 (by decide) ?_
    obtain ⟨g3, hF⟩ := gi_e hF
    refine z_iald X 1 rfl g3 dX12_would_15 ?_
    refine z_iload_n X dX12_would_16 rfl 1 rfl ?_
    obtain ⟨o4, r5, hc6, hF⟩ := zb2_e hF
    refine z_Vi (As := [.int (o_t 0 (Int32.toNatClampNeg (0 : Int32))), .int v1]) (rest := []) (wc := (w_X12_four cA h_t a_t o_t)) (wc' := (w_X12_four cA h_t a_t o4)) (ws' := (w_X12_four cA h_t a_t o4)) (rv := r5) X (cwV 2 X.2.2.2.2.1 gX12_would_X12_replays rfl rfl rfl (by decide +kernel) (by rw [hR]; exact ⟨Nat.le_of_ble_eq_true rfl, Nat.le_of_ble_eq_true rfl⟩)) (fun sz => c_X12_replays l D cA g sz h_t a_t o_t (o_t 0 (Int32.toNatClampNeg (0 : Int32))) v1 o4 r5 hc6) [0, 1, 2, 3, 4, 5, 6, 7, 8, 9, 10, 11, 12, 13, 14, 15, 16, 17, 18, 19, 20, 21] [1000, 1001, 1002, 1003, 1004, 1005, 1006, 1007, 1008, 1009, 1010, 1011, 1012, 1013, 1014, 1015, 1016, 1017, 1018, 1019, 1020, 1021] rfl (by decide) rfl (by decide) rfl rfl rfl rfl rfl rfl (Nat.le_of_ble_eq_true rfl) dX12_would_17 ⟨Nat.zero_le _, Nat.zero_le _⟩ ?_
    refine z_goto (tgt := 24) X dX12_would_20 (by decide) ?_
    cases hF
    exact z_iret X hA hQ hr rfl dX12_would_24 (Nat.le_refl _) (Nat.le_refl _)
set_option maxRecDepth 20000 in
theorem h_X12_spent_X12 : ∀ w ∈ wsX120, w ∈ wsX12_spent := by decide +kernel
set_option maxRecDepth 20000 in
theorem k_X12_spent_7 : ZF wsX12_spent RX12 7 12 0 RX12 TX12 47 := ⟨rfl, by decide, h_X12_spent_X12, by decide +kernel⟩
set_option maxHeartbeats 8000000 in
set_option maxRecDepth 100000 in
theorem c_X12_spent (l : Launch) (D : va_G) (cA : Nat → ClassId) (g : Nat → Nat) (sz : Nat) (h_t : Nat) (a_t : Nat → Nat) (o_t : Ob) (v1 : Int32) (v2 : Int32) (rv : Int32) (hF : f_X12_spent o_t v1 v2 = some rv) : Met l yX12_spent wsX12_spent ({ frames := 2, cells := 0, slots := 0, locals := 43 }) (va_Pc [.ref h_t, .int v1, .int v2] (PreW D cA g sz (w_X12_four cA h_t a_t o_t))) (va_Qi (fun (r : Int32) (_ : Unit) => r = rv) (PostW D cA sz (w_X12_four cA h_t a_t o_t) (w_X12_four cA h_t a_t o_t)) (va_A (w_X12_four cA h_t a_t o_t) sz)) 0 0 (va_A (w_X12_four cA h_t a_t o_t) sz) := by
  refine z_start (cc := cX12_spent) (maxL := 5) (ret := (some .int)) (lv0 := [(0, .ref h_t), (1, .int v1), (2, .int v2)]) (Qc := fun sz => va_Qi (fun (r : Int32) (_ : Unit) => r = rv) (PostW D cA sz (w_X12_four cA h_t a_t o_t) (w_X12_four cA h_t a_t o_t)) (va_A (w_X12_four cA h_t a_t o_t) sz)) (free := fun sz => va_A (w_X12_four cA h_t a_t o_t) sz) (by decide +kernel) rfl rfl (Nat.le_of_ble_eq_true rfl) ?_
  intro p e R s m args below meth c A Q hR hA hQ X hr hin
  unfold f_X12_spent at hF
  refine z_aload_n X dX12_spent_0 rfl 0 rfl ?_
  refine z_iload_n X dX12_spent_1 rfl 1 rfl ?_
  obtain ⟨r1, hc2, hF⟩ := zb1_e hF
  refine z_Vi (As := [.int v1]) (rest := []) (wc := (w_X12_four cA h_t a_t o_t)) (wc' := (w_X12_four cA h_t a_t o_t)) (ws' := (w_X12_four cA h_t a_t o_t)) (rv := r1) X (cwV 1 X.2.2.2.2.1 gX12_spent_X12_isItem rfl rfl rfl (by decide +kernel) (by rw [hR]; exact ⟨Nat.le_of_ble_eq_true rfl, Nat.le_of_ble_eq_true rfl⟩)) (fun sz => c_X12_isItem l D cA g sz h_t a_t o_t v1 r1 hc2) [0, 1, 2, 3, 4, 5, 6, 7, 8, 9, 10, 11, 12, 13, 14, 15, 16, 17, 18, 19, 20, 21] [1000, 1001, 1002, 1003, 1004, 1005, 1006, 1007, 1008, 1009, 1010, 1011, 1012, 1013, 1014, 1015, 1016, 1017, 1018, 1019, 1020, 1021] rfl (by decide) rfl (by decide) rfl rfl rfl rfl rfl rfl (Nat.le_of_ble_eq_true rfl) dX12_spent_2 ⟨Nat.zero_le _, Nat.zero_le _⟩ ?_
  have hF := if_e hF
  refine z_if_eq (tgt := 17) X dX12_spent_5 (by decide) (fun c53 => ?_) (fun c53 => ?_)
  · have hF := hF.1 c53
    refine z_iconst (v := (-1 : Int32)) X dX12_spent_17 (by decide) ?_
    cases hF
    exact z_iret X hA hQ hr rfl dX12_spent_18 (Nat.le_refl _) (Nat.le_refl _)
  · have hF := hF.2 c53
    refine z_iload_n X dX12_spent_8 rfl 2 rfl ?_
    refine z_iconst (v := (0 : Int32)) X dX12_spent_9 (by decide) ?_
    refine z_iconst (v := (2 : Int32)) X dX12_spent_10 (by decide) ?_
    obtain ⟨r3, hc4, hF⟩ := zb1_e hF
    refine z_Si (As := [.int v2, .int (0 : Int32), .int (2 : Int32)]) (rest := []) (wc := ([] : va_W)) (wc' := ([] : va_W)) (ws' := (w_X12_four cA h_t a_t o_t)) (rv := r3) X (va_cwS 3 X.2.2.2.2.1 gX12_spent_X12_isIn rfl rfl rfl (by decide +kernel) (by rw [hR]; exact ⟨Nat.le_of_ble_eq_true rfl, Nat.le_of_ble_eq_true rfl⟩)) (fun sz => c_X12_isIn l D cA g sz v2 (0 : Int32) (2 : Int32) r3 hc4) [] [0, 1, 2, 3, 4, 5, 6, 7, 8, 9, 10, 11, 12, 13, 14, 15, 16, 17, 18, 19, 20, 21] rfl (by decide) rfl (by decide) rfl rfl rfl (Nat.le_of_ble_eq_true rfl) dX12_spent_11 ⟨Nat.zero_le _, Nat.zero_le _⟩ ?_
    have hF := if_e hF
    refine z_if_ne (tgt := 19) X dX12_spent_14 (by decide) (fun c52 => ?_) (fun c52 => ?_)
    · have hF := hF.2 c52
      refine z_iconst (v := (0 : Int32)) X dX12_spent_19 (by decide) ?_
      refine z_istore_n (lv' := [(3, .int (0 : Int32)), (0, .ref h_t), (1, .int v1), (2, .int v2)]) X dX12_spent_20 rfl (by decide) rfl ?_
      refine z_iconst (v := (0 : Int32)) X dX12_spent_21 (by decide) ?_
      refine z_istore (lv' := [(4, .int (0 : Int32)), (3, .int (0 : Int32)), (0, .ref h_t), (1, .int v1), (2, .int v2)]) X dX12_spent_22 (by decide) rfl ?_
      obtain ⟨k29, hL, hF⟩ := zb1_e hF
      have L30_x : ∀ (k29' : Int32), k29' = k29 → ZW p l e R s m args below meth c D A 5 0 0 Q (w_X12_four cA h_t a_t o_t) [(3, .int k29')] 104 [] := by
        intro k29' hz
        cases hz
        refine z_iload_n X dX12_spent_104 rfl 0 rfl ?_
        cases hF
        exact z_iret X hA hQ hr rfl dX12_spent_105 (Nat.le_refl _) (Nat.le_refl _)
      obtain ⟨B51, hBB51, hL⟩ := zl2_b hL
      have L30 : ∀ (n : Nat) (k27 : Int32) (k28 : Int32), zl2 B51 n k27 k28 = some k29 → ZW p l e R s m args below meth c D A 5 0 0 Q (w_X12_four cA h_t a_t o_t) [(0, .ref h_t), (1, .int v1), (2, .int v2), (3, .int k27), (4, .int k28)] 24 [] := by
        intro n
        induction n with
        | zero => intro k27 k28 hL; cases hL
        | succ n ih =>
          intro k27 k28 hL
          obtain ⟨zz31, hF, hL⟩ := zl2_e hL
          rw [hBB51] at hF
          refine z_iload X dX12_spent_24 4 rfl ?_
          refine z_aload_n X dX12_spent_26 rfl 0 rfl ?_
          refine z_get (v := .ref (a_t 0)) X k_X12_spent_7 0 rfl rfl dX12_spent_27 ?_
          refine z_bipush (v := (7 : Int32)) X dX12_spent_30 (by decide) ?_
          obtain ⟨g32, hF⟩ := gi_e hF
          refine z_iald X 1 rfl g32 dX12_spent_32 ?_
          have hF := if_e hF
          refine z_icmp_ge (tgt := 104) X dX12_spent_33 (by decide) (fun c50 => ?_) (fun c50 => ?_)
          · have hF := hF.1 c50
            cases hF
            have hL := Option.some.inj hL
            refine z_lv (lv' := [(3, .int k27)]) [3] rfl ?_
            exact L30_x k27 hL
          · have hF := hF.2 c50
            refine z_aload_n X dX12_spent_36 rfl 0 rfl ?_
            refine z_get (v := .ref (a_t 0)) X k_X12_spent_7 0 rfl rfl dX12_spent_37 ?_
            refine z_bipush (v := (104 : Int32)) X dX12_spent_40 (by decide) ?_
            refine z_iload X dX12_spent_42 4 rfl ?_
            refine z_iadd X dX12_spent_44 ?_
            obtain ⟨g33, hF⟩ := gi_e hF
            refine z_iald X 1 rfl g33 dX12_spent_45 ?_
            refine z_iload_n X dX12_spent_46 rfl 1 rfl ?_
            have hF := if_e hF
            refine z_icmp_eq (tgt := 53) X dX12_spent_47 (by decide) (fun c49 => ?_) (fun c49 => ?_)
            · have hF := hF.1 c49
              refine z_iload_n X dX12_spent_53 rfl 3 rfl ?_
              refine z_iload_n X dX12_spent_54 rfl 2 rfl ?_
              refine z_iconst (v := (2 : Int32)) X dX12_spent_55 (by decide) ?_
              obtain ⟨K40, eK40, hF⟩ := nx_e hF
              have K40_l : ∀ (j39 : Int32), K40 j39 = some zz31 → ZW p l e R s m args below meth c D A 5 0 0 Q (w_X12_four cA h_t a_t o_t) [(0, .ref h_t), (1, .int v1), (2, .int v2), (4, .int k28)] 96 [.int j39, .int k27] := by
                intro j39 hF
                rw [eK40] at hF
                refine z_iadd X dX12_spent_96 ?_
                obtain ⟨x41, ex41, hF⟩ := nx_e hF
                refine z_nm ex41 ?_
                refine z_istore_n (lv' := [(3, .int x41), (0, .ref h_t), (1, .int v1), (2, .int v2), (4, .int k28)]) X dX12_spent_97 rfl (by decide) rfl ?_
                obtain ⟨x42, ex42, hF⟩ := nx_e hF
                refine z_iinc (v := x42) (lv' := [(4, .int x42), (3, .int x41), (0, .ref h_t), (1, .int v1), (2, .int v2)]) (j := 4) X dX12_spent_98 rfl (by rw [ex42]; rfl) (by decide) rfl ?_
                refine z_goto (tgt := 24) X dX12_spent_101 (by decide) ?_
                cases hF
                refine z_lv (lv' := [(0, .ref h_t), (1, .int v1), (2, .int v2), (3, .int x41), (4, .int x42)]) [2, 3, 4, 1, 0] rfl ?_
                exact ih x41 x42 hL
              have hF := if_e hF
              refine z_icmp_ne (tgt := 73) X dX12_spent_56 (by decide) (fun c47 => ?_) (fun c47 => ?_)
              · have hF := hF.2 c47
                refine z_iload_n X dX12_spent_73 rfl 2 rfl ?_
                have hF := if_e hF
                refine z_if_eq (tgt := 91) X dX12_spent_74 (by decide) (fun c45 => ?_) (fun c45 => ?_)
                · have hF := hF.1 c45
                  refine z_iconst (v := (1 : Int32)) X dX12_spent_91 (by decide) ?_
                  refine z_goto (tgt := 96) X dX12_spent_92 (by decide) ?_
                  refine z_lv (lv' := [(0, .ref h_t), (1, .int v1), (2, .int v2), (4, .int k28)]) [0, 1, 2, 4] rfl ?_
                  exact K40_l (1 : Int32) hF
                · have hF := hF.2 c45
                  refine z_aload_n X dX12_spent_77 rfl 0 rfl ?_
                  refine z_get (v := .ref (a_t 0)) X k_X12_spent_7 0 rfl rfl dX12_spent_78 ?_
                  refine z_sipush (v := (144 : Int32)) X dX12_spent_81 (by decide) ?_
                  refine z_iload X dX12_spent_84 4 rfl ?_
                  refine z_iadd X dX12_spent_86 ?_
                  obtain ⟨g43, hF⟩ := gi_e hF
                  refine z_iald X 1 rfl g43 dX12_spent_87 ?_
                  have hF := if_e hF
                  refine z_if_ne (tgt := 95) X dX12_spent_88 (by decide) (fun c44 => ?_) (fun c44 => ?_)
                  · have hF := hF.2 c44
                    refine z_iconst (v := (0 : Int32)) X dX12_spent_95 (by decide) ?_
                    refine z_lv (lv' := [(0, .ref h_t), (1, .int v1), (2, .int v2), (4, .int k28)]) [0, 1, 2, 4] rfl ?_
                    exact K40_l (0 : Int32) hF
                  · have hF := hF.1 c44
                    refine z_iconst (v := (1 : Int32)) X dX12_spent_91 (by decide) ?_
                    refine z_goto (tgt := 96) X dX12_spent_92 (by decide) ?_
                    refine z_lv (lv' := [(0, .ref h_t), (1, .int v1), (2, .int v2), (4, .int k28)]) [0, 1, 2, 4] rfl ?_
                    exact K40_l (1 : Int32) hF
              · have hF := hF.1 c47
                refine z_aload_n X dX12_spent_59 rfl 0 rfl ?_
                refine z_get (v := .ref (a_t 0)) X k_X12_spent_7 0 rfl rfl dX12_spent_60 ?_
                refine z_sipush (v := (144 : Int32)) X dX12_spent_63 (by decide) ?_
                refine z_iload X dX12_spent_66 4 rfl ?_
                refine z_iadd X dX12_spent_68 ?_
                obtain ⟨g46, hF⟩ := gi_e hF
                refine z_iald X 1 rfl g46 dX12_spent_69 ?_
                refine z_goto (tgt := 96) X dX12_spent_70 (by decide) ?_
                refine z_lv (lv' := [(0, .ref h_t), (1, .int v1), (2, .int v2), (4, .int k28)]) [0, 1, 2, 4] rfl ?_
                exact K40_l (o_t 0 (Int32.toNatClampNeg ((144 : Int32) + k28))) hF
            · have hF := hF.2 c49
              refine z_goto (tgt := 98) X dX12_spent_50 (by decide) ?_
              obtain ⟨x48, ex48, hF⟩ := nx_e hF
              refine z_iinc (v := x48) (lv' := [(4, .int x48), (0, .ref h_t), (1, .int v1), (2, .int v2), (3, .int k27)]) (j := 4) X dX12_spent_98 rfl (by rw [ex48]; rfl) (by decide) rfl ?_
              refine z_goto (tgt := 24) X dX12_spent_101 (by decide) ?_
              cases hF
              refine z_lv (lv' := [(0, .ref h_t), (1, .int v1), (2, .int v2), (3, .int k27), (4, .int x48)]) [1, 2, 3, 4, 0] rfl ?_
              exact ih k27 x48 hL
      refine z_lv (lv' := [(0, .ref h_t), (1, .int v1), (2, .int v2), (3, .int (0 : Int32)), (4, .int (0 : Int32))]) [2, 3, 4, 1, 0] rfl ?_
      exact L30 FU (0 : Int32) (0 : Int32) hL
    · have hF := hF.1 c52
      refine z_iconst (v := (-1 : Int32)) X dX12_spent_17 (by decide) ?_
      cases hF
      exact z_iret X hA hQ hr rfl dX12_spent_18 (Nat.le_refl _) (Nat.le_refl _)
set_option maxRecDepth 20000 in
theorem h_X12_picture_X12 : ∀ w ∈ wsX120, w ∈ wsX12_picture := by decide +kernel
set_option maxRecDepth 20000 in
theorem k_X12_picture_7 : ZF wsX12_picture RX12 7 12 0 RX12 TX12 47 := ⟨rfl, by decide, h_X12_picture_X12, by decide +kernel⟩
set_option maxRecDepth 20000 in
theorem k_X12_picture_63 : ZF wsX12_picture RX12 63 12 38 RX12 TX12 47 := ⟨rfl, by decide, h_X12_picture_X12, by decide +kernel⟩
set_option maxRecDepth 20000 in
theorem k_X12_picture_338 : ZF wsX12_picture RX12 338 12 39 RX12 TX12 47 := ⟨rfl, by decide, h_X12_picture_X12, by decide +kernel⟩
set_option maxHeartbeats 8000000 in
set_option maxRecDepth 100000 in
theorem c_X12_picture (l : Launch) (D : va_G) (cA : Nat → ClassId) (g : Nat → Nat) (sz : Nat) (h_t : Nat) (a_t : Nat → Nat) (o_t : Ob)  (o_t' : Ob) (rv : Int32) (hF : f_X12_picture o_t = some (o_t', rv)) : Met l yX12_picture wsX12_picture ({ frames := 1, cells := 0, slots := 0, locals := 21 }) (va_Pc [.ref h_t] (PreW D cA g sz (w_X12_four cA h_t a_t o_t))) (va_Qi (fun (r : Int32) (_ : Unit) => r = rv) (PostW D cA sz (w_X12_four cA h_t a_t o_t) (w_X12_four cA h_t a_t o_t')) (va_A (w_X12_four cA h_t a_t o_t) sz)) 0 0 (va_A (w_X12_four cA h_t a_t o_t) sz) := by
  refine z_start (cc := cX12_picture) (maxL := 3) (ret := (some .int)) (lv0 := [(0, .ref h_t)]) (Qc := fun sz => va_Qi (fun (r : Int32) (_ : Unit) => r = rv) (PostW D cA sz (w_X12_four cA h_t a_t o_t) (w_X12_four cA h_t a_t o_t')) (va_A (w_X12_four cA h_t a_t o_t) sz)) (free := fun sz => va_A (w_X12_four cA h_t a_t o_t) sz) (by decide +kernel) rfl rfl (Nat.le_of_ble_eq_true rfl) ?_
  intro p e R s m args below meth c A Q hR hA hQ X hr hin
  unfold f_X12_picture at hF
  refine z_aload_n X dX12_picture_0 rfl 0 rfl ?_
  refine z_iconst (v := (0 : Int32)) X dX12_picture_1 (by decide) ?_
  obtain ⟨o1, eo1, hF⟩ := nx_e hF
  refine z_put (ws' := (w_X12_four cA h_t a_t o1)) X k_X12_picture_338 tyX12 tyX12_ok nmX12 rfl rfl 0 rfl (Nat.le_of_ble_eq_true rfl) (by rw [eo1]; rfl) dX12_picture_2 ?_
  refine z_iconst (v := (0 : Int32)) X dX12_picture_5 (by decide) ?_
  refine z_istore_n (lv' := [(1, .int (0 : Int32)), (0, .ref h_t)]) X dX12_picture_6 rfl (by decide) rfl ?_
  obtain ⟨o39, hL, hF⟩ := zb1_e hF
  have L56_x : ∀ (o39' : Ob), o39' = o39 → ZW p l e R s m args below meth c D A 3 0 0 Q (w_X12_four cA h_t a_t o39') [(0, .ref h_t)] 89 [] := by
    intro o39' hz
    cases hz
    obtain ⟨o47, hL, hF⟩ := zb1_e hF
    have L48_x : ∀ (o47' : Ob), o47' = o47 → ZW p l e R s m args below meth c D A 3 0 0 Q (w_X12_four cA h_t a_t o47') [(0, .ref h_t)] 126 [] := by
      intro o47' hz
      cases hz
      refine z_aload_n X dX12_picture_126 rfl 0 rfl ?_
      refine z_get (v := .int (o47 39 0)) X k_X12_picture_338 0 rfl rfl dX12_picture_127 ?_
      cases hF
      exact z_iret X hA hQ hr rfl dX12_picture_130 (Nat.le_refl _) (Nat.le_refl _)
    obtain ⟨B55, hBB55, hL⟩ := zl1_b hL
    have L48 : ∀ (n : Nat) (o46 : Ob), zl1 B55 n o46 = some o47 → ZW p l e R s m args below meth c D A 3 0 0 Q (w_X12_four cA h_t a_t o46) [(0, .ref h_t)] 89 [] := by
      intro n
      induction n with
      | zero => intro o46 hL; cases hL
      | succ n ih =>
        intro o46 hL
        obtain ⟨zz49, hF, hL⟩ := zl1_e hL
        rw [hBB55] at hF
        refine z_aload_n X dX12_picture_89 rfl 0 rfl ?_
        refine z_get (v := .int (o46 39 0)) X k_X12_picture_338 0 rfl rfl dX12_picture_90 ?_
        refine z_aload_n X dX12_picture_93 rfl 0 rfl ?_
        refine z_get (v := .ref (a_t 0)) X k_X12_picture_7 0 rfl rfl dX12_picture_94 ?_
        refine z_iconst (v := (0 : Int32)) X dX12_picture_97 (by decide) ?_
        obtain ⟨g50, hF⟩ := gi_e hF
        refine z_iald X 1 rfl g50 dX12_picture_98 ?_
        have hF := if_e hF
        refine z_icmp_ge (tgt := 126) X dX12_picture_99 (by decide) (fun c54 => ?_) (fun c54 => ?_)
        · have hF := hF.1 c54
          cases hF
          have hL := Option.some.inj hL
          refine z_lv (lv' := [(0, .ref h_t)]) [0] rfl ?_
          exact L48_x o46 hL
        · have hF := hF.2 c54
          refine z_aload_n X dX12_picture_102 rfl 0 rfl ?_
          refine z_get (v := .ref (a_t 38)) X k_X12_picture_63 0 rfl rfl dX12_picture_103 ?_
          refine z_aload_n X dX12_picture_106 rfl 0 rfl ?_
          refine z_get (v := .int (o46 39 0)) X k_X12_picture_338 0 rfl rfl dX12_picture_107 ?_
          refine z_bipush (v := (46 : Int32)) X dX12_picture_110 (by decide) ?_
          obtain ⟨g51, hF⟩ := gi_e hF
          obtain ⟨o52, eo52, hF⟩ := nx_e hF
          refine z_bast (ws' := (w_X12_four cA h_t a_t o52)) X 18 rfl g51 (by rw [eo52]; rfl) dX12_picture_112 ?_
          refine z_aload_n X dX12_picture_113 rfl 0 rfl ?_
          refine z_dup X dX12_picture_114 rfl ?_
          refine z_get (v := .int (o52 39 0)) X k_X12_picture_338 0 rfl rfl dX12_picture_115 ?_
          refine z_iconst (v := (1 : Int32)) X dX12_picture_118 (by decide) ?_
          refine z_iadd X dX12_picture_119 ?_
          obtain ⟨o53, eo53, hF⟩ := nx_e hF
          refine z_put (ws' := (w_X12_four cA h_t a_t o53)) X k_X12_picture_338 tyX12 tyX12_ok nmX12 rfl rfl 0 rfl (Nat.le_of_ble_eq_true rfl) (by rw [eo53]; rfl) dX12_picture_120 ?_
          refine z_goto (tgt := 89) X dX12_picture_123 (by decide) ?_
          cases hF
          refine z_lv (lv' := [(0, .ref h_t)]) [0] rfl ?_
          exact ih o53 hL
    refine z_lv (lv' := [(0, .ref h_t)]) [0] rfl ?_
    exact L48 FU o39 hL
  obtain ⟨B91, hBB91, hL⟩ := zl2_b hL
  have L56 : ∀ (n : Nat) (o37 : Ob) (k38 : Int32), zl2 B91 n o37 k38 = some o39 → ZW p l e R s m args below meth c D A 3 0 0 Q (w_X12_four cA h_t a_t o37) [(0, .ref h_t), (1, .int k38)] 7 [] := by
    intro n
    induction n with
    | zero => intro o37 k38 hL; cases hL
    | succ n ih =>
      intro o37 k38 hL
      obtain ⟨zz57, hF, hL⟩ := zl2_e hL
      rw [hBB91] at hF
      refine z_iload_n X dX12_picture_7 rfl 1 rfl ?_
      refine z_aload_n X dX12_picture_8 rfl 0 rfl ?_
      refine z_get (v := .ref (a_t 0)) X k_X12_picture_7 0 rfl rfl dX12_picture_9 ?_
      refine z_iconst (v := (2 : Int32)) X dX12_picture_12 (by decide) ?_
      obtain ⟨g58, hF⟩ := gi_e hF
      refine z_iald X 1 rfl g58 dX12_picture_13 ?_
      have hF := if_e hF
      refine z_icmp_ge (tgt := 89) X dX12_picture_14 (by decide) (fun c90 => ?_) (fun c90 => ?_)
      · have hF := hF.1 c90
        cases hF
        have hL := Option.some.inj hL
        refine z_lv (lv' := [(0, .ref h_t)]) [0] rfl ?_
        exact L56_x o37 hL
      · have hF := hF.2 c90
        refine z_iconst (v := (0 : Int32)) X dX12_picture_17 (by decide) ?_
        refine z_istore_n (lv' := [(2, .int (0 : Int32)), (0, .ref h_t), (1, .int k38)]) X dX12_picture_18 rfl (by decide) rfl ?_
        obtain ⟨o74, hL, hF⟩ := zb1_e hF
        have L76_x : ∀ (o74' : Ob), o74' = o74 → ZW p l e R s m args below meth c D A 3 0 0 Q (w_X12_four cA h_t a_t o74') [(0, .ref h_t), (1, .int k38)] 83 [] := by
          intro o74' hz
          cases hz
          obtain ⟨x75, ex75, hF⟩ := nx_e hF
          refine z_iinc (v := x75) (lv' := [(1, .int x75), (0, .ref h_t)]) (j := 1) X dX12_picture_83 rfl (by rw [ex75]; rfl) (by decide) rfl ?_
          refine z_goto (tgt := 7) X dX12_picture_86 (by decide) ?_
          cases hF
          refine z_lv (lv' := [(0, .ref h_t), (1, .int x75)]) [1, 0] rfl ?_
          exact ih o74 x75 hL
        obtain ⟨B89, hBB89, hL⟩ := zl2_b hL
        have L76 : ∀ (n : Nat) (o72 : Ob) (k73 : Int32), zl2 B89 n o72 k73 = some o74 → ZW p l e R s m args below meth c D A 3 0 0 Q (w_X12_four cA h_t a_t o72) [(0, .ref h_t), (1, .int k38), (2, .int k73)] 19 [] := by
          intro n
          induction n with
          | zero => intro o72 k73 hL; cases hL
          | succ n ih =>
            intro o72 k73 hL
            obtain ⟨zz77, hF, hL⟩ := zl2_e hL
            rw [hBB89] at hF
            refine z_iload_n X dX12_picture_19 rfl 2 rfl ?_
            refine z_aload_n X dX12_picture_20 rfl 0 rfl ?_
            refine z_get (v := .ref (a_t 0)) X k_X12_picture_7 0 rfl rfl dX12_picture_21 ?_
            refine z_bipush (v := (8 : Int32)) X dX12_picture_24 (by decide) ?_
            refine z_iload_n X dX12_picture_26 rfl 1 rfl ?_
            refine z_iadd X dX12_picture_27 ?_
            obtain ⟨g78, hF⟩ := gi_e hF
            refine z_iald X 1 rfl g78 dX12_picture_28 ?_
            have hF := if_e hF
            refine z_icmp_ge (tgt := 83) X dX12_picture_29 (by decide) (fun c88 => ?_) (fun c88 => ?_)
            · have hF := hF.1 c88
              cases hF
              have hL := Option.some.inj hL
              refine z_lv (lv' := [(0, .ref h_t), (1, .int k38)]) [0, 1] rfl ?_
              exact L76_x o72 hL
            · have hF := hF.2 c88
              refine z_aload_n X dX12_picture_32 rfl 0 rfl ?_
              refine z_get (v := .ref (a_t 0)) X k_X12_picture_7 0 rfl rfl dX12_picture_33 ?_
              refine z_iconst (v := (3 : Int32)) X dX12_picture_36 (by decide) ?_
              obtain ⟨g79, hF⟩ := gi_e hF
              refine z_iald X 1 rfl g79 dX12_picture_37 ?_
              refine z_iload_n X dX12_picture_38 rfl 1 rfl ?_
              obtain ⟨r80, hc81, hF⟩ := zb1_e hF
              refine z_Si (As := [.int (o72 0 (Int32.toNatClampNeg (3 : Int32))), .int k38]) (rest := []) (wc := ([] : va_W)) (wc' := ([] : va_W)) (ws' := (w_X12_four cA h_t a_t o72)) (rv := r80) X (va_cwS 2 X.2.2.2.2.1 gX12_picture_X12_bitOf rfl rfl rfl (by decide +kernel) (by rw [hR]; exact ⟨Nat.le_of_ble_eq_true rfl, Nat.le_of_ble_eq_true rfl⟩)) (fun sz => c_X12_bitOf l D cA g sz (o72 0 (Int32.toNatClampNeg (3 : Int32))) k38 r80 hc81) [] [0, 1, 2, 3, 4, 5, 6, 7, 8, 9, 10, 11, 12, 13, 14, 15, 16, 17, 18, 19, 20, 21] rfl (by decide) rfl (by decide) rfl rfl rfl (Nat.le_of_ble_eq_true rfl) dX12_picture_39 ⟨Nat.zero_le _, Nat.zero_le _⟩ ?_
              have hF := if_e hF
              refine z_if_eq (tgt := 83) X dX12_picture_42 (by decide) (fun c87 => ?_) (fun c87 => ?_)
              · have hF := hF.1 c87
                cases hF
                have hL := Option.some.inj hL
                refine z_lv (lv' := [(0, .ref h_t), (1, .int k38)]) [0, 1] rfl ?_
                exact L76_x o72 hL
              · have hF := hF.2 c87
                refine z_aload_n X dX12_picture_45 rfl 0 rfl ?_
                refine z_get (v := .ref (a_t 38)) X k_X12_picture_63 0 rfl rfl dX12_picture_46 ?_
                refine z_aload_n X dX12_picture_49 rfl 0 rfl ?_
                refine z_get (v := .int (o72 39 0)) X k_X12_picture_338 0 rfl rfl dX12_picture_50 ?_
                refine z_aload_n X dX12_picture_53 rfl 0 rfl ?_
                refine z_get (v := .ref (a_t 0)) X k_X12_picture_7 0 rfl rfl dX12_picture_54 ?_
                refine z_bipush (v := (56 : Int32)) X dX12_picture_57 (by decide) ?_
                refine z_bipush (v := (6 : Int32)) X dX12_picture_59 (by decide) ?_
                refine z_iload_n X dX12_picture_61 rfl 1 rfl ?_
                refine z_imul X dX12_picture_62 ?_
                refine z_iadd X dX12_picture_63 ?_
                obtain ⟨g82, hF⟩ := gi_e hF
                refine z_iald X 1 rfl g82 dX12_picture_64 ?_
                refine z_i2b X dX12_picture_65 ?_
                obtain ⟨g83, hF⟩ := gi_e hF
                obtain ⟨o84, eo84, hF⟩ := nx_e hF
                refine z_bast (ws' := (w_X12_four cA h_t a_t o84)) X 18 rfl g83 (by rw [eo84]; rfl) dX12_picture_66 ?_
                refine z_aload_n X dX12_picture_67 rfl 0 rfl ?_
                refine z_dup X dX12_picture_68 rfl ?_
                refine z_get (v := .int (o84 39 0)) X k_X12_picture_338 0 rfl rfl dX12_picture_69 ?_
                refine z_iconst (v := (1 : Int32)) X dX12_picture_72 (by decide) ?_
                refine z_iadd X dX12_picture_73 ?_
                obtain ⟨o85, eo85, hF⟩ := nx_e hF
                refine z_put (ws' := (w_X12_four cA h_t a_t o85)) X k_X12_picture_338 tyX12 tyX12_ok nmX12 rfl rfl 0 rfl (Nat.le_of_ble_eq_true rfl) (by rw [eo85]; rfl) dX12_picture_74 ?_
                obtain ⟨x86, ex86, hF⟩ := nx_e hF
                refine z_iinc (v := x86) (lv' := [(2, .int x86), (0, .ref h_t), (1, .int k38)]) (j := 2) X dX12_picture_77 rfl (by rw [ex86]; rfl) (by decide) rfl ?_
                refine z_goto (tgt := 19) X dX12_picture_80 (by decide) ?_
                cases hF
                refine z_lv (lv' := [(0, .ref h_t), (1, .int k38), (2, .int x86)]) [1, 2, 0] rfl ?_
                exact ih o85 x86 hL
        refine z_lv (lv' := [(0, .ref h_t), (1, .int k38), (2, .int (0 : Int32))]) [1, 2, 0] rfl ?_
        exact L76 FU o37 (0 : Int32) hL
  refine z_lv (lv' := [(0, .ref h_t), (1, .int (0 : Int32))]) [1, 0] rfl ?_
  exact L56 FU o1 (0 : Int32) hL
set_option maxRecDepth 20000 in
theorem h_X12_byteAt_X12 : ∀ w ∈ wsX120, w ∈ wsX12_byteAt := by decide +kernel
set_option maxRecDepth 20000 in
theorem k_X12_byteAt_63 : ZF wsX12_byteAt RX12 63 12 38 RX12 TX12 47 := ⟨rfl, by decide, h_X12_byteAt_X12, by decide +kernel⟩
set_option maxRecDepth 20000 in
theorem k_X12_byteAt_338 : ZF wsX12_byteAt RX12 338 12 39 RX12 TX12 47 := ⟨rfl, by decide, h_X12_byteAt_X12, by decide +kernel⟩
set_option maxHeartbeats 8000000 in
set_option maxRecDepth 100000 in
theorem c_X12_byteAt (l : Launch) (D : va_G) (cA : Nat → ClassId) (g : Nat → Nat) (sz : Nat) (h_t : Nat) (a_t : Nat → Nat) (o_t : Ob) (v1 : Int32) (rv : Int32) (hF : f_X12_byteAt o_t v1 = some rv) : Met l yX12_byteAt wsX12_byteAt ({ frames := 1, cells := 0, slots := 0, locals := 22 }) (va_Pc [.ref h_t, .int v1] (PreW D cA g sz (w_X12_four cA h_t a_t o_t))) (va_Qi (fun (r : Int32) (_ : Unit) => r = rv) (PostW D cA sz (w_X12_four cA h_t a_t o_t) (w_X12_four cA h_t a_t o_t)) (va_A (w_X12_four cA h_t a_t o_t) sz)) 0 0 (va_A (w_X12_four cA h_t a_t o_t) sz) := by
  refine z_start (cc := cX12_byteAt) (maxL := 2) (ret := (some .int)) (lv0 := [(0, .ref h_t), (1, .int v1)]) (Qc := fun sz => va_Qi (fun (r : Int32) (_ : Unit) => r = rv) (PostW D cA sz (w_X12_four cA h_t a_t o_t) (w_X12_four cA h_t a_t o_t)) (va_A (w_X12_four cA h_t a_t o_t) sz)) (free := fun sz => va_A (w_X12_four cA h_t a_t o_t) sz) (by decide +kernel) rfl rfl (Nat.le_of_ble_eq_true rfl) ?_
  intro p e R s m args below meth c A Q hR hA hQ X hr hin
  unfold f_X12_byteAt at hF
  refine z_iload_n X dX12_byteAt_0 rfl 1 rfl ?_
  refine z_iconst (v := (0 : Int32)) X dX12_byteAt_1 (by decide) ?_
  refine z_aload_n X dX12_byteAt_2 rfl 0 rfl ?_
  refine z_get (v := .int (o_t 39 0)) X k_X12_byteAt_338 0 rfl rfl dX12_byteAt_3 ?_
  refine z_iconst (v := (1 : Int32)) X dX12_byteAt_6 (by decide) ?_
  refine z_isub X dX12_byteAt_7 ?_
  obtain ⟨r1, hc2, hF⟩ := zb1_e hF
  refine z_Si (As := [.int v1, .int (0 : Int32), .int ((o_t 39 0) - (1 : Int32))]) (rest := []) (wc := ([] : va_W)) (wc' := ([] : va_W)) (ws' := (w_X12_four cA h_t a_t o_t)) (rv := r1) X (va_cwS 3 X.2.2.2.2.1 gX12_byteAt_X12_isIn rfl rfl rfl (by decide +kernel) (by rw [hR]; exact ⟨Nat.le_of_ble_eq_true rfl, Nat.le_of_ble_eq_true rfl⟩)) (fun sz => c_X12_isIn l D cA g sz v1 (0 : Int32) ((o_t 39 0) - (1 : Int32)) r1 hc2) [] [0, 1, 2, 3, 4, 5, 6, 7, 8, 9, 10, 11, 12, 13, 14, 15, 16, 17, 18, 19, 20, 21] rfl (by decide) rfl (by decide) rfl rfl rfl (Nat.le_of_ble_eq_true rfl) dX12_byteAt_8 ⟨Nat.zero_le _, Nat.zero_le _⟩ ?_
  have hF := if_e hF
  refine z_if_eq (tgt := 23) X dX12_byteAt_11 (by decide) (fun c4 => ?_) (fun c4 => ?_)
  · have hF := hF.1 c4
    refine z_iconst (v := (-1 : Int32)) X dX12_byteAt_23 (by decide) ?_
    cases hF
    exact z_iret X hA hQ hr rfl dX12_byteAt_24 (Nat.le_refl _) (Nat.le_refl _)
  · have hF := hF.2 c4
    refine z_aload_n X dX12_byteAt_14 rfl 0 rfl ?_
    refine z_get (v := .ref (a_t 38)) X k_X12_byteAt_63 0 rfl rfl dX12_byteAt_15 ?_
    refine z_iload_n X dX12_byteAt_18 rfl 1 rfl ?_
    obtain ⟨g3, hF⟩ := gi_e hF
    refine z_bald X 18 rfl g3 dX12_byteAt_19 ?_
    refine z_goto (tgt := 24) X dX12_byteAt_20 (by decide) ?_
    cases hF
    exact z_iret X hA hQ hr rfl dX12_byteAt_24 (Nat.le_refl _) (Nat.le_refl _)
set_option maxRecDepth 20000 in
theorem h_X12_ratio_X12 : ∀ w ∈ wsX120, w ∈ wsX12_ratio := by decide +kernel
set_option maxRecDepth 20000 in
theorem k_X12_ratio_7 : ZF wsX12_ratio RX12 7 12 0 RX12 TX12 47 := ⟨rfl, by decide, h_X12_ratio_X12, by decide +kernel⟩
set_option maxHeartbeats 8000000 in
set_option maxRecDepth 100000 in
theorem c_X12_ratio (l : Launch) (D : va_G) (cA : Nat → ClassId) (g : Nat → Nat) (sz : Nat) (h_t : Nat) (a_t : Nat → Nat) (o_t : Ob)  (o_t' : Ob) (rv : Int32) (hF : f_X12_ratio o_t = some (o_t', rv)) : Met l yX12_ratio wsX12_ratio ({ frames := 5, cells := 0, slots := 0, locals := 114 }) (va_Pc [.ref h_t] (PreW D cA g sz (w_X12_four cA h_t a_t o_t))) (va_Qi (fun (r : Int32) (_ : Unit) => r = rv) (PostW D cA sz (w_X12_four cA h_t a_t o_t) (w_X12_four cA h_t a_t o_t')) (va_A (w_X12_four cA h_t a_t o_t) sz)) 0 0 (va_A (w_X12_four cA h_t a_t o_t) sz) := by
  refine z_start (cc := cX12_ratio) (maxL := 4) (ret := (some .int)) (lv0 := [(0, .ref h_t)]) (Qc := fun sz => va_Qi (fun (r : Int32) (_ : Unit) => r = rv) (PostW D cA sz (w_X12_four cA h_t a_t o_t) (w_X12_four cA h_t a_t o_t')) (va_A (w_X12_four cA h_t a_t o_t) sz)) (free := fun sz => va_A (w_X12_four cA h_t a_t o_t) sz) (by decide +kernel) rfl rfl (Nat.le_of_ble_eq_true rfl) ?_
  intro p e R s m args below meth c A Q hR hA hQ X hr hin
  unfold f_X12_ratio at hF
  refine z_aload_n X dX12_ratio_0 rfl 0 rfl ?_
  obtain ⟨o1, r2, hc3, hF⟩ := zb2_e hF
  refine z_Vi (As := []) (rest := []) (wc := (w_X12_four cA h_t a_t o_t)) (wc' := (w_X12_four cA h_t a_t o1)) (ws' := (w_X12_four cA h_t a_t o1)) (rv := r2) X (cwV 0 X.2.2.2.2.1 gX12_ratio_X12_best rfl rfl rfl (by decide +kernel) (by rw [hR]; exact ⟨Nat.le_of_ble_eq_true rfl, Nat.le_of_ble_eq_true rfl⟩)) (fun sz => c_X12_best l D cA g sz h_t a_t o_t o1 r2 hc3) [0, 1, 2, 3, 4, 5, 6, 7, 8, 9, 10, 11, 12, 13, 14, 15, 16, 17, 18, 19, 20, 21] [1000, 1001, 1002, 1003, 1004, 1005, 1006, 1007, 1008, 1009, 1010, 1011, 1012, 1013, 1014, 1015, 1016, 1017, 1018, 1019, 1020, 1021] rfl (by decide) rfl (by decide) rfl rfl rfl rfl rfl rfl (Nat.le_of_ble_eq_true rfl) dX12_ratio_1 ⟨Nat.zero_le _, Nat.zero_le _⟩ ?_
  refine z_istore_n (lv' := [(1, .int r2), (0, .ref h_t)]) X dX12_ratio_4 rfl (by decide) rfl ?_
  refine z_iload_n X dX12_ratio_5 rfl 0 rfl ?_
  refine z_iconst (v := (1 : Int32)) X dX12_ratio_6 (by decide) ?_
  have hF := if_e hF
  refine z_icmp_ge (tgt := 12) X dX12_ratio_7 (by decide) (fun c26 => ?_) (fun c26 => ?_)
  · have hF := hF.1 c26
    refine z_iconst (v := (0 : Int32)) X dX12_ratio_12 (by decide) ?_
    refine z_istore_n (lv' := [(2, .int (0 : Int32)), (1, .int r2), (0, .ref h_t)]) X dX12_ratio_13 rfl (by decide) rfl ?_
    refine z_iconst (v := (0 : Int32)) X dX12_ratio_14 (by decide) ?_
    refine z_istore_n (lv' := [(3, .int (0 : Int32)), (2, .int (0 : Int32)), (1, .int r2), (0, .ref h_t)]) X dX12_ratio_15 rfl (by decide) rfl ?_
    obtain ⟨k14, hL, hF⟩ := zb1_e hF
    have L18_x : ∀ (k14' : Int32), k14' = k14 → ZW p l e R s m args below meth c D A 4 0 0 Q (w_X12_four cA h_t a_t o1) [(1, .int r2), (2, .int k14')] 46 [] := by
      intro k14' hz
      cases hz
      refine z_iload_n X dX12_ratio_46 rfl 1 rfl ?_
      refine z_i2f X dX12_ratio_47 ?_
      refine z_iload_n X dX12_ratio_48 rfl 0 rfl ?_
      refine z_i2f X dX12_ratio_49 ?_
      obtain ⟨g15, hF⟩ := gq_e hF
      refine z_fdiv X g15 dX12_ratio_50 ?_
      obtain ⟨r16, hc17, hF⟩ := zb1_e hF
      refine z_Si (As := [.float (FP.fdiv (FP.i2f k14) (FP.i2f r2))]) (rest := []) (wc := ([] : va_W)) (wc' := ([] : va_W)) (ws' := (w_X12_four cA h_t a_t o1)) (rv := r16) X (va_cwS 1 X.2.2.2.2.1 gX12_ratio_Jxf58ca_floatToIntBits_5c35a rfl rfl rfl (by decide +kernel) (by rw [hR]; exact ⟨Nat.le_of_ble_eq_true rfl, Nat.le_of_ble_eq_true rfl⟩)) (fun sz => c_Jxf58ca_floatToIntBits_5c35a l D cA g sz (FP.fdiv (FP.i2f k14) (FP.i2f r2)) r16 hc17) [] [0, 1, 2, 3, 4, 5, 6, 7, 8, 9, 10, 11, 12, 13, 14, 15, 16, 17, 18, 19, 20, 21] rfl (by decide) rfl (by decide) rfl rfl rfl (Nat.le_of_ble_eq_true rfl) dX12_ratio_51 ⟨Nat.zero_le _, Nat.zero_le _⟩ ?_
      cases hF
      exact z_iret X hA hQ hr rfl dX12_ratio_54 (Nat.le_refl _) (Nat.le_refl _)
    obtain ⟨B25, hBB25, hL⟩ := zl2_b hL
    have L18 : ∀ (n : Nat) (k12 : Int32) (k13 : Int32), zl2 B25 n k12 k13 = some k14 → ZW p l e R s m args below meth c D A 4 0 0 Q (w_X12_four cA h_t a_t o1) [(0, .ref h_t), (1, .int r2), (2, .int k12), (3, .int k13)] 16 [] := by
      intro n
      induction n with
      | zero => intro k12 k13 hL; cases hL
      | succ n ih =>
        intro k12 k13 hL
        obtain ⟨zz19, hF, hL⟩ := zl2_e hL
        rw [hBB25] at hF
        refine z_iload_n X dX12_ratio_16 rfl 3 rfl ?_
        refine z_aload_n X dX12_ratio_17 rfl 0 rfl ?_
        refine z_get (v := .ref (a_t 0)) X k_X12_ratio_7 0 rfl rfl dX12_ratio_18 ?_
        refine z_bipush (v := (7 : Int32)) X dX12_ratio_21 (by decide) ?_
        obtain ⟨g20, hF⟩ := gi_e hF
        refine z_iald X 1 rfl g20 dX12_ratio_23 ?_
        have hF := if_e hF
        refine z_icmp_ge (tgt := 46) X dX12_ratio_24 (by decide) (fun c24 => ?_) (fun c24 => ?_)
        · have hF := hF.1 c24
          cases hF
          have hL := Option.some.inj hL
          refine z_lv (lv' := [(1, .int r2), (2, .int k12)]) [1, 2] rfl ?_
          exact L18_x k12 hL
        · have hF := hF.2 c24
          refine z_iload_n X dX12_ratio_27 rfl 2 rfl ?_
          refine z_aload_n X dX12_ratio_28 rfl 0 rfl ?_
          refine z_get (v := .ref (a_t 0)) X k_X12_ratio_7 0 rfl rfl dX12_ratio_29 ?_
          refine z_sipush (v := (144 : Int32)) X dX12_ratio_32 (by decide) ?_
          refine z_iload_n X dX12_ratio_35 rfl 3 rfl ?_
          refine z_iadd X dX12_ratio_36 ?_
          obtain ⟨g21, hF⟩ := gi_e hF
          refine z_iald X 1 rfl g21 dX12_ratio_37 ?_
          refine z_iadd X dX12_ratio_38 ?_
          obtain ⟨x22, ex22, hF⟩ := nx_e hF
          refine z_nm ex22 ?_
          refine z_istore_n (lv' := [(2, .int x22), (0, .ref h_t), (1, .int r2), (3, .int k13)]) X dX12_ratio_39 rfl (by decide) rfl ?_
          obtain ⟨x23, ex23, hF⟩ := nx_e hF
          refine z_iinc (v := x23) (lv' := [(3, .int x23), (2, .int x22), (0, .ref h_t), (1, .int r2)]) (j := 3) X dX12_ratio_40 rfl (by rw [ex23]; rfl) (by decide) rfl ?_
          refine z_goto (tgt := 16) X dX12_ratio_43 (by decide) ?_
          cases hF
          refine z_lv (lv' := [(0, .ref h_t), (1, .int r2), (2, .int x22), (3, .int x23)]) [2, 3, 1, 0] rfl ?_
          exact ih x22 x23 hL
    refine z_lv (lv' := [(0, .ref h_t), (1, .int r2), (2, .int (0 : Int32)), (3, .int (0 : Int32))]) [3, 2, 1, 0] rfl ?_
    exact L18 FU (0 : Int32) (0 : Int32) hL
  · have hF := hF.2 c26
    refine z_iconst (v := (-1 : Int32)) X dX12_ratio_10 (by decide) ?_
    cases hF
    exact z_iret X hA hQ hr rfl dX12_ratio_11 (Nat.le_refl _) (Nat.le_refl _)
set_option maxRecDepth 20000 in
theorem h_X12_isRide_X12 : ∀ w ∈ wsX120, w ∈ wsX12_isRide := by decide +kernel
set_option maxRecDepth 20000 in
theorem k_X12_isRide_7 : ZF wsX12_isRide RX12 7 12 0 RX12 TX12 47 := ⟨rfl, by decide, h_X12_isRide_X12, by decide +kernel⟩
set_option maxRecDepth 20000 in
theorem k_X12_isRide_344 : ZF wsX12_isRide RX12 344 12 44 RX12 TX12 47 := ⟨rfl, by decide, h_X12_isRide_X12, by decide +kernel⟩
set_option maxRecDepth 20000 in
theorem k_X12_isRide_347 : ZF wsX12_isRide RX12 347 12 43 RX12 TX12 47 := ⟨rfl, by decide, h_X12_isRide_X12, by decide +kernel⟩
set_option maxHeartbeats 8000000 in
set_option maxRecDepth 100000 in
theorem c_X12_isRide (l : Launch) (D : va_G) (cA : Nat → ClassId) (g : Nat → Nat) (sz : Nat) (h_t : Nat) (a_t : Nat → Nat) (o_t : Ob) (v1 : Int32) (v2 : Int32) (rv : Int32) (hF : f_X12_isRide o_t v1 v2 = some rv) : Met l yX12_isRide wsX12_isRide ({ frames := 2, cells := 0, slots := 0, locals := 44 }) (va_Pc [.ref h_t, .int v1, .int v2] (PreW D cA g sz (w_X12_four cA h_t a_t o_t))) (va_Qi (fun (r : Int32) (_ : Unit) => r = rv) (PostW D cA sz (w_X12_four cA h_t a_t o_t) (w_X12_four cA h_t a_t o_t)) (va_A (w_X12_four cA h_t a_t o_t) sz)) 0 0 (va_A (w_X12_four cA h_t a_t o_t) sz) := by
  refine z_start (cc := cX12_isRide) (maxL := 4) (ret := (some .boolean)) (lv0 := [(0, .ref h_t), (1, .int v1), (2, .int v2)]) (Qc := fun sz => va_Qi (fun (r : Int32) (_ : Unit) => r = rv) (PostW D cA sz (w_X12_four cA h_t a_t o_t) (w_X12_four cA h_t a_t o_t)) (va_A (w_X12_four cA h_t a_t o_t) sz)) (free := fun sz => va_A (w_X12_four cA h_t a_t o_t) sz) (by decide +kernel) rfl rfl (Nat.le_of_ble_eq_true rfl) ?_
  intro p e R s m args below meth c A Q hR hA hQ X hr hin
  unfold f_X12_isRide at hF
  refine z_iload_n X dX12_isRide_0 rfl 2 rfl ?_
  have hF := if_e hF
  refine z_if_eq (tgt := 24) X dX12_isRide_1 (by decide) (fun c11 => ?_) (fun c11 => ?_)
  · have hF := hF.1 c11
    refine z_iconst (v := (0 : Int32)) X dX12_isRide_24 (by decide) ?_
    cases hF
    exact z_zret X hA hQ hr (Or.inl rfl)  rfl dX12_isRide_25 (Nat.le_refl _) (Nat.le_refl _)
  · have hF := hF.2 c11
    refine z_iload_n X dX12_isRide_4 rfl 2 rfl ?_
    refine z_iload_n X dX12_isRide_5 rfl 1 rfl ?_
    refine z_iconst (v := (-1 : Int32)) X dX12_isRide_6 (by decide) ?_
    refine z_ixor X dX12_isRide_7 ?_
    refine z_iand X dX12_isRide_8 ?_
    have hF := if_e hF
    refine z_if_ne (tgt := 24) X dX12_isRide_9 (by decide) (fun c10 => ?_) (fun c10 => ?_)
    · have hF := hF.2 c10
      refine z_iconst (v := (0 : Int32)) X dX12_isRide_24 (by decide) ?_
      cases hF
      exact z_zret X hA hQ hr (Or.inl rfl)  rfl dX12_isRide_25 (Nat.le_refl _) (Nat.le_refl _)
    · have hF := hF.1 c10
      refine z_aload_n X dX12_isRide_12 rfl 0 rfl ?_
      refine z_iload_n X dX12_isRide_13 rfl 2 rfl ?_
      obtain ⟨r1, hc2, hF⟩ := zb1_e hF
      refine z_Vi (As := [.int v2]) (rest := []) (wc := (w_X12_four cA h_t a_t o_t)) (wc' := (w_X12_four cA h_t a_t o_t)) (ws' := (w_X12_four cA h_t a_t o_t)) (rv := r1) X (cwV 1 X.2.2.2.2.1 gX12_isRide_X12_sizeOf rfl rfl rfl (by decide +kernel) (by rw [hR]; exact ⟨Nat.le_of_ble_eq_true rfl, Nat.le_of_ble_eq_true rfl⟩)) (fun sz => c_X12_sizeOf l D cA g sz h_t a_t o_t v2 r1 hc2) [0, 1, 2, 3, 4, 5, 6, 7, 8, 9, 10, 11, 12, 13, 14, 15, 16, 17, 18, 19, 20, 21] [1000, 1001, 1002, 1003, 1004, 1005, 1006, 1007, 1008, 1009, 1010, 1011, 1012, 1013, 1014, 1015, 1016, 1017, 1018, 1019, 1020, 1021] rfl (by decide) rfl (by decide) rfl rfl rfl rfl rfl rfl (Nat.le_of_ble_eq_true rfl) dX12_isRide_14 ⟨Nat.zero_le _, Nat.zero_le _⟩ ?_
      refine z_aload_n X dX12_isRide_17 rfl 0 rfl ?_
      refine z_get (v := .int (o_t 44 0)) X k_X12_isRide_344 0 rfl rfl dX12_isRide_18 ?_
      have hF := if_e hF
      refine z_icmp_le (tgt := 26) X dX12_isRide_21 (by decide) (fun c9 => ?_) (fun c9 => ?_)
      · have hF := hF.1 c9
        refine z_aload_n X dX12_isRide_26 rfl 0 rfl ?_
        refine z_get (v := .ref (a_t 0)) X k_X12_isRide_7 0 rfl rfl dX12_isRide_27 ?_
        refine z_iconst (v := (3 : Int32)) X dX12_isRide_30 (by decide) ?_
        obtain ⟨g3, hF⟩ := gi_e hF
        refine z_iald X 1 rfl g3 dX12_isRide_31 ?_
        refine z_aload_n X dX12_isRide_32 rfl 0 rfl ?_
        refine z_get (v := .int (o_t 43 0)) X k_X12_isRide_347 0 rfl rfl dX12_isRide_33 ?_
        refine z_iload_n X dX12_isRide_36 rfl 1 rfl ?_
        refine z_iconst (v := (-1 : Int32)) X dX12_isRide_37 (by decide) ?_
        refine z_ixor X dX12_isRide_38 ?_
        refine z_iand X dX12_isRide_39 ?_
        refine z_ixor X dX12_isRide_40 ?_
        refine z_iload_n X dX12_isRide_41 rfl 2 rfl ?_
        refine z_ixor X dX12_isRide_42 ?_
        obtain ⟨x4, ex4, hF⟩ := nx_e hF
        refine z_nm ex4 ?_
        refine z_istore_n (lv' := [(3, .int x4), (0, .ref h_t), (1, .int v1), (2, .int v2)]) X dX12_isRide_43 rfl (by decide) rfl ?_
        refine z_aload_n X dX12_isRide_44 rfl 1 rfl ?_
        refine z_iload_n X dX12_isRide_45 rfl 0 rfl ?_
        obtain ⟨r5, hc6, hF⟩ := zb1_e hF
        refine z_Vi (As := [.int x4]) (rest := []) (wc := (w_X12_four cA h_t a_t o_t)) (wc' := (w_X12_four cA h_t a_t o_t)) (ws' := (w_X12_four cA h_t a_t o_t)) (rv := r5) X (cwV 1 X.2.2.2.2.1 gX12_isRide_X12_sizeOf rfl rfl rfl (by decide +kernel) (by rw [hR]; exact ⟨Nat.le_of_ble_eq_true rfl, Nat.le_of_ble_eq_true rfl⟩)) (fun sz => c_X12_sizeOf l D cA g sz h_t a_t o_t x4 r5 hc6) [0, 1, 2, 3, 4, 5, 6, 7, 8, 9, 10, 11, 12, 13, 14, 15, 16, 17, 18, 19, 20, 21] [1000, 1001, 1002, 1003, 1004, 1005, 1006, 1007, 1008, 1009, 1010, 1011, 1012, 1013, 1014, 1015, 1016, 1017, 1018, 1019, 1020, 1021] rfl (by decide) rfl (by decide) rfl rfl rfl rfl rfl rfl (Nat.le_of_ble_eq_true rfl) dX12_isRide_46 ⟨Nat.zero_le _, Nat.zero_le _⟩ ?_
        refine z_aload_n X dX12_isRide_49 rfl 1 rfl ?_
        refine z_get (v := .ref (a_t 0)) X k_X12_isRide_7 0 rfl rfl dX12_isRide_50 ?_
        refine z_iconst (v := (0 : Int32)) X dX12_isRide_53 (by decide) ?_
        obtain ⟨g7, hF⟩ := gi_e hF
        refine z_iald X 1 rfl g7 dX12_isRide_54 ?_
        have hF := if_e hF
        refine z_icmp_gt (tgt := 62) X dX12_isRide_55 (by decide) (fun c8 => ?_) (fun c8 => ?_)
        · have hF := hF.1 c8
          refine z_iconst (v := (0 : Int32)) X dX12_isRide_62 (by decide) ?_
          cases hF
          exact z_zret X hA hQ hr (Or.inl rfl)  rfl dX12_isRide_63 (Nat.le_refl _) (Nat.le_refl _)
        · have hF := hF.2 c8
          refine z_iconst (v := (1 : Int32)) X dX12_isRide_58 (by decide) ?_
          refine z_goto (tgt := 63) X dX12_isRide_59 (by decide) ?_
          cases hF
          exact z_zret X hA hQ hr (Or.inr rfl)  rfl dX12_isRide_63 (Nat.le_refl _) (Nat.le_refl _)
      · have hF := hF.2 c9
        refine z_iconst (v := (0 : Int32)) X dX12_isRide_24 (by decide) ?_
        cases hF
        exact z_zret X hA hQ hr (Or.inl rfl)  rfl dX12_isRide_25 (Nat.le_refl _) (Nat.le_refl _)
set_option maxRecDepth 20000 in
theorem h_X12_laysFewest_X12 : ∀ w ∈ wsX120, w ∈ wsX12_laysFewest := by decide +kernel
set_option maxRecDepth 20000 in
theorem k_X12_laysFewest_7 : ZF wsX12_laysFewest RX12 7 12 0 RX12 TX12 47 := ⟨rfl, by decide, h_X12_laysFewest_X12, by decide +kernel⟩
set_option maxRecDepth 20000 in
theorem k_X12_laysFewest_66 : ZF wsX12_laysFewest RX12 66 12 40 RX12 TX12 47 := ⟨rfl, by decide, h_X12_laysFewest_X12, by decide +kernel⟩
set_option maxRecDepth 20000 in
theorem k_X12_laysFewest_347 : ZF wsX12_laysFewest RX12 347 12 43 RX12 TX12 47 := ⟨rfl, by decide, h_X12_laysFewest_X12, by decide +kernel⟩
set_option maxRecDepth 20000 in
theorem k_X12_laysFewest_c284 : Cond.constant RX12 284 (100000000) ∈ wsX12_laysFewest := by decide +kernel
set_option maxHeartbeats 8000000 in
set_option maxRecDepth 100000 in
theorem c_X12_laysFewest (l : Launch) (D : va_G) (cA : Nat → ClassId) (g : Nat → Nat) (sz : Nat) (h_t : Nat) (a_t : Nat → Nat) (o_t : Ob)  (o_t' : Ob) (hF : f_X12_laysFewest o_t = some o_t') : Met l yX12_laysFewest wsX12_laysFewest ({ frames := 3, cells := 0, slots := 0, locals := 67 }) (va_Pc [.ref h_t] (PreW D cA g sz (w_X12_four cA h_t a_t o_t))) (va_Qv (fun (_ : Unit) => True) (PostW D cA sz (w_X12_four cA h_t a_t o_t) (w_X12_four cA h_t a_t o_t')) (va_A (w_X12_four cA h_t a_t o_t) sz)) 0 0 (va_A (w_X12_four cA h_t a_t o_t) sz) := by
  refine z_start (cc := cX12_laysFewest) (maxL := 3) (ret := none) (lv0 := [(0, .ref h_t)]) (Qc := fun sz => va_Qv (fun (_ : Unit) => True) (PostW D cA sz (w_X12_four cA h_t a_t o_t) (w_X12_four cA h_t a_t o_t')) (va_A (w_X12_four cA h_t a_t o_t) sz)) (free := fun sz => va_A (w_X12_four cA h_t a_t o_t) sz) (by decide +kernel) rfl rfl (Nat.le_of_ble_eq_true rfl) ?_
  intro p e R s m args below meth c A Q hR hA hQ X hr hin
  unfold f_X12_laysFewest at hF
  refine z_iconst (v := (0 : Int32)) X dX12_laysFewest_0 (by decide) ?_
  refine z_istore_n (lv' := [(1, .int (0 : Int32)), (0, .ref h_t)]) X dX12_laysFewest_1 rfl (by decide) rfl ?_
  obtain ⟨o50, hL, hF⟩ := zb1_e hF
  have L51_x : ∀ (o50' : Ob), o50' = o50 → ZW p l e R s m args below meth c D A 3 0 0 Q (w_X12_four cA h_t a_t o50') [] 112 [] := by
    intro o50' hz
    cases hz
    cases hF
    exact z_vret X hA hQ hr dX12_laysFewest_112 (Nat.le_refl _) (Nat.le_refl _)
  obtain ⟨B98, hBB98, hL⟩ := zl2_b hL
  have L51 : ∀ (n : Nat) (o48 : Ob) (k49 : Int32), zl2 B98 n o48 k49 = some o50 → ZW p l e R s m args below meth c D A 3 0 0 Q (w_X12_four cA h_t a_t o48) [(0, .ref h_t), (1, .int k49)] 2 [] := by
    intro n
    induction n with
    | zero => intro o48 k49 hL; cases hL
    | succ n ih =>
      intro o48 k49 hL
      obtain ⟨zz52, hF, hL⟩ := zl2_e hL
      rw [hBB98] at hF
      refine z_iload_n X dX12_laysFewest_2 rfl 1 rfl ?_
      refine z_iconst (v := (1 : Int32)) X dX12_laysFewest_3 (by decide) ?_
      refine z_aload_n X dX12_laysFewest_4 rfl 0 rfl ?_
      refine z_get (v := .ref (a_t 0)) X k_X12_laysFewest_7 0 rfl rfl dX12_laysFewest_5 ?_
      refine z_iconst (v := (2 : Int32)) X dX12_laysFewest_8 (by decide) ?_
      obtain ⟨g53, hF⟩ := gi_e hF
      refine z_iald X 1 rfl g53 dX12_laysFewest_9 ?_
      refine z_ishl X dX12_laysFewest_10 ?_
      have hF := if_e hF
      refine z_icmp_ge (tgt := 112) X dX12_laysFewest_11 (by decide) (fun c97 => ?_) (fun c97 => ?_)
      · have hF := hF.1 c97
        cases hF
        have hL := Option.some.inj hL
        refine z_lv (lv' := []) [] rfl ?_
        exact L51_x o48 hL
      · have hF := hF.2 c97
        refine z_aload_n X dX12_laysFewest_14 rfl 0 rfl ?_
        refine z_get (v := .ref (a_t 40)) X k_X12_laysFewest_66 0 rfl rfl dX12_laysFewest_15 ?_
        refine z_iload_n X dX12_laysFewest_18 rfl 1 rfl ?_
        refine z_iload_n X dX12_laysFewest_19 rfl 1 rfl ?_
        obtain ⟨K56, eK56, hF⟩ := nx_e hF
        have K56_l : ∀ (j55 : Int32), K56 j55 = some zz52 → ZW p l e R s m args below meth c D A 3 0 0 Q (w_X12_four cA h_t a_t o48) [(0, .ref h_t), (1, .int k49)] 30 [.int j55, .int k49, .ref (a_t 40)] := by
          intro j55 hF
          rw [eK56] at hF
          obtain ⟨g57, hF⟩ := gi_e hF
          obtain ⟨o58, eo58, hF⟩ := nx_e hF
          refine z_iast (ws' := (w_X12_four cA h_t a_t o58)) X 19 rfl g57 (by rw [eo58]; rfl) dX12_laysFewest_30 ?_
          refine z_iload_n X dX12_laysFewest_31 rfl 1 rfl ?_
          refine z_aload_n X dX12_laysFewest_32 rfl 0 rfl ?_
          refine z_get (v := .int (o58 43 0)) X k_X12_laysFewest_347 0 rfl rfl dX12_laysFewest_33 ?_
          refine z_iconst (v := (-1 : Int32)) X dX12_laysFewest_36 (by decide) ?_
          refine z_ixor X dX12_laysFewest_37 ?_
          refine z_iand X dX12_laysFewest_38 ?_
          have hF := if_e hF
          refine z_if_eq (tgt := 45) X dX12_laysFewest_39 (by decide) (fun c95 => ?_) (fun c95 => ?_)
          · have hF := hF.1 c95
            refine z_iconst (v := (1 : Int32)) X dX12_laysFewest_45 (by decide) ?_
            refine z_istore_n (lv' := [(2, .int (1 : Int32)), (0, .ref h_t), (1, .int k49)]) X dX12_laysFewest_46 rfl (by decide) rfl ?_
            obtain ⟨o76, hL, hF⟩ := zb1_e hF
            have L78_x : ∀ (o76' : Ob), o76' = o76 → ZW p l e R s m args below meth c D A 3 0 0 Q (w_X12_four cA h_t a_t o76') [(0, .ref h_t), (1, .int k49)] 106 [] := by
              intro o76' hz
              cases hz
              obtain ⟨x77, ex77, hF⟩ := nx_e hF
              refine z_iinc (v := x77) (lv' := [(1, .int x77), (0, .ref h_t)]) (j := 1) X dX12_laysFewest_106 rfl (by rw [ex77]; rfl) (by decide) rfl ?_
              refine z_goto (tgt := 2) X dX12_laysFewest_109 (by decide) ?_
              cases hF
              refine z_lv (lv' := [(0, .ref h_t), (1, .int x77)]) [1, 0] rfl ?_
              exact ih o76 x77 hL
            obtain ⟨B93, hBB93, hL⟩ := zl2_b hL
            have L78 : ∀ (n : Nat) (o74 : Ob) (k75 : Int32), zl2 B93 n o74 k75 = some o76 → ZW p l e R s m args below meth c D A 3 0 0 Q (w_X12_four cA h_t a_t o74) [(0, .ref h_t), (1, .int k49), (2, .int k75)] 47 [] := by
              intro n
              induction n with
              | zero => intro o74 k75 hL; cases hL
              | succ n ih =>
                intro o74 k75 hL
                obtain ⟨zz79, hF, hL⟩ := zl2_e hL
                rw [hBB93] at hF
                refine z_iload_n X dX12_laysFewest_47 rfl 2 rfl ?_
                refine z_iload_n X dX12_laysFewest_48 rfl 1 rfl ?_
                have hF := if_e hF
                refine z_icmp_gt (tgt := 106) X dX12_laysFewest_49 (by decide) (fun c92 => ?_) (fun c92 => ?_)
                · have hF := hF.1 c92
                  cases hF
                  have hL := Option.some.inj hL
                  refine z_lv (lv' := [(0, .ref h_t), (1, .int k49)]) [0, 1] rfl ?_
                  exact L78_x o74 hL
                · have hF := hF.2 c92
                  refine z_aload_n X dX12_laysFewest_52 rfl 0 rfl ?_
                  refine z_iload_n X dX12_laysFewest_53 rfl 1 rfl ?_
                  refine z_iload_n X dX12_laysFewest_54 rfl 2 rfl ?_
                  obtain ⟨r80, hc81, hF⟩ := zb1_e hF
                  refine z_Vi (As := [.int k49, .int k75]) (rest := []) (wc := (w_X12_four cA h_t a_t o74)) (wc' := (w_X12_four cA h_t a_t o74)) (ws' := (w_X12_four cA h_t a_t o74)) (rv := r80) X (cwV 2 X.2.2.2.2.1 gX12_laysFewest_X12_isRide rfl rfl rfl (by decide +kernel) (by rw [hR]; exact ⟨Nat.le_of_ble_eq_true rfl, Nat.le_of_ble_eq_true rfl⟩)) (fun sz => c_X12_isRide l D cA g sz h_t a_t o74 k49 k75 r80 hc81) [0, 1, 2, 3, 4, 5, 6, 7, 8, 9, 10, 11, 12, 13, 14, 15, 16, 17, 18, 19, 20, 21] [1000, 1001, 1002, 1003, 1004, 1005, 1006, 1007, 1008, 1009, 1010, 1011, 1012, 1013, 1014, 1015, 1016, 1017, 1018, 1019, 1020, 1021] rfl (by decide) rfl (by decide) rfl rfl rfl rfl rfl rfl (Nat.le_of_ble_eq_true rfl) dX12_laysFewest_55 ⟨Nat.zero_le _, Nat.zero_le _⟩ ?_
                  have hF := if_e hF
                  refine z_if_eq (tgt := 100) X dX12_laysFewest_58 (by decide) (fun c91 => ?_) (fun c91 => ?_)
                  · have hF := hF.1 c91
                    obtain ⟨x82, ex82, hF⟩ := nx_e hF
                    refine z_iinc (v := x82) (lv' := [(2, .int x82), (0, .ref h_t), (1, .int k49)]) (j := 2) X dX12_laysFewest_100 rfl (by rw [ex82]; rfl) (by decide) rfl ?_
                    refine z_goto (tgt := 47) X dX12_laysFewest_103 (by decide) ?_
                    cases hF
                    refine z_lv (lv' := [(0, .ref h_t), (1, .int k49), (2, .int x82)]) [1, 2, 0] rfl ?_
                    exact ih o74 x82 hL
                  · have hF := hF.2 c91
                    refine z_aload_n X dX12_laysFewest_61 rfl 0 rfl ?_
                    refine z_get (v := .ref (a_t 40)) X k_X12_laysFewest_66 0 rfl rfl dX12_laysFewest_62 ?_
                    refine z_iload_n X dX12_laysFewest_65 rfl 1 rfl ?_
                    refine z_iload_n X dX12_laysFewest_66 rfl 2 rfl ?_
                    refine z_iconst (v := (-1 : Int32)) X dX12_laysFewest_67 (by decide) ?_
                    refine z_ixor X dX12_laysFewest_68 ?_
                    refine z_iand X dX12_laysFewest_69 ?_
                    obtain ⟨g83, hF⟩ := gi_e hF
                    refine z_iald X 19 rfl g83 dX12_laysFewest_70 ?_
                    refine z_iconst (v := (1 : Int32)) X dX12_laysFewest_71 (by decide) ?_
                    refine z_iadd X dX12_laysFewest_72 ?_
                    refine z_aload_n X dX12_laysFewest_73 rfl 0 rfl ?_
                    refine z_get (v := .ref (a_t 40)) X k_X12_laysFewest_66 0 rfl rfl dX12_laysFewest_74 ?_
                    refine z_iload_n X dX12_laysFewest_77 rfl 1 rfl ?_
                    obtain ⟨g84, hF⟩ := gi_e hF
                    refine z_iald X 19 rfl g84 dX12_laysFewest_78 ?_
                    have hF := if_e hF
                    refine z_icmp_ge (tgt := 100) X dX12_laysFewest_79 (by decide) (fun c90 => ?_) (fun c90 => ?_)
                    · have hF := hF.1 c90
                      obtain ⟨x85, ex85, hF⟩ := nx_e hF
                      refine z_iinc (v := x85) (lv' := [(2, .int x85), (0, .ref h_t), (1, .int k49)]) (j := 2) X dX12_laysFewest_100 rfl (by rw [ex85]; rfl) (by decide) rfl ?_
                      refine z_goto (tgt := 47) X dX12_laysFewest_103 (by decide) ?_
                      cases hF
                      refine z_lv (lv' := [(0, .ref h_t), (1, .int k49), (2, .int x85)]) [1, 2, 0] rfl ?_
                      exact ih o74 x85 hL
                    · have hF := hF.2 c90
                      refine z_aload_n X dX12_laysFewest_82 rfl 0 rfl ?_
                      refine z_get (v := .ref (a_t 40)) X k_X12_laysFewest_66 0 rfl rfl dX12_laysFewest_83 ?_
                      refine z_iload_n X dX12_laysFewest_86 rfl 1 rfl ?_
                      refine z_aload_n X dX12_laysFewest_87 rfl 0 rfl ?_
                      refine z_get (v := .ref (a_t 40)) X k_X12_laysFewest_66 0 rfl rfl dX12_laysFewest_88 ?_
                      refine z_iload_n X dX12_laysFewest_91 rfl 1 rfl ?_
                      refine z_iload_n X dX12_laysFewest_92 rfl 2 rfl ?_
                      refine z_iconst (v := (-1 : Int32)) X dX12_laysFewest_93 (by decide) ?_
                      refine z_ixor X dX12_laysFewest_94 ?_
                      refine z_iand X dX12_laysFewest_95 ?_
                      obtain ⟨g86, hF⟩ := gi_e hF
                      refine z_iald X 19 rfl g86 dX12_laysFewest_96 ?_
                      refine z_iconst (v := (1 : Int32)) X dX12_laysFewest_97 (by decide) ?_
                      refine z_iadd X dX12_laysFewest_98 ?_
                      obtain ⟨g87, hF⟩ := gi_e hF
                      obtain ⟨o88, eo88, hF⟩ := nx_e hF
                      refine z_iast (ws' := (w_X12_four cA h_t a_t o88)) X 19 rfl g87 (by rw [eo88]; rfl) dX12_laysFewest_99 ?_
                      obtain ⟨x89, ex89, hF⟩ := nx_e hF
                      refine z_iinc (v := x89) (lv' := [(2, .int x89), (0, .ref h_t), (1, .int k49)]) (j := 2) X dX12_laysFewest_100 rfl (by rw [ex89]; rfl) (by decide) rfl ?_
                      refine z_goto (tgt := 47) X dX12_laysFewest_103 (by decide) ?_
                      cases hF
                      refine z_lv (lv' := [(0, .ref h_t), (1, .int k49), (2, .int x89)]) [1, 2, 0] rfl ?_
                      exact ih o88 x89 hL
            refine z_lv (lv' := [(0, .ref h_t), (1, .int k49), (2, .int (1 : Int32))]) [1, 2, 0] rfl ?_
            exact L78 FU o58 (1 : Int32) hL
          · have hF := hF.2 c95
            refine z_goto (tgt := 106) X dX12_laysFewest_42 (by decide) ?_
            obtain ⟨x94, ex94, hF⟩ := nx_e hF
            refine z_iinc (v := x94) (lv' := [(1, .int x94), (0, .ref h_t)]) (j := 1) X dX12_laysFewest_106 rfl (by rw [ex94]; rfl) (by decide) rfl ?_
            refine z_goto (tgt := 2) X dX12_laysFewest_109 (by decide) ?_
            cases hF
            refine z_lv (lv' := [(0, .ref h_t), (1, .int x94)]) [1, 0] rfl ?_
            exact ih o58 x94 hL
        have hF := if_e hF
        refine z_if_ne (tgt := 27) X dX12_laysFewest_20 (by decide) (fun c96 => ?_) (fun c96 => ?_)
        · have hF := hF.2 c96
          refine z_ldcw X k_X12_laysFewest_c284 dX12_laysFewest_27 ?_
          refine z_lv (lv' := [(0, .ref h_t), (1, .int k49)]) [0, 1] rfl ?_
          exact K56_l (100000000 : Int32) hF
        · have hF := hF.1 c96
          refine z_iconst (v := (0 : Int32)) X dX12_laysFewest_23 (by decide) ?_
          refine z_goto (tgt := 30) X dX12_laysFewest_24 (by decide) ?_
          refine z_lv (lv' := [(0, .ref h_t), (1, .int k49)]) [0, 1] rfl ?_
          exact K56_l (0 : Int32) hF
  refine z_lv (lv' := [(0, .ref h_t), (1, .int (0 : Int32))]) [1, 0] rfl ?_
  exact L51 FU o_t (0 : Int32) hL
set_option maxRecDepth 20000 in
theorem h_X12_canShift_X12 : ∀ w ∈ wsX120, w ∈ wsX12_canShift := by decide +kernel
set_option maxRecDepth 20000 in
theorem k_X12_canShift_7 : ZF wsX12_canShift RX12 7 12 0 RX12 TX12 47 := ⟨rfl, by decide, h_X12_canShift_X12, by decide +kernel⟩
set_option maxHeartbeats 8000000 in
set_option maxRecDepth 100000 in
theorem c_X12_canShift (l : Launch) (D : va_G) (cA : Nat → ClassId) (g : Nat → Nat) (sz : Nat) (h_t : Nat) (a_t : Nat → Nat) (o_t : Ob) (v1 : Int32) (v2 : Int32) (rv : Int32) (hF : f_X12_canShift o_t v1 v2 = some rv) : Met l yX12_canShift wsX12_canShift ({ frames := 2, cells := 0, slots := 0, locals := 44 }) (va_Pc [.ref h_t, .int v1, .int v2] (PreW D cA g sz (w_X12_four cA h_t a_t o_t))) (va_Qi (fun (r : Int32) (_ : Unit) => r = rv) (PostW D cA sz (w_X12_four cA h_t a_t o_t) (w_X12_four cA h_t a_t o_t)) (va_A (w_X12_four cA h_t a_t o_t) sz)) 0 0 (va_A (w_X12_four cA h_t a_t o_t) sz) := by
  refine z_start (cc := cX12_canShift) (maxL := 4) (ret := (some .boolean)) (lv0 := [(0, .ref h_t), (1, .int v1), (2, .int v2)]) (Qc := fun sz => va_Qi (fun (r : Int32) (_ : Unit) => r = rv) (PostW D cA sz (w_X12_four cA h_t a_t o_t) (w_X12_four cA h_t a_t o_t)) (va_A (w_X12_four cA h_t a_t o_t) sz)) (free := fun sz => va_A (w_X12_four cA h_t a_t o_t) sz) (by decide +kernel) rfl rfl (Nat.le_of_ble_eq_true rfl) ?_
  intro p e R s m args below meth c A Q hR hA hQ X hr hin
  unfold f_X12_canShift at hF
  refine z_iload_n X dX12_canShift_0 rfl 1 rfl ?_
  have hF := if_e hF
  refine z_if_lt (tgt := 40) X dX12_canShift_1 (by decide) (fun c37 => ?_) (fun c37 => ?_)
  · have hF := hF.1 c37
    refine z_iconst (v := (0 : Int32)) X dX12_canShift_40 (by decide) ?_
    cases hF
    exact z_zret X hA hQ hr (Or.inl rfl)  rfl dX12_canShift_41 (Nat.le_refl _) (Nat.le_refl _)
  · have hF := hF.2 c37
    refine z_iload_n X dX12_canShift_4 rfl 1 rfl ?_
    refine z_iconst (v := (1 : Int32)) X dX12_canShift_5 (by decide) ?_
    refine z_aload_n X dX12_canShift_6 rfl 0 rfl ?_
    refine z_get (v := .ref (a_t 0)) X k_X12_canShift_7 0 rfl rfl dX12_canShift_7 ?_
    refine z_iconst (v := (2 : Int32)) X dX12_canShift_10 (by decide) ?_
    obtain ⟨g1, hF⟩ := gi_e hF
    refine z_iald X 1 rfl g1 dX12_canShift_11 ?_
    refine z_ishl X dX12_canShift_12 ?_
    have hF := if_e hF
    refine z_icmp_ge (tgt := 40) X dX12_canShift_13 (by decide) (fun c36 => ?_) (fun c36 => ?_)
    · have hF := hF.1 c36
      refine z_iconst (v := (0 : Int32)) X dX12_canShift_40 (by decide) ?_
      cases hF
      exact z_zret X hA hQ hr (Or.inl rfl)  rfl dX12_canShift_41 (Nat.le_refl _) (Nat.le_refl _)
    · have hF := hF.2 c36
      refine z_iload_n X dX12_canShift_16 rfl 2 rfl ?_
      refine z_iconst (v := (1 : Int32)) X dX12_canShift_17 (by decide) ?_
      refine z_bipush (v := (40 : Int32)) X dX12_canShift_18 (by decide) ?_
      obtain ⟨r2, hc3, hF⟩ := zb1_e hF
      refine z_Si (As := [.int v2, .int (1 : Int32), .int (40 : Int32)]) (rest := []) (wc := ([] : va_W)) (wc' := ([] : va_W)) (ws' := (w_X12_four cA h_t a_t o_t)) (rv := r2) X (va_cwS 3 X.2.2.2.2.1 gX12_canShift_X12_isIn rfl rfl rfl (by decide +kernel) (by rw [hR]; exact ⟨Nat.le_of_ble_eq_true rfl, Nat.le_of_ble_eq_true rfl⟩)) (fun sz => c_X12_isIn l D cA g sz v2 (1 : Int32) (40 : Int32) r2 hc3) [] [0, 1, 2, 3, 4, 5, 6, 7, 8, 9, 10, 11, 12, 13, 14, 15, 16, 17, 18, 19, 20, 21] rfl (by decide) rfl (by decide) rfl rfl rfl (Nat.le_of_ble_eq_true rfl) dX12_canShift_20 ⟨Nat.zero_le _, Nat.zero_le _⟩ ?_
      have hF := if_e hF
      refine z_if_eq (tgt := 40) X dX12_canShift_23 (by decide) (fun c35 => ?_) (fun c35 => ?_)
      · have hF := hF.1 c35
        refine z_iconst (v := (0 : Int32)) X dX12_canShift_40 (by decide) ?_
        cases hF
        exact z_zret X hA hQ hr (Or.inl rfl)  rfl dX12_canShift_41 (Nat.le_refl _) (Nat.le_refl _)
      · have hF := hF.2 c35
        refine z_aload_n X dX12_canShift_26 rfl 0 rfl ?_
        refine z_iload_n X dX12_canShift_27 rfl 1 rfl ?_
        obtain ⟨r4, hc5, hF⟩ := zb1_e hF
        refine z_Vi (As := [.int v1]) (rest := []) (wc := (w_X12_four cA h_t a_t o_t)) (wc' := (w_X12_four cA h_t a_t o_t)) (ws' := (w_X12_four cA h_t a_t o_t)) (rv := r4) X (cwV 1 X.2.2.2.2.1 gX12_canShift_X12_sizeOf rfl rfl rfl (by decide +kernel) (by rw [hR]; exact ⟨Nat.le_of_ble_eq_true rfl, Nat.le_of_ble_eq_true rfl⟩)) (fun sz => c_X12_sizeOf l D cA g sz h_t a_t o_t v1 r4 hc5) [0, 1, 2, 3, 4, 5, 6, 7, 8, 9, 10, 11, 12, 13, 14, 15, 16, 17, 18, 19, 20, 21] [1000, 1001, 1002, 1003, 1004, 1005, 1006, 1007, 1008, 1009, 1010, 1011, 1012, 1013, 1014, 1015, 1016, 1017, 1018, 1019, 1020, 1021] rfl (by decide) rfl (by decide) rfl rfl rfl rfl rfl rfl (Nat.le_of_ble_eq_true rfl) dX12_canShift_28 ⟨Nat.zero_le _, Nat.zero_le _⟩ ?_
        refine z_aload_n X dX12_canShift_31 rfl 0 rfl ?_
        refine z_get (v := .ref (a_t 0)) X k_X12_canShift_7 0 rfl rfl dX12_canShift_32 ?_
        refine z_iconst (v := (0 : Int32)) X dX12_canShift_35 (by decide) ?_
        obtain ⟨g6, hF⟩ := gi_e hF
        refine z_iald X 1 rfl g6 dX12_canShift_36 ?_
        have hF := if_e hF
        refine z_icmp_le (tgt := 42) X dX12_canShift_37 (by decide) (fun c34 => ?_) (fun c34 => ?_)
        · have hF := hF.1 c34
          refine z_iconst (v := (0 : Int32)) X dX12_canShift_42 (by decide) ?_
          refine z_istore_n (lv' := [(3, .int (0 : Int32)), (0, .ref h_t), (1, .int v1), (2, .int v2)]) X dX12_canShift_43 rfl (by decide) rfl ?_
          obtain ⟨z32, hL, hFx, L20_r⟩ := ze0_e hF
          have L20_x : ∀ (_ : True), z32 = .inl () → ZW p l e R s m args below meth c D A 4 0 0 Q (w_X12_four cA h_t a_t o_t) [] 90 [] := by
            intro _ hz
            have hF := hFx  hz
            refine z_iconst (v := (1 : Int32)) X dX12_canShift_90 (by decide) ?_
            cases hF
            exact z_zret X hA hQ hr (Or.inr rfl)  rfl dX12_canShift_91 (Nat.le_refl _) (Nat.le_refl _)
          obtain ⟨B33, hBB33, hL⟩ := zl1_b hL
          have L20 : ∀ (n : Nat) (k19 : Int32), zl1 B33 n k19 = some z32 → ZW p l e R s m args below meth c D A 4 0 0 Q (w_X12_four cA h_t a_t o_t) [(0, .ref h_t), (1, .int v1), (2, .int v2), (3, .int k19)] 44 [] := by
            intro n
            induction n with
            | zero => intro k19 hL; cases hL
            | succ n ih =>
              intro k19 hL
              obtain ⟨zz21, hF, hL⟩ := zl1_e hL
              rw [hBB33] at hF
              refine z_iload_n X dX12_canShift_44 rfl 3 rfl ?_
              refine z_aload_n X dX12_canShift_45 rfl 0 rfl ?_
              refine z_get (v := .ref (a_t 0)) X k_X12_canShift_7 0 rfl rfl dX12_canShift_46 ?_
              refine z_iconst (v := (2 : Int32)) X dX12_canShift_49 (by decide) ?_
              obtain ⟨g22, hF⟩ := gi_e hF
              refine z_iald X 1 rfl g22 dX12_canShift_50 ?_
              have hF := if_e hF
              refine z_icmp_ge (tgt := 90) X dX12_canShift_51 (by decide) (fun c31 => ?_) (fun c31 => ?_)
              · have hF := hF.1 c31
                cases hF
                have hL := Option.some.inj hL
                refine z_lv (lv' := []) [] rfl ?_
                exact L20_x trivial hL.symm
              · have hF := hF.2 c31
                refine z_iload_n X dX12_canShift_54 rfl 1 rfl ?_
                refine z_aload_n X dX12_canShift_55 rfl 0 rfl ?_
                refine z_get (v := .ref (a_t 0)) X k_X12_canShift_7 0 rfl rfl dX12_canShift_56 ?_
                refine z_iconst (v := (3 : Int32)) X dX12_canShift_59 (by decide) ?_
                obtain ⟨g23, hF⟩ := gi_e hF
                refine z_iald X 1 rfl g23 dX12_canShift_60 ?_
                refine z_ixor X dX12_canShift_61 ?_
                refine z_iload_n X dX12_canShift_62 rfl 3 rfl ?_
                obtain ⟨r24, hc25, hF⟩ := zb1_e hF
                refine z_Si (As := [.int (v1 ^^^ (o_t 0 (Int32.toNatClampNeg (3 : Int32)))), .int k19]) (rest := []) (wc := ([] : va_W)) (wc' := ([] : va_W)) (ws' := (w_X12_four cA h_t a_t o_t)) (rv := r24) X (va_cwS 2 X.2.2.2.2.1 gX12_canShift_X12_bitOf rfl rfl rfl (by decide +kernel) (by rw [hR]; exact ⟨Nat.le_of_ble_eq_true rfl, Nat.le_of_ble_eq_true rfl⟩)) (fun sz => c_X12_bitOf l D cA g sz (v1 ^^^ (o_t 0 (Int32.toNatClampNeg (3 : Int32)))) k19 r24 hc25) [] [0, 1, 2, 3, 4, 5, 6, 7, 8, 9, 10, 11, 12, 13, 14, 15, 16, 17, 18, 19, 20, 21] rfl (by decide) rfl (by decide) rfl rfl rfl (Nat.le_of_ble_eq_true rfl) dX12_canShift_63 ⟨Nat.zero_le _, Nat.zero_le _⟩ ?_
                have hF := if_e hF
                refine z_if_eq (tgt := 84) X dX12_canShift_66 (by decide) (fun c30 => ?_) (fun c30 => ?_)
                · have hF := hF.1 c30
                  obtain ⟨x26, ex26, hF⟩ := nx_e hF
                  refine z_iinc (v := x26) (lv' := [(3, .int x26), (0, .ref h_t), (1, .int v1), (2, .int v2)]) (j := 3) X dX12_canShift_84 rfl (by rw [ex26]; rfl) (by decide) rfl ?_
                  refine z_goto (tgt := 44) X dX12_canShift_87 (by decide) ?_
                  cases hF
                  refine z_lv (lv' := [(0, .ref h_t), (1, .int v1), (2, .int v2), (3, .int x26)]) [1, 2, 3, 0] rfl ?_
                  exact ih x26 hL
                · have hF := hF.2 c30
                  refine z_aload_n X dX12_canShift_69 rfl 0 rfl ?_
                  refine z_get (v := .ref (a_t 0)) X k_X12_canShift_7 0 rfl rfl dX12_canShift_70 ?_
                  refine z_bipush (v := (8 : Int32)) X dX12_canShift_73 (by decide) ?_
                  refine z_iload_n X dX12_canShift_75 rfl 3 rfl ?_
                  refine z_iadd X dX12_canShift_76 ?_
                  obtain ⟨g27, hF⟩ := gi_e hF
                  refine z_iald X 1 rfl g27 dX12_canShift_77 ?_
                  refine z_iload_n X dX12_canShift_78 rfl 2 rfl ?_
                  have hF := if_e hF
                  refine z_icmp_le (tgt := 84) X dX12_canShift_79 (by decide) (fun c29 => ?_) (fun c29 => ?_)
                  · have hF := hF.1 c29
                    obtain ⟨x28, ex28, hF⟩ := nx_e hF
                    refine z_iinc (v := x28) (lv' := [(3, .int x28), (0, .ref h_t), (1, .int v1), (2, .int v2)]) (j := 3) X dX12_canShift_84 rfl (by rw [ex28]; rfl) (by decide) rfl ?_
                    refine z_goto (tgt := 44) X dX12_canShift_87 (by decide) ?_
                    cases hF
                    refine z_lv (lv' := [(0, .ref h_t), (1, .int v1), (2, .int v2), (3, .int x28)]) [1, 2, 3, 0] rfl ?_
                    exact ih x28 hL
                  · have hF := hF.2 c29
                    refine z_iconst (v := (0 : Int32)) X dX12_canShift_82 (by decide) ?_
                    cases hF
                    have hL := (Option.some.inj hL).symm
                    have hF := L20_r _ hL
                    cases hF
                    exact z_zret X hA hQ hr (Or.inl rfl)  rfl dX12_canShift_83 (Nat.le_refl _) (Nat.le_refl _)
          refine z_lv (lv' := [(0, .ref h_t), (1, .int v1), (2, .int v2), (3, .int (0 : Int32))]) [1, 2, 3, 0] rfl ?_
          exact L20 FU (0 : Int32) hL
        · have hF := hF.2 c34
          refine z_iconst (v := (0 : Int32)) X dX12_canShift_40 (by decide) ?_
          cases hF
          exact z_zret X hA hQ hr (Or.inl rfl)  rfl dX12_canShift_41 (Nat.le_refl _) (Nat.le_refl _)
set_option maxRecDepth 20000 in
theorem h_X12_laysRides_X12 : ∀ w ∈ wsX120, w ∈ wsX12_laysRides := by decide +kernel
set_option maxRecDepth 20000 in
theorem k_X12_laysRides_7 : ZF wsX12_laysRides RX12 7 12 0 RX12 TX12 47 := ⟨rfl, by decide, h_X12_laysRides_X12, by decide +kernel⟩
set_option maxRecDepth 20000 in
theorem k_X12_laysRides_66 : ZF wsX12_laysRides RX12 66 12 40 RX12 TX12 47 := ⟨rfl, by decide, h_X12_laysRides_X12, by decide +kernel⟩
set_option maxRecDepth 20000 in
theorem k_X12_laysRides_344 : ZF wsX12_laysRides RX12 344 12 44 RX12 TX12 47 := ⟨rfl, by decide, h_X12_laysRides_X12, by decide +kernel⟩
set_option maxRecDepth 20000 in
theorem k_X12_laysRides_347 : ZF wsX12_laysRides RX12 347 12 43 RX12 TX12 47 := ⟨rfl, by decide, h_X12_laysRides_X12, by decide +kernel⟩
set_option maxHeartbeats 8000000 in
set_option maxRecDepth 100000 in
theorem c_X12_laysRides__r (l : Launch) (D : va_G) (cA : Nat → ClassId) (g : Nat → Nat) (sz : Nat) (h_t : Nat) (a_t : Nat → Nat) (o_t : Ob) (v1 : Int32) (v2 : Int32) (o_t' : Ob) (rv : Int32) (hF : f_X12_laysRides__r o_t v1 v2 = some (o_t', rv)) : Met l yX12_laysRides wsX12_laysRides ({ frames := 4, cells := 0, slots := 0, locals := 89 }) (va_Pc [.ref h_t, .int v1, .int v2, .ref (a_t 41)] (PreW D cA g sz (w_X12_four cA h_t a_t o_t))) (va_Qi (fun (r : Int32) (_ : Unit) => r = rv) (PostW D cA sz (w_X12_four cA h_t a_t o_t) (w_X12_four cA h_t a_t o_t')) (va_A (w_X12_four cA h_t a_t o_t) sz)) 0 0 (va_A (w_X12_four cA h_t a_t o_t) sz) := by
  refine z_start (cc := cX12_laysRides) (maxL := 7) (ret := (some .int)) (lv0 := [(0, .ref h_t), (1, .int v1), (2, .int v2), (3, .ref (a_t 41))]) (Qc := fun sz => va_Qi (fun (r : Int32) (_ : Unit) => r = rv) (PostW D cA sz (w_X12_four cA h_t a_t o_t) (w_X12_four cA h_t a_t o_t')) (va_A (w_X12_four cA h_t a_t o_t) sz)) (free := fun sz => va_A (w_X12_four cA h_t a_t o_t) sz) (by decide +kernel) rfl rfl (Nat.le_of_ble_eq_true rfl) ?_
  intro p e R s m args below meth c A Q hR hA hQ X hr hin
  unfold f_X12_laysRides__r at hF
  refine z_aload_n X dX12_laysRides_0 rfl 0 rfl ?_
  refine z_iload_n X dX12_laysRides_1 rfl 1 rfl ?_
  refine z_aload_n X dX12_laysRides_2 rfl 0 rfl ?_
  refine z_get (v := .ref (a_t 0)) X k_X12_laysRides_7 0 rfl rfl dX12_laysRides_3 ?_
  refine z_iconst (v := (3 : Int32)) X dX12_laysRides_6 (by decide) ?_
  obtain ⟨g1, hF⟩ := gi_e hF
  refine z_iald X 1 rfl g1 dX12_laysRides_7 ?_
  refine z_ixor X dX12_laysRides_8 ?_
  obtain ⟨o2, eo2, hF⟩ := nx_e hF
  refine z_put (ws' := (w_X12_four cA h_t a_t o2)) X k_X12_laysRides_347 tyX12 tyX12_ok nmX12 rfl rfl 0 rfl (Nat.le_of_ble_eq_true rfl) (by rw [eo2]; rfl) dX12_laysRides_9 ?_
  refine z_aload_n X dX12_laysRides_12 rfl 0 rfl ?_
  refine z_iload_n X dX12_laysRides_13 rfl 2 rfl ?_
  obtain ⟨o3, eo3, hF⟩ := nx_e hF
  refine z_put (ws' := (w_X12_four cA h_t a_t o3)) X k_X12_laysRides_344 tyX12 tyX12_ok nmX12 rfl rfl 0 rfl (Nat.le_of_ble_eq_true rfl) (by rw [eo3]; rfl) dX12_laysRides_14 ?_
  refine z_aload_n X dX12_laysRides_17 rfl 0 rfl ?_
  obtain ⟨o4, hc5, hF⟩ := zb1_e hF
  refine z_Vv (As := []) (rest := []) (wc := (w_X12_four cA h_t a_t o3)) (wc' := (w_X12_four cA h_t a_t o4)) (ws' := (w_X12_four cA h_t a_t o4)) X (cwV 0 X.2.2.2.2.1 gX12_laysRides_X12_laysFewest rfl rfl rfl (by decide +kernel) (by rw [hR]; exact ⟨Nat.le_of_ble_eq_true rfl, Nat.le_of_ble_eq_true rfl⟩)) (fun sz => c_X12_laysFewest l D cA g sz h_t a_t o3 o4 hc5) [0, 1, 2, 3, 4, 5, 6, 7, 8, 9, 10, 11, 12, 13, 14, 15, 16, 17, 18, 19, 20, 21] [1000, 1001, 1002, 1003, 1004, 1005, 1006, 1007, 1008, 1009, 1010, 1011, 1012, 1013, 1014, 1015, 1016, 1017, 1018, 1019, 1020, 1021] rfl (by decide) rfl (by decide) rfl rfl rfl rfl rfl rfl (Nat.le_of_ble_eq_true rfl) dX12_laysRides_18 ⟨Nat.zero_le _, Nat.zero_le _⟩ ?_
  refine z_aload_n X dX12_laysRides_21 rfl 0 rfl ?_
  refine z_get (v := .int (o4 43 0)) X k_X12_laysRides_347 0 rfl rfl dX12_laysRides_22 ?_
  obtain ⟨x6, ex6, hF⟩ := nx_e hF
  refine z_nm ex6 ?_
  refine z_istore (lv' := [(4, .int x6), (0, .ref h_t), (1, .int v1), (2, .int v2), (3, .ref (a_t 41))]) X dX12_laysRides_25 (by decide) rfl ?_
  refine z_iconst (v := (0 : Int32)) X dX12_laysRides_27 (by decide) ?_
  refine z_istore (lv' := [(5, .int (0 : Int32)), (4, .int x6), (0, .ref h_t), (1, .int v1), (2, .int v2), (3, .ref (a_t 41))]) X dX12_laysRides_28 (by decide) rfl ?_
  obtain ⟨o41, k42, hL, hF⟩ := zb2_e hF
  have L43_x : ∀ (o41' : Ob) (k42' : Int32), (o41', k42') = (o41, k42) → ZW p l e R s m args below meth c D A 7 0 0 Q (w_X12_four cA h_t a_t o41') [(5, .int k42')] 100 [] := by
    intro o41' k42' hz
    cases hz
    refine z_iload X dX12_laysRides_100 0 rfl ?_
    cases hF
    exact z_iret X hA hQ hr rfl dX12_laysRides_102 (Nat.le_refl _) (Nat.le_refl _)
  obtain ⟨B73, hBB73, hL⟩ := zl3_b hL
  have L43 : ∀ (n : Nat) (o38 : Ob) (k39 : Int32) (k40 : Int32), zl3 B73 n o38 k39 k40 = some (o41, k42) → ZW p l e R s m args below meth c D A 7 0 0 Q (w_X12_four cA h_t a_t o38) [(0, .ref h_t), (3, .ref (a_t 41)), (4, .int k39), (5, .int k40)] 30 [] := by
    intro n
    induction n with
    | zero => intro o38 k39 k40 hL; cases hL
    | succ n ih =>
      intro o38 k39 k40 hL
      obtain ⟨zz44, hF, hL⟩ := zl3_e hL
      rw [hBB73] at hF
      refine z_iload X dX12_laysRides_30 2 rfl ?_
      have hF := if_e hF
      refine z_if_eq (tgt := 100) X dX12_laysRides_32 (by decide) (fun c72 => ?_) (fun c72 => ?_)
      · have hF := hF.1 c72
        cases hF
        have hL := Option.some.inj hL
        refine z_lv (lv' := [(5, .int k40)]) [3] rfl ?_
        exact L43_x o38 k40 hL
      · have hF := hF.2 c72
        refine z_iconst (v := (1 : Int32)) X dX12_laysRides_35 (by decide) ?_
        refine z_istore (lv' := [(6, .int (1 : Int32)), (0, .ref h_t), (3, .ref (a_t 41)), (4, .int k39), (5, .int k40)]) X dX12_laysRides_36 (by decide) rfl ?_
        obtain ⟨k56, hL, hF⟩ := zb1_e hF
        have L61_x : ∀ (k56' : Int32), k56' = k56 → ZW p l e R s m args below meth c D A 7 0 0 Q (w_X12_four cA h_t a_t o38) [(0, .ref h_t), (3, .ref (a_t 41)), (4, .int k39), (5, .int k40), (6, .int k56')] 79 [] := by
          intro k56' hz
          cases hz
          refine z_aload_n X dX12_laysRides_79 rfl 1 rfl ?_
          refine z_iload X dX12_laysRides_80 3 rfl ?_
          refine z_iload X dX12_laysRides_82 4 rfl ?_
          obtain ⟨g57, hF⟩ := gi_e hF
          obtain ⟨o58, eo58, hF⟩ := nx_e hF
          refine z_iast (ws' := (w_X12_four cA h_t a_t o58)) X 20 rfl g57 (by rw [eo58]; rfl) dX12_laysRides_84 ?_
          obtain ⟨x59, ex59, hF⟩ := nx_e hF
          refine z_iinc (v := x59) (lv' := [(5, .int x59), (0, .ref h_t), (3, .ref (a_t 41)), (4, .int k39), (6, .int k56)]) (j := 3) X dX12_laysRides_85 rfl (by rw [ex59]; rfl) (by decide) rfl ?_
          refine z_iload X dX12_laysRides_88 3 rfl ?_
          refine z_iload X dX12_laysRides_90 4 rfl ?_
          refine z_iconst (v := (-1 : Int32)) X dX12_laysRides_92 (by decide) ?_
          refine z_ixor X dX12_laysRides_93 ?_
          refine z_iand X dX12_laysRides_94 ?_
          obtain ⟨x60, ex60, hF⟩ := nx_e hF
          refine z_nm ex60 ?_
          refine z_istore (lv' := [(4, .int x60), (5, .int x59), (0, .ref h_t), (3, .ref (a_t 41)), (6, .int k56)]) X dX12_laysRides_95 (by decide) rfl ?_
          refine z_goto (tgt := 30) X dX12_laysRides_97 (by decide) ?_
          cases hF
          refine z_lv (lv' := [(0, .ref h_t), (3, .ref (a_t 41)), (4, .int x60), (5, .int x59)]) [2, 3, 0, 1] rfl ?_
          exact ih o58 x60 x59 hL
        obtain ⟨B71, hBB71, hL⟩ := zl1_b hL
        have L61 : ∀ (n : Nat) (k55 : Int32), zl1 B71 n k55 = some k56 → ZW p l e R s m args below meth c D A 7 0 0 Q (w_X12_four cA h_t a_t o38) [(0, .ref h_t), (3, .ref (a_t 41)), (4, .int k39), (5, .int k40), (6, .int k55)] 38 [] := by
          intro n
          induction n with
          | zero => intro k55 hL; cases hL
          | succ n ih =>
            intro k55 hL
            obtain ⟨zz62, hF, hL⟩ := zl1_e hL
            rw [hBB71] at hF
            refine z_aload_n X dX12_laysRides_38 rfl 0 rfl ?_
            refine z_iload X dX12_laysRides_39 2 rfl ?_
            refine z_iload X dX12_laysRides_41 4 rfl ?_
            obtain ⟨r63, hc64, hF⟩ := zb1_e hF
            refine z_Vi (As := [.int k39, .int k55]) (rest := []) (wc := (w_X12_four cA h_t a_t o38)) (wc' := (w_X12_four cA h_t a_t o38)) (ws' := (w_X12_four cA h_t a_t o38)) (rv := r63) X (cwV 2 X.2.2.2.2.1 gX12_laysRides_X12_isRide rfl rfl rfl (by decide +kernel) (by rw [hR]; exact ⟨Nat.le_of_ble_eq_true rfl, Nat.le_of_ble_eq_true rfl⟩)) (fun sz => c_X12_isRide l D cA g sz h_t a_t o38 k39 k55 r63 hc64) [0, 1, 2, 3, 4, 5, 6, 7, 8, 9, 10, 11, 12, 13, 14, 15, 16, 17, 18, 19, 20, 21] [1000, 1001, 1002, 1003, 1004, 1005, 1006, 1007, 1008, 1009, 1010, 1011, 1012, 1013, 1014, 1015, 1016, 1017, 1018, 1019, 1020, 1021] rfl (by decide) rfl (by decide) rfl rfl rfl rfl rfl rfl (Nat.le_of_ble_eq_true rfl) dX12_laysRides_43 ⟨Nat.zero_le _, Nat.zero_le _⟩ ?_
            have hF := if_e hF
            refine z_if_eq (tgt := 73) X dX12_laysRides_46 (by decide) (fun c70 => ?_) (fun c70 => ?_)
            · have hF := hF.1 c70
              obtain ⟨x65, ex65, hF⟩ := nx_e hF
              refine z_iinc (v := x65) (lv' := [(6, .int x65), (0, .ref h_t), (3, .ref (a_t 41)), (4, .int k39), (5, .int k40)]) (j := 4) X dX12_laysRides_73 rfl (by rw [ex65]; rfl) (by decide) rfl ?_
              refine z_goto (tgt := 38) X dX12_laysRides_76 (by decide) ?_
              cases hF
              refine z_lv (lv' := [(0, .ref h_t), (3, .ref (a_t 41)), (4, .int k39), (5, .int k40), (6, .int x65)]) [1, 2, 3, 4, 0] rfl ?_
              exact ih x65 hL
            · have hF := hF.2 c70
              refine z_aload_n X dX12_laysRides_49 rfl 0 rfl ?_
              refine z_get (v := .ref (a_t 40)) X k_X12_laysRides_66 0 rfl rfl dX12_laysRides_50 ?_
              refine z_iload X dX12_laysRides_53 2 rfl ?_
              refine z_iload X dX12_laysRides_55 4 rfl ?_
              refine z_iconst (v := (-1 : Int32)) X dX12_laysRides_57 (by decide) ?_
              refine z_ixor X dX12_laysRides_58 ?_
              refine z_iand X dX12_laysRides_59 ?_
              obtain ⟨g66, hF⟩ := gi_e hF
              refine z_iald X 19 rfl g66 dX12_laysRides_60 ?_
              refine z_aload_n X dX12_laysRides_61 rfl 0 rfl ?_
              refine z_get (v := .ref (a_t 40)) X k_X12_laysRides_66 0 rfl rfl dX12_laysRides_62 ?_
              refine z_iload X dX12_laysRides_65 2 rfl ?_
              obtain ⟨g67, hF⟩ := gi_e hF
              refine z_iald X 19 rfl g67 dX12_laysRides_67 ?_
              refine z_iconst (v := (1 : Int32)) X dX12_laysRides_68 (by decide) ?_
              refine z_isub X dX12_laysRides_69 ?_
              have hF := if_e hF
              refine z_icmp_eq (tgt := 79) X dX12_laysRides_70 (by decide) (fun c69 => ?_) (fun c69 => ?_)
              · have hF := hF.1 c69
                cases hF
                have hL := Option.some.inj hL
                refine z_lv (lv' := [(0, .ref h_t), (3, .ref (a_t 41)), (4, .int k39), (5, .int k40), (6, .int k55)]) [0, 1, 2, 3, 4] rfl ?_
                exact L61_x k55 hL
              · have hF := hF.2 c69
                obtain ⟨x68, ex68, hF⟩ := nx_e hF
                refine z_iinc (v := x68) (lv' := [(6, .int x68), (0, .ref h_t), (3, .ref (a_t 41)), (4, .int k39), (5, .int k40)]) (j := 4) X dX12_laysRides_73 rfl (by rw [ex68]; rfl) (by decide) rfl ?_
                refine z_goto (tgt := 38) X dX12_laysRides_76 (by decide) ?_
                cases hF
                refine z_lv (lv' := [(0, .ref h_t), (3, .ref (a_t 41)), (4, .int k39), (5, .int k40), (6, .int x68)]) [1, 2, 3, 4, 0] rfl ?_
                exact ih x68 hL
        refine z_lv (lv' := [(0, .ref h_t), (3, .ref (a_t 41)), (4, .int k39), (5, .int k40), (6, .int (1 : Int32))]) [1, 2, 3, 4, 0] rfl ?_
        exact L61 FU (1 : Int32) hL
  refine z_lv (lv' := [(0, .ref h_t), (3, .ref (a_t 41)), (4, .int x6), (5, .int (0 : Int32))]) [2, 5, 1, 0] rfl ?_
  exact L43 FU o4 x6 (0 : Int32) hL
set_option maxHeartbeats 8000000 in
set_option maxRecDepth 100000 in
theorem c_X12_laysRides__g (l : Launch) (D : va_G) (cA : Nat → ClassId) (g : Nat → Nat) (sz : Nat) (h_t : Nat) (a_t : Nat → Nat) (o_t : Ob) (v1 : Int32) (v2 : Int32) (o_t' : Ob) (rv : Int32) (hF : f_X12_laysRides__g o_t v1 v2 = some (o_t', rv)) : Met l yX12_laysRides wsX12_laysRides ({ frames := 4, cells := 0, slots := 0, locals := 89 }) (va_Pc [.ref h_t, .int v1, .int v2, .ref (a_t 45)] (PreW D cA g sz (w_X12_four cA h_t a_t o_t))) (va_Qi (fun (r : Int32) (_ : Unit) => r = rv) (PostW D cA sz (w_X12_four cA h_t a_t o_t) (w_X12_four cA h_t a_t o_t')) (va_A (w_X12_four cA h_t a_t o_t) sz)) 0 0 (va_A (w_X12_four cA h_t a_t o_t) sz) := by
  refine z_start (cc := cX12_laysRides) (maxL := 7) (ret := (some .int)) (lv0 := [(0, .ref h_t), (1, .int v1), (2, .int v2), (3, .ref (a_t 45))]) (Qc := fun sz => va_Qi (fun (r : Int32) (_ : Unit) => r = rv) (PostW D cA sz (w_X12_four cA h_t a_t o_t) (w_X12_four cA h_t a_t o_t')) (va_A (w_X12_four cA h_t a_t o_t) sz)) (free := fun sz => va_A (w_X12_four cA h_t a_t o_t) sz) (by decide +kernel) rfl rfl (Nat.le_of_ble_eq_true rfl) ?_
  intro p e R s m args below meth c A Q hR hA hQ X hr hin
  unfold f_X12_laysRides__g at hF
  refine z_aload_n X dX12_laysRides_0 rfl 0 rfl ?_
  refine z_iload_n X dX12_laysRides_1 rfl 1 rfl ?_
  refine z_aload_n X dX12_laysRides_2 rfl 0 rfl ?_
  refine z_get (v := .ref (a_t 0)) X k_X12_laysRides_7 0 rfl rfl dX12_laysRides_3 ?_
  refine z_iconst (v := (3 : Int32)) X dX12_laysRides_6 (by decide) ?_
  obtain ⟨g1, hF⟩ := gi_e hF
  refine z_iald X 1 rfl g1 dX12_laysRides_7 ?_
  refine z_ixor X dX12_laysRides_8 ?_
  obtain ⟨o2, eo2, hF⟩ := nx_e hF
  refine z_put (ws' := (w_X12_four cA h_t a_t o2)) X k_X12_laysRides_347 tyX12 tyX12_ok nmX12 rfl rfl 0 rfl (Nat.le_of_ble_eq_true rfl) (by rw [eo2]; rfl) dX12_laysRides_9 ?_
  refine z_aload_n X dX12_laysRides_12 rfl 0 rfl ?_
  refine z_iload_n X dX12_laysRides_13 rfl 2 rfl ?_
  obtain ⟨o3, eo3, hF⟩ := nx_e hF
  refine z_put (ws' := (w_X12_four cA h_t a_t o3)) X k_X12_laysRides_344 tyX12 tyX12_ok nmX12 rfl rfl 0 rfl (Nat.le_of_ble_eq_true rfl) (by rw [eo3]; rfl) dX12_laysRides_14 ?_
  refine z_aload_n X dX12_laysRides_17 rfl 0 rfl ?_
  obtain ⟨o4, hc5, hF⟩ := zb1_e hF
  refine z_Vv (As := []) (rest := []) (wc := (w_X12_four cA h_t a_t o3)) (wc' := (w_X12_four cA h_t a_t o4)) (ws' := (w_X12_four cA h_t a_t o4)) X (cwV 0 X.2.2.2.2.1 gX12_laysRides_X12_laysFewest rfl rfl rfl (by decide +kernel) (by rw [hR]; exact ⟨Nat.le_of_ble_eq_true rfl, Nat.le_of_ble_eq_true rfl⟩)) (fun sz => c_X12_laysFewest l D cA g sz h_t a_t o3 o4 hc5) [0, 1, 2, 3, 4, 5, 6, 7, 8, 9, 10, 11, 12, 13, 14, 15, 16, 17, 18, 19, 20, 21] [1000, 1001, 1002, 1003, 1004, 1005, 1006, 1007, 1008, 1009, 1010, 1011, 1012, 1013, 1014, 1015, 1016, 1017, 1018, 1019, 1020, 1021] rfl (by decide) rfl (by decide) rfl rfl rfl rfl rfl rfl (Nat.le_of_ble_eq_true rfl) dX12_laysRides_18 ⟨Nat.zero_le _, Nat.zero_le _⟩ ?_
  refine z_aload_n X dX12_laysRides_21 rfl 0 rfl ?_
  refine z_get (v := .int (o4 43 0)) X k_X12_laysRides_347 0 rfl rfl dX12_laysRides_22 ?_
  obtain ⟨x6, ex6, hF⟩ := nx_e hF
  refine z_nm ex6 ?_
  refine z_istore (lv' := [(4, .int x6), (0, .ref h_t), (1, .int v1), (2, .int v2), (3, .ref (a_t 45))]) X dX12_laysRides_25 (by decide) rfl ?_
  refine z_iconst (v := (0 : Int32)) X dX12_laysRides_27 (by decide) ?_
  refine z_istore (lv' := [(5, .int (0 : Int32)), (4, .int x6), (0, .ref h_t), (1, .int v1), (2, .int v2), (3, .ref (a_t 45))]) X dX12_laysRides_28 (by decide) rfl ?_
  obtain ⟨o41, k42, hL, hF⟩ := zb2_e hF
  have L43_x : ∀ (o41' : Ob) (k42' : Int32), (o41', k42') = (o41, k42) → ZW p l e R s m args below meth c D A 7 0 0 Q (w_X12_four cA h_t a_t o41') [(5, .int k42')] 100 [] := by
    intro o41' k42' hz
    cases hz
    refine z_iload X dX12_laysRides_100 0 rfl ?_
    cases hF
    exact z_iret X hA hQ hr rfl dX12_laysRides_102 (Nat.le_refl _) (Nat.le_refl _)
  obtain ⟨B73, hBB73, hL⟩ := zl3_b hL
  have L43 : ∀ (n : Nat) (o38 : Ob) (k39 : Int32) (k40 : Int32), zl3 B73 n o38 k39 k40 = some (o41, k42) → ZW p l e R s m args below meth c D A 7 0 0 Q (w_X12_four cA h_t a_t o38) [(0, .ref h_t), (3, .ref (a_t 45)), (4, .int k39), (5, .int k40)] 30 [] := by
    intro n
    induction n with
    | zero => intro o38 k39 k40 hL; cases hL
    | succ n ih =>
      intro o38 k39 k40 hL
      obtain ⟨zz44, hF, hL⟩ := zl3_e hL
      rw [hBB73] at hF
      refine z_iload X dX12_laysRides_30 2 rfl ?_
      have hF := if_e hF
      refine z_if_eq (tgt := 100) X dX12_laysRides_32 (by decide) (fun c72 => ?_) (fun c72 => ?_)
      · have hF := hF.1 c72
        cases hF
        have hL := Option.some.inj hL
        refine z_lv (lv' := [(5, .int k40)]) [3] rfl ?_
        exact L43_x o38 k40 hL
      · have hF := hF.2 c72
        refine z_iconst (v := (1 : Int32)) X dX12_laysRides_35 (by decide) ?_
        refine z_istore (lv' := [(6, .int (1 : Int32)), (0, .ref h_t), (3, .ref (a_t 45)), (4, .int k39), (5, .int k40)]) X dX12_laysRides_36 (by decide) rfl ?_
        obtain ⟨k56, hL, hF⟩ := zb1_e hF
        have L61_x : ∀ (k56' : Int32), k56' = k56 → ZW p l e R s m args below meth c D A 7 0 0 Q (w_X12_four cA h_t a_t o38) [(0, .ref h_t), (3, .ref (a_t 45)), (4, .int k39), (5, .int k40), (6, .int k56')] 79 [] := by
          intro k56' hz
          cases hz
          refine z_aload_n X dX12_laysRides_79 rfl 1 rfl ?_
          refine z_iload X dX12_laysRides_80 3 rfl ?_
          refine z_iload X dX12_laysRides_82 4 rfl ?_
          obtain ⟨g57, hF⟩ := gi_e hF
          obtain ⟨o58, eo58, hF⟩ := nx_e hF
          refine z_iast (ws' := (w_X12_four cA h_t a_t o58)) X 21 rfl g57 (by rw [eo58]; rfl) dX12_laysRides_84 ?_
          obtain ⟨x59, ex59, hF⟩ := nx_e hF
          refine z_iinc (v := x59) (lv' := [(5, .int x59), (0, .ref h_t), (3, .ref (a_t 45)), (4, .int k39), (6, .int k56)]) (j := 3) X dX12_laysRides_85 rfl (by rw [ex59]; rfl) (by decide) rfl ?_
          refine z_iload X dX12_laysRides_88 3 rfl ?_
          refine z_iload X dX12_laysRides_90 4 rfl ?_
          refine z_iconst (v := (-1 : Int32)) X dX12_laysRides_92 (by decide) ?_
          refine z_ixor X dX12_laysRides_93 ?_
          refine z_iand X dX12_laysRides_94 ?_
          obtain ⟨x60, ex60, hF⟩ := nx_e hF
          refine z_nm ex60 ?_
          refine z_istore (lv' := [(4, .int x60), (5, .int x59), (0, .ref h_t), (3, .ref (a_t 45)), (6, .int k56)]) X dX12_laysRides_95 (by decide) rfl ?_
          refine z_goto (tgt := 30) X dX12_laysRides_97 (by decide) ?_
          cases hF
          refine z_lv (lv' := [(0, .ref h_t), (3, .ref (a_t 45)), (4, .int x60), (5, .int x59)]) [2, 3, 0, 1] rfl ?_
          exact ih o58 x60 x59 hL
        obtain ⟨B71, hBB71, hL⟩ := zl1_b hL
        have L61 : ∀ (n : Nat) (k55 : Int32), zl1 B71 n k55 = some k56 → ZW p l e R s m args below meth c D A 7 0 0 Q (w_X12_four cA h_t a_t o38) [(0, .ref h_t), (3, .ref (a_t 45)), (4, .int k39), (5, .int k40), (6, .int k55)] 38 [] := by
          intro n
          induction n with
          | zero => intro k55 hL; cases hL
          | succ n ih =>
            intro k55 hL
            obtain ⟨zz62, hF, hL⟩ := zl1_e hL
            rw [hBB71] at hF
            refine z_aload_n X dX12_laysRides_38 rfl 0 rfl ?_
            refine z_iload X dX12_laysRides_39 2 rfl ?_
            refine z_iload X dX12_laysRides_41 4 rfl ?_
            obtain ⟨r63, hc64, hF⟩ := zb1_e hF
            refine z_Vi (As := [.int k39, .int k55]) (rest := []) (wc := (w_X12_four cA h_t a_t o38)) (wc' := (w_X12_four cA h_t a_t o38)) (ws' := (w_X12_four cA h_t a_t o38)) (rv := r63) X (cwV 2 X.2.2.2.2.1 gX12_laysRides_X12_isRide rfl rfl rfl (by decide +kernel) (by rw [hR]; exact ⟨Nat.le_of_ble_eq_true rfl, Nat.le_of_ble_eq_true rfl⟩)) (fun sz => c_X12_isRide l D cA g sz h_t a_t o38 k39 k55 r63 hc64) [0, 1, 2, 3, 4, 5, 6, 7, 8, 9, 10, 11, 12, 13, 14, 15, 16, 17, 18, 19, 20, 21] [1000, 1001, 1002, 1003, 1004, 1005, 1006, 1007, 1008, 1009, 1010, 1011, 1012, 1013, 1014, 1015, 1016, 1017, 1018, 1019, 1020, 1021] rfl (by decide) rfl (by decide) rfl rfl rfl rfl rfl rfl (Nat.le_of_ble_eq_true rfl) dX12_laysRides_43 ⟨Nat.zero_le _, Nat.zero_le _⟩ ?_
            have hF := if_e hF
            refine z_if_eq (tgt := 73) X dX12_laysRides_46 (by decide) (fun c70 => ?_) (fun c70 => ?_)
            · have hF := hF.1 c70
              obtain ⟨x65, ex65, hF⟩ := nx_e hF
              refine z_iinc (v := x65) (lv' := [(6, .int x65), (0, .ref h_t), (3, .ref (a_t 45)), (4, .int k39), (5, .int k40)]) (j := 4) X dX12_laysRides_73 rfl (by rw [ex65]; rfl) (by decide) rfl ?_
              refine z_goto (tgt := 38) X dX12_laysRides_76 (by decide) ?_
              cases hF
              refine z_lv (lv' := [(0, .ref h_t), (3, .ref (a_t 45)), (4, .int k39), (5, .int k40), (6, .int x65)]) [1, 2, 3, 4, 0] rfl ?_
              exact ih x65 hL
            · have hF := hF.2 c70
              refine z_aload_n X dX12_laysRides_49 rfl 0 rfl ?_
              refine z_get (v := .ref (a_t 40)) X k_X12_laysRides_66 0 rfl rfl dX12_laysRides_50 ?_
              refine z_iload X dX12_laysRides_53 2 rfl ?_
              refine z_iload X dX12_laysRides_55 4 rfl ?_
              refine z_iconst (v := (-1 : Int32)) X dX12_laysRides_57 (by decide) ?_
              refine z_ixor X dX12_laysRides_58 ?_
              refine z_iand X dX12_laysRides_59 ?_
              obtain ⟨g66, hF⟩ := gi_e hF
              refine z_iald X 19 rfl g66 dX12_laysRides_60 ?_
              refine z_aload_n X dX12_laysRides_61 rfl 0 rfl ?_
              refine z_get (v := .ref (a_t 40)) X k_X12_laysRides_66 0 rfl rfl dX12_laysRides_62 ?_
              refine z_iload X dX12_laysRides_65 2 rfl ?_
              obtain ⟨g67, hF⟩ := gi_e hF
              refine z_iald X 19 rfl g67 dX12_laysRides_67 ?_
              refine z_iconst (v := (1 : Int32)) X dX12_laysRides_68 (by decide) ?_
              refine z_isub X dX12_laysRides_69 ?_
              have hF := if_e hF
              refine z_icmp_eq (tgt := 79) X dX12_laysRides_70 (by decide) (fun c69 => ?_) (fun c69 => ?_)
              · have hF := hF.1 c69
                cases hF
                have hL := Option.some.inj hL
                refine z_lv (lv' := [(0, .ref h_t), (3, .ref (a_t 45)), (4, .int k39), (5, .int k40), (6, .int k55)]) [0, 1, 2, 3, 4] rfl ?_
                exact L61_x k55 hL
              · have hF := hF.2 c69
                obtain ⟨x68, ex68, hF⟩ := nx_e hF
                refine z_iinc (v := x68) (lv' := [(6, .int x68), (0, .ref h_t), (3, .ref (a_t 45)), (4, .int k39), (5, .int k40)]) (j := 4) X dX12_laysRides_73 rfl (by rw [ex68]; rfl) (by decide) rfl ?_
                refine z_goto (tgt := 38) X dX12_laysRides_76 (by decide) ?_
                cases hF
                refine z_lv (lv' := [(0, .ref h_t), (3, .ref (a_t 45)), (4, .int k39), (5, .int k40), (6, .int x68)]) [1, 2, 3, 4, 0] rfl ?_
                exact ih x68 hL
        refine z_lv (lv' := [(0, .ref h_t), (3, .ref (a_t 45)), (4, .int k39), (5, .int k40), (6, .int (1 : Int32))]) [1, 2, 3, 4, 0] rfl ?_
        exact L61 FU (1 : Int32) hL
  refine z_lv (lv' := [(0, .ref h_t), (3, .ref (a_t 45)), (4, .int x6), (5, .int (0 : Int32))]) [2, 5, 1, 0] rfl ?_
  exact L43 FU o4 x6 (0 : Int32) hL
set_option maxRecDepth 20000 in
theorem h_X12_rides_X12 : ∀ w ∈ wsX120, w ∈ wsX12_rides := by decide +kernel
set_option maxRecDepth 20000 in
theorem k_X12_rides_69 : ZF wsX12_rides RX12 69 12 41 RX12 TX12 47 := ⟨rfl, by decide, h_X12_rides_X12, by decide +kernel⟩
set_option maxRecDepth 20000 in
theorem k_X12_rides_363 : ZF wsX12_rides RX12 363 12 42 RX12 TX12 47 := ⟨rfl, by decide, h_X12_rides_X12, by decide +kernel⟩
set_option maxHeartbeats 8000000 in
set_option maxRecDepth 100000 in
theorem c_X12_rides (l : Launch) (D : va_G) (cA : Nat → ClassId) (g : Nat → Nat) (sz : Nat) (h_t : Nat) (a_t : Nat → Nat) (o_t : Ob) (v1 : Int32) (v2 : Int32) (o_t' : Ob) (rv : Int32) (hF : f_X12_rides o_t v1 v2 = some (o_t', rv)) : Met l yX12_rides wsX12_rides ({ frames := 5, cells := 0, slots := 0, locals := 115 }) (va_Pc [.ref h_t, .int v1, .int v2] (PreW D cA g sz (w_X12_four cA h_t a_t o_t))) (va_Qi (fun (r : Int32) (_ : Unit) => r = rv) (PostW D cA sz (w_X12_four cA h_t a_t o_t) (w_X12_four cA h_t a_t o_t')) (va_A (w_X12_four cA h_t a_t o_t) sz)) 0 0 (va_A (w_X12_four cA h_t a_t o_t) sz) := by
  refine z_start (cc := cX12_rides) (maxL := 3) (ret := (some .int)) (lv0 := [(0, .ref h_t), (1, .int v1), (2, .int v2)]) (Qc := fun sz => va_Qi (fun (r : Int32) (_ : Unit) => r = rv) (PostW D cA sz (w_X12_four cA h_t a_t o_t) (w_X12_four cA h_t a_t o_t')) (va_A (w_X12_four cA h_t a_t o_t) sz)) (free := fun sz => va_A (w_X12_four cA h_t a_t o_t) sz) (by decide +kernel) rfl rfl (Nat.le_of_ble_eq_true rfl) ?_
  intro p e R s m args below meth c A Q hR hA hQ X hr hin
  unfold f_X12_rides at hF
  refine z_aload_n X dX12_rides_0 rfl 0 rfl ?_
  refine z_iload_n X dX12_rides_1 rfl 1 rfl ?_
  refine z_iload_n X dX12_rides_2 rfl 2 rfl ?_
  obtain ⟨r1, hc2, hF⟩ := zb1_e hF
  refine z_Vi (As := [.int v1, .int v2]) (rest := []) (wc := (w_X12_four cA h_t a_t o_t)) (wc' := (w_X12_four cA h_t a_t o_t)) (ws' := (w_X12_four cA h_t a_t o_t)) (rv := r1) X (cwV 2 X.2.2.2.2.1 gX12_rides_X12_canShift rfl rfl rfl (by decide +kernel) (by rw [hR]; exact ⟨Nat.le_of_ble_eq_true rfl, Nat.le_of_ble_eq_true rfl⟩)) (fun sz => c_X12_canShift l D cA g sz h_t a_t o_t v1 v2 r1 hc2) [0, 1, 2, 3, 4, 5, 6, 7, 8, 9, 10, 11, 12, 13, 14, 15, 16, 17, 18, 19, 20, 21] [1000, 1001, 1002, 1003, 1004, 1005, 1006, 1007, 1008, 1009, 1010, 1011, 1012, 1013, 1014, 1015, 1016, 1017, 1018, 1019, 1020, 1021] rfl (by decide) rfl (by decide) rfl rfl rfl rfl rfl rfl (Nat.le_of_ble_eq_true rfl) dX12_rides_3 ⟨Nat.zero_le _, Nat.zero_le _⟩ ?_
  have hF := if_e hF
  refine z_if_ne (tgt := 11) X dX12_rides_6 (by decide) (fun c7 => ?_) (fun c7 => ?_)
  · have hF := hF.2 c7
    refine z_aload_n X dX12_rides_11 rfl 0 rfl ?_
    refine z_aload_n X dX12_rides_12 rfl 0 rfl ?_
    refine z_iload_n X dX12_rides_13 rfl 1 rfl ?_
    refine z_iload_n X dX12_rides_14 rfl 2 rfl ?_
    refine z_aload_n X dX12_rides_15 rfl 0 rfl ?_
    refine z_get (v := .ref (a_t 41)) X k_X12_rides_69 0 rfl rfl dX12_rides_16 ?_
    obtain ⟨o3, r4, hc5, hF⟩ := zb2_e hF
    refine z_Vi (As := [.int v1, .int v2, .ref (a_t 41)]) (rest := [.ref h_t]) (wc := (w_X12_four cA h_t a_t o_t)) (wc' := (w_X12_four cA h_t a_t o3)) (ws' := (w_X12_four cA h_t a_t o3)) (rv := r4) X (cwV 3 X.2.2.2.2.1 gX12_rides_X12_laysRides rfl rfl rfl (by decide +kernel) (by rw [hR]; exact ⟨Nat.le_of_ble_eq_true rfl, Nat.le_of_ble_eq_true rfl⟩)) (fun sz => c_X12_laysRides__r l D cA g sz h_t a_t o_t v1 v2 o3 r4 hc5) [0, 1, 2, 3, 4, 5, 6, 7, 8, 9, 10, 11, 12, 13, 14, 15, 16, 17, 18, 19, 20, 21] [1000, 1001, 1002, 1003, 1004, 1005, 1006, 1007, 1008, 1009, 1010, 1011, 1012, 1013, 1014, 1015, 1016, 1017, 1018, 1019, 1020, 1021] rfl (by decide) rfl (by decide) rfl rfl rfl rfl rfl rfl (Nat.le_of_ble_eq_true rfl) dX12_rides_19 ⟨Nat.zero_le _, Nat.zero_le _⟩ ?_
    obtain ⟨o6, eo6, hF⟩ := nx_e hF
    refine z_put (ws' := (w_X12_four cA h_t a_t o6)) X k_X12_rides_363 tyX12 tyX12_ok nmX12 rfl rfl 0 rfl (Nat.le_of_ble_eq_true rfl) (by rw [eo6]; rfl) dX12_rides_22 ?_
    refine z_aload_n X dX12_rides_25 rfl 0 rfl ?_
    refine z_get (v := .int (o6 42 0)) X k_X12_rides_363 0 rfl rfl dX12_rides_26 ?_
    cases hF
    exact z_iret X hA hQ hr rfl dX12_rides_29 (Nat.le_refl _) (Nat.le_refl _)
  · have hF := hF.1 c7
    refine z_iconst (v := (-1 : Int32)) X dX12_rides_9 (by decide) ?_
    cases hF
    exact z_iret X hA hQ hr rfl dX12_rides_10 (Nat.le_refl _) (Nat.le_refl _)
