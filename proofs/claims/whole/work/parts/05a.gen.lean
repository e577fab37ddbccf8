set_option maxRecDepth 20000 in
theorem k_J6_bitCount_0f7a4_c265 : Cond.constant RJ6 265 (1431655765) ∈ wsJ6_bitCount_0f7a4 := by decide +kernel
set_option maxRecDepth 20000 in
theorem k_J6_bitCount_0f7a4_c266 : Cond.constant RJ6 266 (858993459) ∈ wsJ6_bitCount_0f7a4 := by decide +kernel
set_option maxRecDepth 20000 in
theorem k_J6_bitCount_0f7a4_c267 : Cond.constant RJ6 267 (252645135) ∈ wsJ6_bitCount_0f7a4 := by decide +kernel
set_option maxHeartbeats 8000000 in
set_option maxRecDepth 100000 in
theorem c_J6_bitCount_0f7a4 (l : Launch) (D : va_G) (cA : Nat → ClassId) (g : Nat → Nat) (sz : Nat)  (v0 : Int32) (rv : Int32) (hF : f_J6_bitCount_0f7a4 v0 = some rv) : Met l yJ6_bitCount_0f7a4 wsJ6_bitCount_0f7a4 ({ frames := 0, cells := 0, slots := 0, locals := 0 }) (va_Pc [.int v0] (PreW D cA g sz ([] : va_W))) (va_Qi (fun (r : Int32) (_ : Unit) => r = rv) (PostW D cA sz ([] : va_W) ([] : va_W)) (va_A ([] : va_W) sz)) 0 0 (va_A ([] : va_W) sz) := by
  refine z_start (cc := cJ6_bitCount_0f7a4) (maxL := 1) (ret := (some .int)) (lv0 := [(0, .int v0)]) (Qc := fun sz => va_Qi (fun (r : Int32) (_ : Unit) => r = rv) (PostW D cA sz ([] : va_W) ([] : va_W)) (va_A ([] : va_W) sz)) (free := fun sz => va_A ([] : va_W) sz) (by decide +kernel) rfl rfl (Nat.le_of_ble_eq_true rfl) ?_
  intro p e R s m args below meth c A Q hR hA hQ X hr hin
  unfold f_J6_bitCount_0f7a4 at hF
  refine z_iload_n X dJ6_bitCount_0f7a4_0 rfl 0 rfl ?_
  refine z_iload_n X dJ6_bitCount_0f7a4_1 rfl 0 rfl ?_
  refine z_iconst (v := (1 : Int32)) X dJ6_bitCount_0f7a4_2 (by decide) ?_
  refine z_iushr X dJ6_bitCount_0f7a4_3 ?_
  refine z_ldcw X k_J6_bitCount_0f7a4_c265 dJ6_bitCount_0f7a4_4 ?_
  refine z_iand X dJ6_bitCount_0f7a4_7 ?_
  refine z_isub X dJ6_bitCount_0f7a4_8 ?_
  obtain ⟨x1, ex1, hF⟩ := nx_e hF
  refine z_nm ex1 ?_
  refine z_istore_n (lv' := [(0, .int x1)]) X dJ6_bitCount_0f7a4_9 rfl (by decide) rfl ?_
  refine z_iload_n X dJ6_bitCount_0f7a4_10 rfl 0 rfl ?_
  refine z_ldcw X k_J6_bitCount_0f7a4_c266 dJ6_bitCount_0f7a4_11 ?_
  refine z_iand X dJ6_bitCount_0f7a4_14 ?_
  refine z_iload_n X dJ6_bitCount_0f7a4_15 rfl 0 rfl ?_
  refine z_iconst (v := (2 : Int32)) X dJ6_bitCount_0f7a4_16 (by decide) ?_
  refine z_iushr X dJ6_bitCount_0f7a4_17 ?_
  refine z_ldcw X k_J6_bitCount_0f7a4_c266 dJ6_bitCount_0f7a4_18 ?_
  refine z_iand X dJ6_bitCount_0f7a4_21 ?_
  refine z_iadd X dJ6_bitCount_0f7a4_22 ?_
  obtain ⟨x2, ex2, hF⟩ := nx_e hF
  refine z_nm ex2 ?_
  refine z_istore_n (lv' := [(0, .int x2)]) X dJ6_bitCount_0f7a4_23 rfl (by decide) rfl ?_
  refine z_iload_n X dJ6_bitCount_0f7a4_24 rfl 0 rfl ?_
  refine z_iload_n X dJ6_bitCount_0f7a4_25 rfl 0 rfl ?_
  refine z_iconst (v := (4 : Int32)) X dJ6_bitCount_0f7a4_26 (by decide) ?_
  refine z_iushr X dJ6_bitCount_0f7a4_27 ?_
  refine z_iadd X dJ6_bitCount_0f7a4_28 ?_
  refine z_ldcw X k_J6_bitCount_0f7a4_c267 dJ6_bitCount_0f7a4_29 ?_
  refine z_iand X dJ6_bitCount_0f7a4_32 ?_
  obtain ⟨x3, ex3, hF⟩ := nx_e hF
  refine z_nm ex3 ?_
  refine z_istore_n (lv' := [(0, .int x3)]) X dJ6_bitCount_0f7a4_33 rfl (by decide) rfl ?_
  refine z_iload_n X dJ6_bitCount_0f7a4_34 rfl 0 rfl ?_
  refine z_iload_n X dJ6_bitCount_0f7a4_35 rfl 0 rfl ?_
  refine z_bipush (v := (8 : Int32)) X dJ6_bitCount_0f7a4_36 (by decide) ?_
  refine z_iushr X dJ6_bitCount_0f7a4_38 ?_
  refine z_iadd X dJ6_bitCount_0f7a4_39 ?_
  obtain ⟨x4, ex4, hF⟩ := nx_e hF
  refine z_nm ex4 ?_
  refine z_istore_n (lv' := [(0, .int x4)]) X dJ6_bitCount_0f7a4_40 rfl (by decide) rfl ?_
  refine z_iload_n X dJ6_bitCount_0f7a4_41 rfl 0 rfl ?_
  refine z_iload_n X dJ6_bitCount_0f7a4_42 rfl 0 rfl ?_
  refine z_bipush (v := (16 : Int32)) X dJ6_bitCount_0f7a4_43 (by decide) ?_
  refine z_iushr X dJ6_bitCount_0f7a4_45 ?_
  refine z_iadd X dJ6_bitCount_0f7a4_46 ?_
  obtain ⟨x5, ex5, hF⟩ := nx_e hF
  refine z_nm ex5 ?_
  refine z_istore_n (lv' := [(0, .int x5)]) X dJ6_bitCount_0f7a4_47 rfl (by decide) rfl ?_
  refine z_iload_n X dJ6_bitCount_0f7a4_48 rfl 0 rfl ?_
  refine z_bipush (v := (63 : Int32)) X dJ6_bitCount_0f7a4_49 (by decide) ?_
  refine z_iand X dJ6_bitCount_0f7a4_51 ?_
  cases hF
  exact z_iret X hA hQ hr rfl dJ6_bitCount_0f7a4_52 (Nat.le_refl _) (Nat.le_refl _)
abbrev w_X12_four (cA : Nat → ClassId) (h_t : Nat) (a_t : Nat → Nat) (o_t : Ob) : va_W := [(h_t, .inr (12, [.ref (a_t 0), .ref (a_t 1), .ref (a_t 2), .ref (a_t 3), .ref (a_t 4), .int (o_t 5 0), .ref (a_t 6), .int (o_t 7 0), .int (o_t 8 0), .int (o_t 9 0), .int (o_t 10 0), .int (o_t 11 0), .int (o_t 12 0), .int (o_t 13 0), .int (o_t 14 0), .ref (a_t 15), .int (o_t 16 0), .int (o_t 17 0), .int (o_t 18 0), .ref (a_t 19), .int (o_t 20 0), .int (o_t 21 0), .ref (a_t 22), .ref (a_t 23), .ref (a_t 24), .ref (a_t 25), .int (o_t 26 0), .int (o_t 27 0), .ref (a_t 28), .ref (a_t 29), .ref (a_t 30), .int (o_t 31 0), .int (o_t 32 0), .int (o_t 33 0), .ref (a_t 34), .ref (a_t 35), .int (o_t 36 0), .int (o_t 37 0), .ref (a_t 38), .int (o_t 39 0), .ref (a_t 40), .ref (a_t 41), .int (o_t 42 0), .int (o_t 43 0), .int (o_t 44 0), .ref (a_t 45), .int (o_t 46 0)])), (a_t 0, .inl (cA 0, 835, .inl (o_t 0))), (a_t 1, .inl (cA 0, 1670, .inl (o_t 1))), (a_t 2, .inl (cA 0, 6680, .inl (o_t 2))), (a_t 3, .inl (cA 0, 835, .inl (o_t 3))), (a_t 4, .inl (cA 3, 2, .inl (o_t 4))), (a_t 6, .inl (cA 2, 440, .inl (o_t 6))), (a_t 15, .inl (cA 2, 6, .inl (o_t 15))), (a_t 19, .inl (cA 0, 60, .inl (o_t 19))), (a_t 22, .inl (cA 0, 402, .inl (o_t 22))), (a_t 23, .inl (cA 0, 402, .inl (o_t 23))), (a_t 24, .inl (cA 0, 2, .inl (o_t 24))), (a_t 25, .inl (cA 0, 2, .inl (o_t 25))), (a_t 28, .inl (cA 0, 10240, .inl (o_t 28))), (a_t 29, .inl (cA 0, 40, .inl (o_t 29))), (a_t 30, .inl (cA 0, 256, .inl (o_t 30))), (a_t 34, .inl (cA 0, 835, .inl (o_t 34))), (a_t 35, .inl (cA 0, 60, .inl (o_t 35))), (a_t 38, .inl (cA 2, 20, .inl (o_t 38))), (a_t 40, .inl (cA 0, 256, .inl (o_t 40))), (a_t 41, .inl (cA 0, 8, .inl (o_t 41))), (a_t 45, .inl (cA 0, 8, .inl (o_t 45)))]
set_option maxRecDepth 20000 in
theorem h_X12_four_X12 : ∀ w ∈ wsX120, w ∈ wsX12_four := by decide +kernel
set_option maxRecDepth 20000 in
theorem k_X12_four_26 : ZF wsX12_four RX12 26 12 6 RX12 TX12 47 := ⟨rfl, by decide, h_X12_four_X12, by decide +kernel⟩
set_option maxRecDepth 20000 in
theorem k_X12_four_75 : ZF wsX12_four RX12 75 12 7 RX12 TX12 47 := ⟨rfl, by decide, h_X12_four_X12, by decide +kernel⟩
set_option maxHeartbeats 8000000 in
set_option maxRecDepth 100000 in
theorem c_X12_four (l : Launch) (D : va_G) (cA : Nat → ClassId) (g : Nat → Nat) (sz : Nat) (h_t : Nat) (a_t : Nat → Nat) (o_t : Ob) (v1 : Int32) (o_t' : Ob) (hF : f_X12_four o_t v1 = some o_t') : Met l yX12_four wsX12_four ({ frames := 0, cells := 0, slots := 0, locals := 0 }) (va_Pc [.ref h_t, .int v1] (PreW D cA g sz (w_X12_four cA h_t a_t o_t))) (va_Qv (fun (_ : Unit) => True) (PostW D cA sz (w_X12_four cA h_t a_t o_t) (w_X12_four cA h_t a_t o_t')) (va_A (w_X12_four cA h_t a_t o_t) sz)) 0 0 (va_A (w_X12_four cA h_t a_t o_t) sz) := by
  refine z_start (cc := cX12_four) (maxL := 3) (ret := none) (lv0 := [(0, .ref h_t), (1, .int v1)]) (Qc := fun sz => va_Qv (fun (_ : Unit) => True) (PostW D cA sz (w_X12_four cA h_t a_t o_t) (w_X12_four cA h_t a_t o_t')) (va_A (w_X12_four cA h_t a_t o_t) sz)) (free := fun sz => va_A (w_X12_four cA h_t a_t o_t) sz) (by decide +kernel) rfl rfl (Nat.le_of_ble_eq_true rfl) ?_
  intro p e R s m args below meth c A Q hR hA hQ X hr hin
  unfold f_X12_four at hF
  refine z_bipush (v := (24 : Int32)) X dX12_four_0 (by decide) ?_
  refine z_istore_n (lv' := [(2, .int (24 : Int32)), (0, .ref h_t), (1, .int v1)]) X dX12_four_2 rfl (by decide) rfl ?_
  obtain ⟨o10, hL, hF⟩ := zb1_e hF
  have L11_x : ∀ (o10' : Ob), o10' = o10 → ZW p l e R s m args below meth c D A 3 0 0 Q (w_X12_four cA h_t a_t o10') [] 36 [] := by
    intro o10' hz
    cases hz
    cases hF
    exact z_vret X hA hQ hr dX12_four_36 (Nat.le_refl _) (Nat.le_refl _)
  obtain ⟨B18, hBB18, hL⟩ := zl2_b hL
  have L11 : ∀ (n : Nat) (o8 : Ob) (k9 : Int32), zl2 B18 n o8 k9 = some o10 → ZW p l e R s m args below meth c D A 3 0 0 Q (w_X12_four cA h_t a_t o8) [(0, .ref h_t), (1, .int v1), (2, .int k9)] 3 [] := by
    intro n
    induction n with
    | zero => intro o8 k9 hL; cases hL
    | succ n ih =>
      intro o8 k9 hL
      obtain ⟨zz12, hF, hL⟩ := zl2_e hL
      rw [hBB18] at hF
      refine z_iload_n X dX12_four_3 rfl 2 rfl ?_
      have hF := if_e hF
      refine z_if_lt (tgt := 36) X dX12_four_4 (by decide) (fun c17 => ?_) (fun c17 => ?_)
      · have hF := hF.1 c17
        cases hF
        have hL := Option.some.inj hL
        refine z_lv (lv' := []) [] rfl ?_
        exact L11_x o8 hL
      · have hF := hF.2 c17
        refine z_aload_n X dX12_four_7 rfl 0 rfl ?_
        refine z_get (v := .ref (a_t 6)) X k_X12_four_26 0 rfl rfl dX12_four_8 ?_
        refine z_aload_n X dX12_four_11 rfl 0 rfl ?_
        refine z_get (v := .int (o8 7 0)) X k_X12_four_75 0 rfl rfl dX12_four_12 ?_
        refine z_iload_n X dX12_four_15 rfl 1 rfl ?_
        refine z_iload_n X dX12_four_16 rfl 2 rfl ?_
        refine z_ishr X dX12_four_17 ?_
        refine z_i2b X dX12_four_18 ?_
        obtain ⟨g13, hF⟩ := gi_e hF
        obtain ⟨o14, eo14, hF⟩ := nx_e hF
        refine z_bast (ws' := (w_X12_four cA h_t a_t o14)) X 6 rfl g13 (by rw [eo14]; rfl) dX12_four_19 ?_
        refine z_aload_n X dX12_four_20 rfl 0 rfl ?_
        refine z_dup X dX12_four_21 rfl ?_
        refine z_get (v := .int (o14 7 0)) X k_X12_four_75 0 rfl rfl dX12_four_22 ?_
        refine z_iconst (v := (1 : Int32)) X dX12_four_25 (by decide) ?_
        refine z_iadd X dX12_four_26 ?_
        obtain ⟨o15, eo15, hF⟩ := nx_e hF
        refine z_put (ws' := (w_X12_four cA h_t a_t o15)) X k_X12_four_75 tyX12 tyX12_ok nmX12 rfl rfl 0 rfl (Nat.le_of_ble_eq_true rfl) (by rw [eo15]; rfl) dX12_four_27 ?_
        obtain ⟨x16, ex16, hF⟩ := nx_e hF
        refine z_iinc (v := x16) (lv' := [(2, .int x16), (0, .ref h_t), (1, .int v1)]) (j := 2) X dX12_four_30 rfl (by rw [ex16]; rfl) (by decide) rfl ?_
        refine z_goto (tgt := 3) X dX12_four_33 (by decide) ?_
        cases hF
        refine z_lv (lv' := [(0, .ref h_t), (1, .int v1), (2, .int x16)]) [1, 2, 0] rfl ?_
        exact ih o15 x16 hL
  refine z_lv (lv' := [(0, .ref h_t), (1, .int v1), (2, .int (24 : Int32))]) [1, 2, 0] rfl ?_
  exact L11 FU o_t (24 : Int32) hL
set_option maxRecDepth 20000 in
theorem h_X12_feed_X12 : ∀ w ∈ wsX120, w ∈ wsX12_feed := by decide +kernel
set_option maxRecDepth 20000 in
theorem k_X12_feed_75 : ZF wsX12_feed RX12 75 12 7 RX12 TX12 47 := ⟨rfl, by decide, h_X12_feed_X12, by decide +kernel⟩
set_option maxHeartbeats 8000000 in
set_option maxRecDepth 100000 in
theorem c_X12_feed (l : Launch) (D : va_G) (cA : Nat → ClassId) (g : Nat → Nat) (sz : Nat) (h_t : Nat) (a_t : Nat → Nat) (o_t : Ob) (v1 : Int32) (v2 : Int32) (v3 : Int32) (v4 : Int32) (v5 : Int32) (o_t' : Ob) (rv : Int32) (hF : f_X12_feed o_t v1 v2 v3 v4 v5 = some (o_t', rv)) : Met l yX12_feed wsX12_feed ({ frames := 1, cells := 0, slots := 0, locals := 22 }) (va_Pc [.ref h_t, .int v1, .int v2, .int v3, .int v4, .int v5] (PreW D cA g sz (w_X12_four cA h_t a_t o_t))) (va_Qi (fun (r : Int32) (_ : Unit) => r = rv) (PostW D cA sz (w_X12_four cA h_t a_t o_t) (w_X12_four cA h_t a_t o_t')) (va_A (w_X12_four cA h_t a_t o_t) sz)) 0 0 (va_A (w_X12_four cA h_t a_t o_t) sz) := by
  refine z_start (cc := cX12_feed) (maxL := 6) (ret := (some .int)) (lv0 := [(0, .ref h_t), (1, .int v1), (2, .int v2), (3, .int v3), (4, .int v4), (5, .int v5)]) (Qc := fun sz => va_Qi (fun (r : Int32) (_ : Unit) => r = rv) (PostW D cA sz (w_X12_four cA h_t a_t o_t) (w_X12_four cA h_t a_t o_t')) (va_A (w_X12_four cA h_t a_t o_t) sz)) (free := fun sz => va_A (w_X12_four cA h_t a_t o_t) sz) (by decide +kernel) rfl rfl (Nat.le_of_ble_eq_true rfl) ?_
  intro p e R s m args below meth c A Q hR hA hQ X hr hin
  unfold f_X12_feed at hF
  refine z_aload_n X dX12_feed_0 rfl 0 rfl ?_
  refine z_get (v := .int (o_t 7 0)) X k_X12_feed_75 0 rfl rfl dX12_feed_1 ?_
  refine z_bipush (v := (20 : Int32)) X dX12_feed_4 (by decide) ?_
  refine z_iadd X dX12_feed_6 ?_
  refine z_sipush (v := (440 : Int32)) X dX12_feed_7 (by decide) ?_
  have hF := if_e hF
  refine z_icmp_le (tgt := 15) X dX12_feed_10 (by decide) (fun c11 => ?_) (fun c11 => ?_)
  · have hF := hF.1 c11
    refine z_aload_n X dX12_feed_15 rfl 0 rfl ?_
    refine z_iload_n X dX12_feed_16 rfl 1 rfl ?_
    obtain ⟨o1, hc2, hF⟩ := zb1_e hF
    refine z_Vv (As := [.int v1]) (rest := []) (wc := (w_X12_four cA h_t a_t o_t)) (wc' := (w_X12_four cA h_t a_t o1)) (ws' := (w_X12_four cA h_t a_t o1)) X (cwV 1 X.2.2.2.2.1 gX12_feed_X12_four rfl rfl rfl (by decide +kernel) (by rw [hR]; exact ⟨Nat.le_of_ble_eq_true rfl, Nat.le_of_ble_eq_true rfl⟩)) (fun sz => c_X12_four l D cA g sz h_t a_t o_t v1 o1 hc2) [0, 1, 2, 3, 4, 5, 6, 7, 8, 9, 10, 11, 12, 13, 14, 15, 16, 17, 18, 19, 20, 21] [1000, 1001, 1002, 1003, 1004, 1005, 1006, 1007, 1008, 1009, 1010, 1011, 1012, 1013, 1014, 1015, 1016, 1017, 1018, 1019, 1020, 1021] rfl (by decide) rfl (by decide) rfl rfl rfl rfl rfl rfl (Nat.le_of_ble_eq_true rfl) dX12_feed_17 ⟨Nat.zero_le _, Nat.zero_le _⟩ ?_
    refine z_aload_n X dX12_feed_20 rfl 0 rfl ?_
    refine z_iload_n X dX12_feed_21 rfl 2 rfl ?_
    obtain ⟨o3, hc4, hF⟩ := zb1_e hF
    refine z_Vv (As := [.int v2]) (rest := []) (wc := (w_X12_four cA h_t a_t o1)) (wc' := (w_X12_four cA h_t a_t o3)) (ws' := (w_X12_four cA h_t a_t o3)) X (cwV 1 X.2.2.2.2.1 gX12_feed_X12_four rfl rfl rfl (by decide +kernel) (by rw [hR]; exact ⟨Nat.le_of_ble_eq_true rfl, Nat.le_of_ble_eq_true rfl⟩)) (fun sz => c_X12_four l D cA g sz h_t a_t o1 v2 o3 hc4) [0, 1, 2, 3, 4, 5, 6, 7, 8, 9, 10, 11, 12, 13, 14, 15, 16, 17, 18, 19, 20, 21] [1000, 1001, 1002, 1003, 1004, 1005, 1006, 1007, 1008, 1009, 1010, 1011, 1012, 1013, 1014, 1015, 1016, 1017, 1018, 1019, 1020, 1021] rfl (by decide) rfl (by decide) rfl rfl rfl rfl rfl rfl (Nat.le_of_ble_eq_true rfl) dX12_feed_22 ⟨Nat.zero_le _, Nat.zero_le _⟩ ?_
    refine z_aload_n X dX12_feed_25 rfl 0 rfl ?_
    refine z_iload_n X dX12_feed_26 rfl 3 rfl ?_
    obtain ⟨o5, hc6, hF⟩ := zb1_e hF
    refine z_Vv (As := [.int v3]) (rest := []) (wc := (w_X12_four cA h_t a_t o3)) (wc' := (w_X12_four cA h_t a_t o5)) (ws' := (w_X12_four cA h_t a_t o5)) X (cwV 1 X.2.2.2.2.1 gX12_feed_X12_four rfl rfl rfl (by decide +kernel) (by rw [hR]; exact ⟨Nat.le_of_ble_eq_true rfl, Nat.le_of_ble_eq_true rfl⟩)) (fun sz => c_X12_four l D cA g sz h_t a_t o3 v3 o5 hc6) [0, 1, 2, 3, 4, 5, 6, 7, 8, 9, 10, 11, 12, 13, 14, 15, 16, 17, 18, 19, 20, 21] [1000, 1001, 1002, 1003, 1004, 1005, 1006, 1007, 1008, 1009, 1010, 1011, 1012, 1013, 1014, 1015, 1016, 1017, 1018, 1019, 1020, 1021] rfl (by decide) rfl (by decide) rfl rfl rfl rfl rfl rfl (Nat.le_of_ble_eq_true rfl) dX12_feed_27 ⟨Nat.zero_le _, Nat.zero_le _⟩ ?_
    refine z_aload_n X dX12_feed_30 rfl 0 rfl ?_
    refine z_iload X dX12_feed_31 4 rfl ?_
    obtain ⟨o7, hc8, hF⟩ := zb1_e hF
    refine z_Vv (As := [.int v4]) (rest := []) (wc := (w_X12_four cA h_t a_t o5)) (wc' := (w_X12_four cA h_t a_t o7)) (ws' := (w_X12_four cA h_t a_t o7)) X (cwV 1 X.2.2.2.2.1 gX12_feed_X12_four rfl rfl rfl (by decide +kernel) (by rw [hR]; exact ⟨Nat.le_of_ble_eq_true rfl, Nat.le_of_ble_eq_true rfl⟩)) (fun sz => c_X12_four l D cA g sz h_t a_t o5 v4 o7 hc8) [0, 1, 2, 3, 4, 5, 6, 7, 8, 9, 10, 11, 12, 13, 14, 15, 16, 17, 18, 19, 20, 21] [1000, 1001, 1002, 1003, 1004, 1005, 1006, 1007, 1008, 1009, 1010, 1011, 1012, 1013, 1014, 1015, 1016, 1017, 1018, 1019, 1020, 1021] rfl (by decide) rfl (by decide) rfl rfl rfl rfl rfl rfl (Nat.le_of_ble_eq_true rfl) dX12_feed_33 ⟨Nat.zero_le _, Nat.zero_le _⟩ ?_
    refine z_aload_n X dX12_feed_36 rfl 0 rfl ?_
    refine z_iload X dX12_feed_37 5 rfl ?_
    obtain ⟨o9, hc10, hF⟩ := zb1_e hF
    refine z_Vv (As := [.int v5]) (rest := []) (wc := (w_X12_four cA h_t a_t o7)) (wc' := (w_X12_four cA h_t a_t o9)) (ws' := (w_X12_four cA h_t a_t o9)) X (cwV 1 X.2.2.2.2.1 gX12_feed_X12_four rfl rfl rfl (by decide +kernel) (by rw [hR]; exact ⟨Nat.le_of_ble_eq_true rfl, Nat.le_of_ble_eq_true rfl⟩)) (fun sz => c_X12_four l D cA g sz h_t a_t o7 v5 o9 hc10) [0, 1, 2, 3, 4, 5, 6, 7, 8, 9, 10, 11, 12, 13, 14, 15, 16, 17, 18, 19, 20, 21] [1000, 1001, 1002, 1003, 1004, 1005, 1006, 1007, 1008, 1009, 1010, 1011, 1012, 1013, 1014, 1015, 1016, 1017, 1018, 1019, 1020, 1021] rfl (by decide) rfl (by decide) rfl rfl rfl rfl rfl rfl (Nat.le_of_ble_eq_true rfl) dX12_feed_39 ⟨Nat.zero_le _, Nat.zero_le _⟩ ?_
    refine z_aload_n X dX12_feed_42 rfl 0 rfl ?_
    refine z_get (v := .int (o9 7 0)) X k_X12_feed_75 0 rfl rfl dX12_feed_43 ?_
    cases hF
    exact z_iret X hA hQ hr rfl dX12_feed_46 (Nat.le_refl _) (Nat.le_refl _)
  · have hF := hF.2 c11
    refine z_iconst (v := (-1 : Int32)) X dX12_feed_13 (by decide) ?_
    cases hF
    exact z_iret X hA hQ hr rfl dX12_feed_14 (Nat.le_refl _) (Nat.le_refl _)
set_option maxRecDepth 20000 in
theorem h_X12_end_X12 : ∀ w ∈ wsX120, w ∈ wsX12_end := by decide +kernel
set_option maxRecDepth 20000 in
theorem k_X12_end_75 : ZF wsX12_end RX12 75 12 7 RX12 TX12 47 := ⟨rfl, by decide, h_X12_end_X12, by decide +kernel⟩
set_option maxHeartbeats 8000000 in
set_option maxRecDepth 100000 in
theorem c_X12_end (l : Launch) (D : va_G) (cA : Nat → ClassId) (g : Nat → Nat) (sz : Nat) (h_t : Nat) (a_t : Nat → Nat) (o_t : Ob) (v1 : Int32) (o_t' : Ob) (rv : Int32) (hF : f_X12_end o_t v1 = some (o_t', rv)) : Met l yX12_end wsX12_end ({ frames := 0, cells := 0, slots := 0, locals := 0 }) (va_Pc [.ref h_t, .int v1] (PreW D cA g sz (w_X12_four cA h_t a_t o_t))) (va_Qi (fun (r : Int32) (_ : Unit) => r = rv) (PostW D cA sz (w_X12_four cA h_t a_t o_t) (w_X12_four cA h_t a_t o_t')) (va_A (w_X12_four cA h_t a_t o_t) sz)) 0 0 (va_A (w_X12_four cA h_t a_t o_t) sz) := by
  refine z_start (cc := cX12_end) (maxL := 2) (ret := (some .boolean)) (lv0 := [(0, .ref h_t), (1, .int v1)]) (Qc := fun sz => va_Qi (fun (r : Int32) (_ : Unit) => r = rv) (PostW D cA sz (w_X12_four cA h_t a_t o_t) (w_X12_four cA h_t a_t o_t')) (va_A (w_X12_four cA h_t a_t o_t) sz)) (free := fun sz => va_A (w_X12_four cA h_t a_t o_t) sz) (by decide +kernel) rfl rfl (Nat.le_of_ble_eq_true rfl) ?_
  intro p e R s m args below meth c A Q hR hA hQ X hr hin
  unfold f_X12_end at hF
  refine z_iload_n X dX12_end_0 rfl 1 rfl ?_
  have hF := if_e hF
  refine z_if_lt (tgt := 12) X dX12_end_1 (by decide) (fun c3 => ?_) (fun c3 => ?_)
  · have hF := hF.1 c3
    refine z_iconst (v := (0 : Int32)) X dX12_end_12 (by decide) ?_
    cases hF
    exact z_zret X hA hQ hr (Or.inl rfl)  rfl dX12_end_13 (Nat.le_refl _) (Nat.le_refl _)
  · have hF := hF.2 c3
    refine z_iload_n X dX12_end_4 rfl 1 rfl ?_
    refine z_aload_n X dX12_end_5 rfl 0 rfl ?_
    refine z_get (v := .int (o_t 7 0)) X k_X12_end_75 0 rfl rfl dX12_end_6 ?_
    have hF := if_e hF
    refine z_icmp_le (tgt := 14) X dX12_end_9 (by decide) (fun c2 => ?_) (fun c2 => ?_)
    · have hF := hF.1 c2
      refine z_aload_n X dX12_end_14 rfl 0 rfl ?_
      refine z_iload_n X dX12_end_15 rfl 1 rfl ?_
      obtain ⟨o1, eo1, hF⟩ := nx_e hF
      refine z_put (ws' := (w_X12_four cA h_t a_t o1)) X k_X12_end_75 tyX12 tyX12_ok nmX12 rfl rfl 0 rfl (Nat.le_of_ble_eq_true rfl) (by rw [eo1]; rfl) dX12_end_16 ?_
      refine z_iconst (v := (1 : Int32)) X dX12_end_19 (by decide) ?_
      cases hF
      exact z_zret X hA hQ hr (Or.inr rfl)  rfl dX12_end_20 (Nat.le_refl _) (Nat.le_refl _)
    · have hF := hF.2 c2
      refine z_iconst (v := (0 : Int32)) X dX12_end_12 (by decide) ?_
      cases hF
      exact z_zret X hA hQ hr (Or.inl rfl)  rfl dX12_end_13 (Nat.le_refl _) (Nat.le_refl _)
set_option maxHeartbeats 8000000 in
set_option maxRecDepth 100000 in
theorem c_X12_isIn (l : Launch) (D : va_G) (cA : Nat → ClassId) (g : Nat → Nat) (sz : Nat)  (v0 : Int32) (v1 : Int32) (v2 : Int32) (rv : Int32) (hF : f_X12_isIn v0 v1 v2 = some rv) : Met l yX12_isIn wsX12_isIn ({ frames := 0, cells := 0, slots := 0, locals := 0 }) (va_Pc [.int v0, .int v1, .int v2] (PreW D cA g sz ([] : va_W))) (va_Qi (fun (r : Int32) (_ : Unit) => r = rv) (PostW D cA sz ([] : va_W) ([] : va_W)) (va_A ([] : va_W) sz)) 0 0 (va_A ([] : va_W) sz) := by
  refine z_start (cc := cX12_isIn) (maxL := 3) (ret := (some .boolean)) (lv0 := [(0, .int v0), (1, .int v1), (2, .int v2)]) (Qc := fun sz => va_Qi (fun (r : Int32) (_ : Unit) => r = rv) (PostW D cA sz ([] : va_W) ([] : va_W)) (va_A ([] : va_W) sz)) (free := fun sz => va_A ([] : va_W) sz) (by decide +kernel) rfl rfl (Nat.le_of_ble_eq_true rfl) ?_
  intro p e R s m args below meth c A Q hR hA hQ X hr hin
  unfold f_X12_isIn at hF
  refine z_iload_n X dX12_isIn_0 rfl 0 rfl ?_
  refine z_iload_n X dX12_isIn_1 rfl 1 rfl ?_
  have hF := if_e hF
  refine z_icmp_lt (tgt := 14) X dX12_isIn_2 (by decide) (fun c2 => ?_) (fun c2 => ?_)
  · have hF := hF.1 c2
    refine z_iconst (v := (0 : Int32)) X dX12_isIn_14 (by decide) ?_
    cases hF
    exact z_zret X hA hQ hr (Or.inl rfl)  rfl dX12_isIn_15 (Nat.le_refl _) (Nat.le_refl _)
  · have hF := hF.2 c2
    refine z_iload_n X dX12_isIn_5 rfl 0 rfl ?_
    refine z_iload_n X dX12_isIn_6 rfl 2 rfl ?_
    have hF := if_e hF
    refine z_icmp_gt (tgt := 14) X dX12_isIn_7 (by decide) (fun c1 => ?_) (fun c1 => ?_)
    · have hF := hF.1 c1
      refine z_iconst (v := (0 : Int32)) X dX12_isIn_14 (by decide) ?_
      cases hF
      exact z_zret X hA hQ hr (Or.inl rfl)  rfl dX12_isIn_15 (Nat.le_refl _) (Nat.le_refl _)
    · have hF := hF.2 c1
      refine z_iconst (v := (1 : Int32)) X dX12_isIn_10 (by decide) ?_
      refine z_goto (tgt := 15) X dX12_isIn_11 (by decide) ?_
      cases hF
      exact z_zret X hA hQ hr (Or.inr rfl)  rfl dX12_isIn_15 (Nat.le_refl _) (Nat.le_refl _)
set_option maxHeartbeats 8000000 in
set_option maxRecDepth 100000 in
theorem c_X12_bitOf (l : Launch) (D : va_G) (cA : Nat → ClassId) (g : Nat → Nat) (sz : Nat)  (v0 : Int32) (v1 : Int32) (rv : Int32) (hF : f_X12_bitOf v0 v1 = some rv) : Met l yX12_bitOf wsX12_bitOf ({ frames := 0, cells := 0, slots := 0, locals := 0 }) (va_Pc [.int v0, .int v1] (PreW D cA g sz ([] : va_W))) (va_Qi (fun (r : Int32) (_ : Unit) => r = rv) (PostW D cA sz ([] : va_W) ([] : va_W)) (va_A ([] : va_W) sz)) 0 0 (va_A ([] : va_W) sz) := by
  refine z_start (cc := cX12_bitOf) (maxL := 2) (ret := (some .boolean)) (lv0 := [(0, .int v0), (1, .int v1)]) (Qc := fun sz => va_Qi (fun (r : Int32) (_ : Unit) => r = rv) (PostW D cA sz ([] : va_W) ([] : va_W)) (va_A ([] : va_W) sz)) (free := fun sz => va_A ([] : va_W) sz) (by decide +kernel) rfl rfl (Nat.le_of_ble_eq_true rfl) ?_
  intro p e R s m args below meth c A Q hR hA hQ X hr hin
  unfold f_X12_bitOf at hF
  refine z_iload_n X dX12_bitOf_0 rfl 0 rfl ?_
  refine z_iload_n X dX12_bitOf_1 rfl 1 rfl ?_
  refine z_ishr X dX12_bitOf_2 ?_
  refine z_iconst (v := (1 : Int32)) X dX12_bitOf_3 (by decide) ?_
  refine z_iand X dX12_bitOf_4 ?_
  refine z_iconst (v := (1 : Int32)) X dX12_bitOf_5 (by decide) ?_
  have hF := if_e hF
  refine z_icmp_ne (tgt := 13) X dX12_bitOf_6 (by decide) (fun c1 => ?_) (fun c1 => ?_)
  · have hF := hF.2 c1
    refine z_iconst (v := (0 : Int32)) X dX12_bitOf_13 (by decide) ?_
    cases hF
    exact z_zret X hA hQ hr (Or.inl rfl)  rfl dX12_bitOf_14 (Nat.le_refl _) (Nat.le_refl _)
  · have hF := hF.1 c1
    refine z_iconst (v := (1 : Int32)) X dX12_bitOf_9 (by decide) ?_
    refine z_goto (tgt := 14) X dX12_bitOf_10 (by decide) ?_
    cases hF
    exact z_zret X hA hQ hr (Or.inr rfl)  rfl dX12_bitOf_14 (Nat.le_refl _) (Nat.le_refl _)
set_option maxHeartbeats 8000000 in
set_option maxRecDepth 100000 in
theorem c_X12_ones (l : Launch) (D : va_G) (cA : Nat → ClassId) (g : Nat → Nat) (sz : Nat)  (v0 : Int32) (rv : Int32) (hF : f_X12_ones v0 = some rv) : Met l yX12_ones wsX12_ones ({ frames := 0, cells := 0, slots := 0, locals := 0 }) (va_Pc [.int v0] (PreW D cA g sz ([] : va_W))) (va_Qi (fun (r : Int32) (_ : Unit) => r = rv) (PostW D cA sz ([] : va_W) ([] : va_W)) (va_A ([] : va_W) sz)) 0 0 (va_A ([] : va_W) sz) := by
  refine z_start (cc := cX12_ones) (maxL := 3) (ret := (some .int)) (lv0 := [(0, .int v0)]) (Qc := fun sz => va_Qi (fun (r : Int32) (_ : Unit) => r = rv) (PostW D cA sz ([] : va_W) ([] : va_W)) (va_A ([] : va_W) sz)) (free := fun sz => va_A ([] : va_W) sz) (by decide +kernel) rfl rfl (Nat.le_of_ble_eq_true rfl) ?_
  intro p e R s m args below meth c A Q hR hA hQ X hr hin
  unfold f_X12_ones at hF
  refine z_iconst (v := (0 : Int32)) X dX12_ones_0 (by decide) ?_
  refine z_istore_n (lv' := [(1, .int (0 : Int32)), (0, .int v0)]) X dX12_ones_1 rfl (by decide) rfl ?_
  refine z_iconst (v := (0 : Int32)) X dX12_ones_2 (by decide) ?_
  refine z_istore_n (lv' := [(2, .int (0 : Int32)), (1, .int (0 : Int32)), (0, .int v0)]) X dX12_ones_3 rfl (by decide) rfl ?_
  obtain ⟨k8, hL, hF⟩ := zb1_e hF
  have L9_x : ∀ (k8' : Int32), k8' = k8 → ZW p l e R s m args below meth c D A 3 0 0 Q ([] : va_W) [(1, .int k8')] 24 [] := by
    intro k8' hz
    cases hz
    refine z_iload_n X dX12_ones_24 rfl 0 rfl ?_
    cases hF
    exact z_iret X hA hQ hr rfl dX12_ones_25 (Nat.le_refl _) (Nat.le_refl _)
  obtain ⟨B14, hBB14, hL⟩ := zl2_b hL
  have L9 : ∀ (n : Nat) (k6 : Int32) (k7 : Int32), zl2 B14 n k6 k7 = some k8 → ZW p l e R s m args below meth c D A 3 0 0 Q ([] : va_W) [(0, .int v0), (1, .int k6), (2, .int k7)] 4 [] := by
    intro n
    induction n with
    | zero => intro k6 k7 hL; cases hL
    | succ n ih =>
      intro k6 k7 hL
      obtain ⟨zz10, hF, hL⟩ := zl2_e hL
      rw [hBB14] at hF
      refine z_iload_n X dX12_ones_4 rfl 2 rfl ?_
      refine z_bipush (v := (32 : Int32)) X dX12_ones_5 (by decide) ?_
      have hF := if_e hF
      refine z_icmp_ge (tgt := 24) X dX12_ones_7 (by decide) (fun c13 => ?_) (fun c13 => ?_)
      · have hF := hF.1 c13
        cases hF
        have hL := Option.some.inj hL
        refine z_lv (lv' := [(1, .int k6)]) [1] rfl ?_
        exact L9_x k6 hL
      · have hF := hF.2 c13
        refine z_iload_n X dX12_ones_10 rfl 1 rfl ?_
        refine z_iload_n X dX12_ones_11 rfl 0 rfl ?_
        refine z_iload_n X dX12_ones_12 rfl 2 rfl ?_
        refine z_ishr X dX12_ones_13 ?_
        refine z_iconst (v := (1 : Int32)) X dX12_ones_14 (by decide) ?_
        refine z_iand X dX12_ones_15 ?_
        refine z_iadd X dX12_ones_16 ?_
        obtain ⟨x11, ex11, hF⟩ := nx_e hF
        refine z_nm ex11 ?_
        refine z_istore_n (lv' := [(1, .int x11), (0, .int v0), (2, .int k7)]) X dX12_ones_17 rfl (by decide) rfl ?_
        obtain ⟨x12, ex12, hF⟩ := nx_e hF
        refine z_iinc (v := x12) (lv' := [(2, .int x12), (1, .int x11), (0, .int v0)]) (j := 2) X dX12_ones_18 rfl (by rw [ex12]; rfl) (by decide) rfl ?_
        refine z_goto (tgt := 4) X dX12_ones_21 (by decide) ?_
        cases hF
        refine z_lv (lv' := [(0, .int v0), (1, .int x11), (2, .int x12)]) [2, 1, 0] rfl ?_
        exact ih x11 x12 hL
  refine z_lv (lv' := [(0, .int v0), (1, .int (0 : Int32)), (2, .int (0 : Int32))]) [2, 1, 0] rfl ?_
  exact L9 FU (0 : Int32) (0 : Int32) hL
abbrev w_X12_copies (cA : Nat → ClassId) (h_p0 n_p0 : Nat) (f_p0 : Fn) (h_p2 n_p2 : Nat) (f_p2 : Fn) : va_W := [(h_p0, .inl (cA 0, n_p0, .inl f_p0)), (h_p2, .inl (cA 0, n_p2, .inl f_p2))]
set_option maxHeartbeats 8000000 in
set_option maxRecDepth 100000 in
theorem c_X12_copies (l : Launch) (D : va_G) (cA : Nat → ClassId) (g : Nat → Nat) (sz : Nat) (h_p0 n_p0 : Nat) (f_p0 : Fn) (h_p2 n_p2 : Nat) (f_p2 : Fn) (v1 : Int32) (v3 : Int32) (f_p2' : Fn) (hF : f_X12_copies n_p0 f_p0 n_p2 f_p2 v1 v3 = some f_p2') : Met l yX12_copies wsX12_copies ({ frames := 0, cells := 0, slots := 0, locals := 0 }) (va_Pc [.ref h_p0, .int v1, .ref h_p2, .int v3] (PreW D cA g sz (w_X12_copies cA h_p0 n_p0 f_p0 h_p2 n_p2 f_p2))) (va_Qv (fun (_ : Unit) => True) (PostW D cA sz (w_X12_copies cA h_p0 n_p0 f_p0 h_p2 n_p2 f_p2) (w_X12_copies cA h_p0 n_p0 f_p0 h_p2 n_p2 f_p2')) (va_A (w_X12_copies cA h_p0 n_p0 f_p0 h_p2 n_p2 f_p2) sz)) 0 0 (va_A (w_X12_copies cA h_p0 n_p0 f_p0 h_p2 n_p2 f_p2) sz) := by
  refine z_start (cc := cX12_copies) (maxL := 5) (ret := none) (lv0 := [(0, .ref h_p0), (1, .int v1), (2, .ref h_p2), (3, .int v3)]) (Qc := fun sz => va_Qv (fun (_ : Unit) => True) (PostW D cA sz (w_X12_copies cA h_p0 n_p0 f_p0 h_p2 n_p2 f_p2) (w_X12_copies cA h_p0 n_p0 f_p0 h_p2 n_p2 f_p2')) (va_A (w_X12_copies cA h_p0 n_p0 f_p0 h_p2 n_p2 f_p2) sz)) (free := fun sz => va_A (w_X12_copies cA h_p0 n_p0 f_p0 h_p2 n_p2 f_p2) sz) (by decide +kernel) rfl rfl (Nat.le_of_ble_eq_true rfl) ?_
  intro p e R s m args below meth c A Q hR hA hQ X hr hin
  unfold f_X12_copies at hF
  refine z_iconst (v := (0 : Int32)) X dX12_copies_0 (by decide) ?_
  refine z_istore (lv' := [(4, .int (0 : Int32)), (0, .ref h_p0), (1, .int v1), (2, .ref h_p2), (3, .int v3)]) X dX12_copies_1 (by decide) rfl ?_
  obtain ⟨o11, hL, hF⟩ := zb1_e hF
  have L12_x : ∀ (o11' : Fn), o11' = o11 → ZW p l e R s m args below meth c D A 5 0 0 Q (w_X12_copies cA h_p0 n_p0 f_p0 h_p2 n_p2 o11') [] 29 [] := by
    intro o11' hz
    cases hz
    cases hF
    exact z_vret X hA hQ hr dX12_copies_29 (Nat.le_refl _) (Nat.le_refl _)
  obtain ⟨B19, hBB19, hL⟩ := zl2_b hL
  have L12 : ∀ (n : Nat) (o9 : Fn) (k10 : Int32), zl2 B19 n o9 k10 = some o11 → ZW p l e R s m args below meth c D A 5 0 0 Q (w_X12_copies cA h_p0 n_p0 f_p0 h_p2 n_p2 o9) [(0, .ref h_p0), (1, .int v1), (2, .ref h_p2), (3, .int v3), (4, .int k10)] 3 [] := by
    intro n
    induction n with
    | zero => intro o9 k10 hL; cases hL
    | succ n ih =>
      intro o9 k10 hL
      obtain ⟨zz13, hF, hL⟩ := zl2_e hL
      rw [hBB19] at hF
      refine z_iload X dX12_copies_3 4 rfl ?_
      refine z_sipush (v := (835 : Int32)) X dX12_copies_5 (by decide) ?_
      have hF := if_e hF
      refine z_icmp_ge (tgt := 29) X dX12_copies_8 (by decide) (fun c18 => ?_) (fun c18 => ?_)
      · have hF := hF.1 c18
        cases hF
        have hL := Option.some.inj hL
        refine z_lv (lv' := []) [] rfl ?_
        exact L12_x o9 hL
      · have hF := hF.2 c18
        refine z_aload_n X dX12_copies_11 rfl 2 rfl ?_
        refine z_iload_n X dX12_copies_12 rfl 3 rfl ?_
        refine z_iload X dX12_copies_13 4 rfl ?_
        refine z_iadd X dX12_copies_15 ?_
        refine z_aload_n X dX12_copies_16 rfl 0 rfl ?_
        refine z_iload_n X dX12_copies_17 rfl 1 rfl ?_
        refine z_iload X dX12_copies_18 4 rfl ?_
        refine z_iadd X dX12_copies_20 ?_
        obtain ⟨g14, hF⟩ := gi_e hF
        refine z_iald X 0 rfl g14 dX12_copies_21 ?_
        obtain ⟨g15, hF⟩ := gi_e hF
        obtain ⟨o16, eo16, hF⟩ := nx_e hF
        refine z_iast (ws' := (w_X12_copies cA h_p0 n_p0 f_p0 h_p2 n_p2 o16)) X 1 rfl g15 (by rw [eo16]; rfl) dX12_copies_22 ?_
        obtain ⟨x17, ex17, hF⟩ := nx_e hF
        refine z_iinc (v := x17) (lv' := [(4, .int x17), (0, .ref h_p0), (1, .int v1), (2, .ref h_p2), (3, .int v3)]) (j := 4) X dX12_copies_23 rfl (by rw [ex17]; rfl) (by decide) rfl ?_
        refine z_goto (tgt := 3) X dX12_copies_26 (by decide) ?_
        cases hF
        refine z_lv (lv' := [(0, .ref h_p0), (1, .int v1), (2, .ref h_p2), (3, .int v3), (4, .int x17)]) [1, 2, 3, 4, 0] rfl ?_
        exact ih o16 x17 hL
  refine z_lv (lv' := [(0, .ref h_p0), (1, .int v1), (2, .ref h_p2), (3, .int v3), (4, .int (0 : Int32))]) [1, 2, 3, 4, 0] rfl ?_
  exact L12 FU f_p2 (0 : Int32) hL
set_option maxRecDepth 20000 in
theorem h_X12_isItem_X12 : ∀ w ∈ wsX120, w ∈ wsX12_isItem := by decide +kernel
set_option maxRecDepth 20000 in
theorem k_X12_isItem_7 : ZF wsX12_isItem RX12 7 12 0 RX12 TX12 47 := ⟨rfl, by decide, h_X12_isItem_X12, by decide +kernel⟩
set_option maxHeartbeats 8000000 in
set_option maxRecDepth 100000 in
theorem c_X12_isItem (l : Launch) (D : va_G) (cA : Nat → ClassId) (g : Nat → Nat) (sz : Nat) (h_t : Nat) (a_t : Nat → Nat) (o_t : Ob) (v1 : Int32) (rv : Int32) (hF : f_X12_isItem o_t v1 = some rv) : Met l yX12_isItem wsX12_isItem ({ frames := 1, cells := 0, slots := 0, locals := 22 }) (va_Pc [.ref h_t, .int v1] (PreW D cA g sz (w_X12_four cA h_t a_t o_t))) (va_Qi (fun (r : Int32) (_ : Unit) => r = rv) (PostW D cA sz (w_X12_four cA h_t a_t o_t) (w_X12_four cA h_t a_t o_t)) (va_A (w_X12_four cA h_t a_t o_t) sz)) 0 0 (va_A (w_X12_four cA h_t a_t o_t) sz) := by
  refine z_start (cc := cX12_isItem) (maxL := 2) (ret := (some .boolean)) (lv0 := [(0, .ref h_t), (1, .int v1)]) (Qc := fun sz => va_Qi (fun (r : Int32) (_ : Unit) => r = rv) (PostW D cA sz (w_X12_four cA h_t a_t o_t) (w_X12_four cA h_t a_t o_t)) (va_A (w_X12_four cA h_t a_t o_t) sz)) (free := fun sz => va_A (w_X12_four cA h_t a_t o_t) sz) (by decide +kernel) rfl rfl (Nat.le_of_ble_eq_true rfl) ?_
  intro p e R s m args below meth c A Q hR hA hQ X hr hin
  unfold f_X12_isItem at hF
  refine z_iload_n X dX12_isItem_0 rfl 1 rfl ?_
  refine z_iconst (v := (0 : Int32)) X dX12_isItem_1 (by decide) ?_
  refine z_aload_n X dX12_isItem_2 rfl 0 rfl ?_
  refine z_get (v := .ref (a_t 0)) X k_X12_isItem_7 0 rfl rfl dX12_isItem_3 ?_
  refine z_iconst (v := (2 : Int32)) X dX12_isItem_6 (by decide) ?_
  obtain ⟨g1, hF⟩ := gi_e hF
  refine z_iald X 1 rfl g1 dX12_isItem_7 ?_
  refine z_iconst (v := (1 : Int32)) X dX12_isItem_8 (by decide) ?_
  refine z_isub X dX12_isItem_9 ?_
  obtain ⟨r2, hc3, hF⟩ := zb1_e hF
  refine z_Si (As := [.int v1, .int (0 : Int32), .int ((o_t 0 (Int32.toNatClampNeg (2 : Int32))) - (1 : Int32))]) (rest := []) (wc := ([] : va_W)) (wc' := ([] : va_W)) (ws' := (w_X12_four cA h_t a_t o_t)) (rv := r2) X (va_cwS 3 X.2.2.2.2.1 gX12_isItem_X12_isIn rfl rfl rfl (by decide +kernel) (by rw [hR]; exact ⟨Nat.le_of_ble_eq_true rfl, Nat.le_of_ble_eq_true rfl⟩)) (fun sz => c_X12_isIn l D cA g sz v1 (0 : Int32) ((o_t 0 (Int32.toNatClampNeg (2 : Int32))) - (1 : Int32)) r2 hc3) [] [0, 1, 2, 3, 4, 5, 6, 7, 8, 9, 10, 11, 12, 13, 14, 15, 16, 17, 18, 19, 20, 21] rfl (by decide) rfl (by decide) rfl rfl rfl (Nat.le_of_ble_eq_true rfl) dX12_isItem_10 ⟨Nat.zero_le _, Nat.zero_le _⟩ ?_
  obtain ⟨g4, hF⟩ := gz_e hF
  cases hF
  exact z_zret X hA hQ hr g4  rfl dX12_isItem_13 (Nat.le_refl _) (Nat.le_refl _)
set_option maxRecDepth 20000 in
theorem h_X12_peek_X12 : ∀ w ∈ wsX120, w ∈ wsX12_peek := by decide +kernel
set_option maxRecDepth 20000 in
theorem k_X12_peek_26 : ZF wsX12_peek RX12 26 12 6 RX12 TX12 47 := ⟨rfl, by decide, h_X12_peek_X12, by decide +kernel⟩
set_option maxRecDepth 20000 in
theorem k_X12_peek_87 : ZF wsX12_peek RX12 87 12 9 RX12 TX12 47 := ⟨rfl, by decide, h_X12_peek_X12, by decide +kernel⟩
set_option maxRecDepth 20000 in
theorem k_X12_peek_90 : ZF wsX12_peek RX12 90 12 8 RX12 TX12 47 := ⟨rfl, by decide, h_X12_peek_X12, by decide +kernel⟩
set_option maxHeartbeats 8000000 in
set_option maxRecDepth 100000 in
theorem c_X12_peek (l : Launch) (D : va_G) (cA : Nat → ClassId) (g : Nat → Nat) (sz : Nat) (h_t : Nat) (a_t : Nat → Nat) (o_t : Ob)  (rv : Int32) (hF : f_X12_peek o_t = some rv) : Met l yX12_peek wsX12_peek ({ frames := 0, cells := 0, slots := 0, locals := 0 }) (va_Pc [.ref h_t] (PreW D cA g sz (w_X12_four cA h_t a_t o_t))) (va_Qi (fun (r : Int32) (_ : Unit) => r = rv) (PostW D cA sz (w_X12_four cA h_t a_t o_t) (w_X12_four cA h_t a_t o_t)) (va_A (w_X12_four cA h_t a_t o_t) sz)) 0 0 (va_A (w_X12_four cA h_t a_t o_t) sz) := by
  refine z_start (cc := cX12_peek) (maxL := 1) (ret := (some .int)) (lv0 := [(0, .ref h_t)]) (Qc := fun sz => va_Qi (fun (r : Int32) (_ : Unit) => r = rv) (PostW D cA sz (w_X12_four cA h_t a_t o_t) (w_X12_four cA h_t a_t o_t)) (va_A (w_X12_four cA h_t a_t o_t) sz)) (free := fun sz => va_A (w_X12_four cA h_t a_t o_t) sz) (by decide +kernel) rfl rfl (Nat.le_of_ble_eq_true rfl) ?_
  intro p e R s m args below meth c A Q hR hA hQ X hr hin
  unfold f_X12_peek at hF
  refine z_aload_n X dX12_peek_0 rfl 0 rfl ?_
  refine z_get (v := .int (o_t 9 0)) X k_X12_peek_87 0 rfl rfl dX12_peek_1 ?_
  refine z_aload_n X dX12_peek_4 rfl 0 rfl ?_
  refine z_get (v := .int (o_t 8 0)) X k_X12_peek_90 0 rfl rfl dX12_peek_5 ?_
  have hF := if_e hF
  refine z_icmp_ge (tgt := 27) X dX12_peek_8 (by decide) (fun c2 => ?_) (fun c2 => ?_)
  · have hF := hF.1 c2
    refine z_iconst (v := (-1 : Int32)) X dX12_peek_27 (by decide) ?_
    cases hF
    exact z_iret X hA hQ hr rfl dX12_peek_28 (Nat.le_refl _) (Nat.le_refl _)
  · have hF := hF.2 c2
    refine z_aload_n X dX12_peek_11 rfl 0 rfl ?_
    refine z_get (v := .ref (a_t 6)) X k_X12_peek_26 0 rfl rfl dX12_peek_12 ?_
    refine z_aload_n X dX12_peek_15 rfl 0 rfl ?_
    refine z_get (v := .int (o_t 9 0)) X k_X12_peek_87 0 rfl rfl dX12_peek_16 ?_
    obtain ⟨g1, hF⟩ := gi_e hF
    refine z_bald X 6 rfl g1 dX12_peek_19 ?_
    refine z_sipush (v := (255 : Int32)) X dX12_peek_20 (by decide) ?_
    refine z_iand X dX12_peek_23 ?_
    refine z_goto (tgt := 28) X dX12_peek_24 (by decide) ?_
    cases hF
    exact z_iret X hA hQ hr rfl dX12_peek_28 (Nat.le_refl _) (Nat.le_refl _)
set_option maxHeartbeats 8000000 in
set_option maxRecDepth 100000 in
theorem c_X12_isSmall (l : Launch) (D : va_G) (cA : Nat → ClassId) (g : Nat → Nat) (sz : Nat)  (v0 : Int32) (rv : Int32) (hF : f_X12_isSmall v0 = some rv) : Met l yX12_isSmall wsX12_isSmall ({ frames := 1, cells := 0, slots := 0, locals := 22 }) (va_Pc [.int v0] (PreW D cA g sz ([] : va_W))) (va_Qi (fun (r : Int32) (_ : Unit) => r = rv) (PostW D cA sz ([] : va_W) ([] : va_W)) (va_A ([] : va_W) sz)) 0 0 (va_A ([] : va_W) sz) := by
  refine z_start (cc := cX12_isSmall) (maxL := 1) (ret := (some .boolean)) (lv0 := [(0, .int v0)]) (Qc := fun sz => va_Qi (fun (r : Int32) (_ : Unit) => r = rv) (PostW D cA sz ([] : va_W) ([] : va_W)) (va_A ([] : va_W) sz)) (free := fun sz => va_A ([] : va_W) sz) (by decide +kernel) rfl rfl (Nat.le_of_ble_eq_true rfl) ?_
  intro p e R s m args below meth c A Q hR hA hQ X hr hin
  unfold f_X12_isSmall at hF
  refine z_iload_n X dX12_isSmall_0 rfl 0 rfl ?_
  refine z_bipush (v := (97 : Int32)) X dX12_isSmall_1 (by decide) ?_
  refine z_bipush (v := (122 : Int32)) X dX12_isSmall_3 (by decide) ?_
  obtain ⟨r1, hc2, hF⟩ := zb1_e hF
  refine z_Si (As := [.int v0, .int (97 : Int32), .int (122 : Int32)]) (rest := []) (wc := ([] : va_W)) (wc' := ([] : va_W)) (ws' := ([] : va_W)) (rv := r1) X (va_cwS 3 X.2.2.2.2.1 gX12_isSmall_X12_isIn rfl rfl rfl (by decide +kernel) (by rw [hR]; exact ⟨Nat.le_of_ble_eq_true rfl, Nat.le_of_ble_eq_true rfl⟩)) (fun sz => c_X12_isIn l D cA g sz v0 (97 : Int32) (122 : Int32) r1 hc2) [] [] rfl (by decide) rfl (by decide) rfl rfl rfl (Nat.le_of_ble_eq_true rfl) dX12_isSmall_5 ⟨Nat.zero_le _, Nat.zero_le _⟩ ?_
  obtain ⟨g3, hF⟩ := gz_e hF
  cases hF
  exact z_zret X hA hQ hr g3  rfl dX12_isSmall_8 (Nat.le_refl _) (Nat.le_refl _)
set_option maxHeartbeats 8000000 in
set_option maxRecDepth 100000 in
theorem c_X12_isDigit (l : Launch) (D : va_G) (cA : Nat → ClassId) (g : Nat → Nat) (sz : Nat)  (v0 : Int32) (rv : Int32) (hF : f_X12_isDigit v0 = some rv) : Met l yX12_isDigit wsX12_isDigit ({ frames := 1, cells := 0, slots := 0, locals := 22 }) (va_Pc [.int v0] (PreW D cA g sz ([] : va_W))) (va_Qi (fun (r : Int32) (_ : Unit) => r = rv) (PostW D cA sz ([] : va_W) ([] : va_W)) (va_A ([] : va_W) sz)) 0 0 (va_A ([] : va_W) sz) := by
  refine z_start (cc := cX12_isDigit) (maxL := 1) (ret := (some .boolean)) (lv0 := [(0, .int v0)]) (Qc := fun sz => va_Qi (fun (r : Int32) (_ : Unit) => r = rv) (PostW D cA sz ([] : va_W) ([] : va_W)) (va_A ([] : va_W) sz)) (free := fun sz => va_A ([] : va_W) sz) (by decide +kernel) rfl rfl (Nat.le_of_ble_eq_true rfl) ?_
  intro p e R s m args below meth c A Q hR hA hQ X hr hin
  unfold f_X12_isDigit at hF
  refine z_iload_n X dX12_isDigit_0 rfl 0 rfl ?_
  refine z_bipush (v := (48 : Int32)) X dX12_isDigit_1 (by decide) ?_
  refine z_bipush (v := (57 : Int32)) X dX12_isDigit_3 (by decide) ?_
  obtain ⟨r1, hc2, hF⟩ := zb1_e hF
  refine z_Si (As := [.int v0, .int (48 : Int32), .int (57 : Int32)]) (rest := []) (wc := ([] : va_W)) (wc' := ([] : va_W)) (ws' := ([] : va_W)) (rv := r1) X (va_cwS 3 X.2.2.2.2.1 gX12_isDigit_X12_isIn rfl rfl rfl (by decide +kernel) (by rw [hR]; exact ⟨Nat.le_of_ble_eq_true rfl, Nat.le_of_ble_eq_true rfl⟩)) (fun sz => c_X12_isIn l D cA g sz v0 (48 : Int32) (57 : Int32) r1 hc2) [] [] rfl (by decide) rfl (by decide) rfl rfl rfl (Nat.le_of_ble_eq_true rfl) dX12_isDigit_5 ⟨Nat.zero_le _, Nat.zero_le _⟩ ?_
  obtain ⟨g3, hF⟩ := gz_e hF
  cases hF
  exact z_zret X hA hQ hr g3  rfl dX12_isDigit_8 (Nat.le_refl _) (Nat.le_refl _)
set_option maxRecDepth 20000 in
theorem h_X12_bad_X12 : ∀ w ∈ wsX120, w ∈ wsX12_bad := by decide +kernel
set_option maxRecDepth 20000 in
theorem k_X12_bad_93 : ZF wsX12_bad RX12 93 12 13 RX12 TX12 47 := ⟨rfl, by decide, h_X12_bad_X12, by decide +kernel⟩
set_option maxRecDepth 20000 in
theorem k_X12_bad_96 : ZF wsX12_bad RX12 96 12 14 RX12 TX12 47 := ⟨rfl, by decide, h_X12_bad_X12, by decide +kernel⟩
set_option maxHeartbeats 8000000 in
set_option maxRecDepth 100000 in
theorem c_X12_bad (l : Launch) (D : va_G) (cA : Nat → ClassId) (g : Nat → Nat) (sz : Nat) (h_t : Nat) (a_t : Nat → Nat) (o_t : Ob) (v1 : Int32) (v2 : Int32) (o_t' : Ob) (rv : Int32) (hF : f_X12_bad o_t v1 v2 = some (o_t', rv)) : Met l yX12_bad wsX12_bad ({ frames := 0, cells := 0, slots := 0, locals := 0 }) (va_Pc [.ref h_t, .int v1, .int v2] (PreW D cA g sz (w_X12_four cA h_t a_t o_t))) (va_Qi (fun (r : Int32) (_ : Unit) => r = rv) (PostW D cA sz (w_X12_four cA h_t a_t o_t) (w_X12_four cA h_t a_t o_t')) (va_A (w_X12_four cA h_t a_t o_t) sz)) 0 0 (va_A (w_X12_four cA h_t a_t o_t) sz) := by
  refine z_start (cc := cX12_bad) (maxL := 3) (ret := (some .boolean)) (lv0 := [(0, .ref h_t), (1, .int v1), (2, .int v2)]) (Qc := fun sz => va_Qi (fun (r : Int32) (_ : Unit) => r = rv) (PostW D cA sz (w_X12_four cA h_t a_t o_t) (w_X12_four cA h_t a_t o_t')) (va_A (w_X12_four cA h_t a_t o_t) sz)) (free := fun sz => va_A (w_X12_four cA h_t a_t o_t) sz) (by decide +kernel) rfl rfl (Nat.le_of_ble_eq_true rfl) ?_
  intro p e R s m args below meth c A Q hR hA hQ X hr hin
  unfold f_X12_bad at hF
  refine z_aload_n X dX12_bad_0 rfl 0 rfl ?_
  refine z_iload_n X dX12_bad_1 rfl 1 rfl ?_
  obtain ⟨o1, eo1, hF⟩ := nx_e hF
  refine z_put (ws' := (w_X12_four cA h_t a_t o1)) X k_X12_bad_93 tyX12 tyX12_ok nmX12 rfl rfl 0 rfl (Nat.le_of_ble_eq_true rfl) (by rw [eo1]; rfl) dX12_bad_2 ?_
  refine z_aload_n X dX12_bad_5 rfl 0 rfl ?_
  refine z_iload_n X dX12_bad_6 rfl 2 rfl ?_
  obtain ⟨o2, eo2, hF⟩ := nx_e hF
  refine z_put (ws' := (w_X12_four cA h_t a_t o2)) X k_X12_bad_96 tyX12 tyX12_ok nmX12 rfl rfl 0 rfl (Nat.le_of_ble_eq_true rfl) (by rw [eo2]; rfl) dX12_bad_7 ?_
  refine z_iconst (v := (0 : Int32)) X dX12_bad_10 (by decide) ?_
  cases hF
  exact z_zret X hA hQ hr (Or.inl rfl)  rfl dX12_bad_11 (Nat.le_refl _) (Nat.le_refl _)
set_option maxRecDepth 20000 in
theorem h_X12_badHere_X12 : ∀ w ∈ wsX120, w ∈ wsX12_badHere := by decide +kernel
set_option maxRecDepth 20000 in
theorem k_X12_badHere_99 : ZF wsX12_badHere RX12 99 12 10 RX12 TX12 47 := ⟨rfl, by decide, h_X12_badHere_X12, by decide +kernel⟩
set_option maxHeartbeats 8000000 in
set_option maxRecDepth 100000 in
theorem c_X12_badHere (l : Launch) (D : va_G) (cA : Nat → ClassId) (g : Nat → Nat) (sz : Nat) (h_t : Nat) (a_t : Nat → Nat) (o_t : Ob) (v1 : Int32) (o_t' : Ob) (rv : Int32) (hF : f_X12_badHere o_t v1 = some (o_t', rv)) : Met l yX12_badHere wsX12_badHere ({ frames := 1, cells := 0, slots := 0, locals := 22 }) (va_Pc [.ref h_t, .int v1] (PreW D cA g sz (w_X12_four cA h_t a_t o_t))) (va_Qi (fun (r : Int32) (_ : Unit) => r = rv) (PostW D cA sz (w_X12_four cA h_t a_t o_t) (w_X12_four cA h_t a_t o_t')) (va_A (w_X12_four cA h_t a_t o_t) sz)) 0 0 (va_A (w_X12_four cA h_t a_t o_t) sz) := by
  refine z_start (cc := cX12_badHere) (maxL := 2) (ret := (some .boolean)) (lv0 := [(0, .ref h_t), (1, .int v1)]) (Qc := fun sz => va_Qi (fun (r : Int32) (_ : Unit) => r = rv) (PostW D cA sz (w_X12_four cA h_t a_t o_t) (w_X12_four cA h_t a_t o_t')) (va_A (w_X12_four cA h_t a_t o_t) sz)) (free := fun sz => va_A (w_X12_four cA h_t a_t o_t) sz) (by decide +kernel) rfl rfl (Nat.le_of_ble_eq_true rfl) ?_
  intro p e R s m args below meth c A Q hR hA hQ X hr hin
  unfold f_X12_badHere at hF
  refine z_aload_n X dX12_badHere_0 rfl 0 rfl ?_
  refine z_iload_n X dX12_badHere_1 rfl 1 rfl ?_
  refine z_aload_n X dX12_badHere_2 rfl 0 rfl ?_
  refine z_get (v := .int (o_t 10 0)) X k_X12_badHere_99 0 rfl rfl dX12_badHere_3 ?_
  obtain ⟨o1, r2, hc3, hF⟩ := zb2_e hF
  refine z_Vi (As := [.int v1, .int (o_t 10 0)]) (rest := []) (wc := (w_X12_four cA h_t a_t o_t)) (wc' := (w_X12_four cA h_t a_t o1)) (ws' := (w_X12_four cA h_t a_t o1)) (rv := r2) X (cwV 2 X.2.2.2.2.1 gX12_badHere_X12_bad rfl rfl rfl (by decide +kernel) (by rw [hR]; exact ⟨Nat.le_of_ble_eq_true rfl, Nat.le_of_ble_eq_true rfl⟩)) (fun sz => c_X12_bad l D cA g sz h_t a_t o_t v1 (o_t 10 0) o1 r2 hc3) [0, 1, 2, 3, 4, 5, 6, 7, 8, 9, 10, 11, 12, 13, 14, 15, 16, 17, 18, 19, 20, 21] [1000, 1001, 1002, 1003, 1004, 1005, 1006, 1007, 1008, 1009, 1010, 1011, 1012, 1013, 1014, 1015, 1016, 1017, 1018, 1019, 1020, 1021] rfl (by decide) rfl (by decide) rfl rfl rfl rfl rfl rfl (Nat.le_of_ble_eq_true rfl) dX12_badHere_6 ⟨Nat.zero_le _, Nat.zero_le _⟩ ?_
  obtain ⟨g4, hF⟩ := gz_e hF
  cases hF
  exact z_zret X hA hQ hr g4  rfl dX12_badHere_9 (Nat.le_refl _) (Nat.le_refl _)
set_option maxRecDepth 20000 in
theorem h_X12_next_X12 : ∀ w ∈ wsX120, w ∈ wsX12_next := by decide +kernel
set_option maxRecDepth 20000 in
theorem k_X12_next_30 : ZF wsX12_next RX12 30 12 15 RX12 TX12 47 := ⟨rfl, by decide, h_X12_next_X12, by decide +kernel⟩
set_option maxRecDepth 20000 in
theorem k_X12_next_87 : ZF wsX12_next RX12 87 12 9 RX12 TX12 47 := ⟨rfl, by decide, h_X12_next_X12, by decide +kernel⟩
set_option maxRecDepth 20000 in
theorem k_X12_next_99 : ZF wsX12_next RX12 99 12 10 RX12 TX12 47 := ⟨rfl, by decide, h_X12_next_X12, by decide +kernel⟩
set_option maxRecDepth 20000 in
theorem k_X12_next_110 : ZF wsX12_next RX12 110 12 12 RX12 TX12 47 := ⟨rfl, by decide, h_X12_next_X12, by decide +kernel⟩
set_option maxRecDepth 20000 in
theorem k_X12_next_113 : ZF wsX12_next RX12 113 12 11 RX12 TX12 47 := ⟨rfl, by decide, h_X12_next_X12, by decide +kernel⟩
set_option maxRecDepth 20000 in
theorem k_X12_next_123 : ZF wsX12_next RX12 123 12 16 RX12 TX12 47 := ⟨rfl, by decide, h_X12_next_X12, by decide +kernel⟩
set_option maxHeartbeats 8000000 in
set_option maxRecDepth 100000 in
theorem c_X12_next (l : Launch) (D : va_G) (cA : Nat → ClassId) (g : Nat → Nat) (sz : Nat) (h_t : Nat) (a_t : Nat → Nat) (o_t : Ob)  (o_t' : Ob) (hF : f_X12_next o_t = some o_t') : Met l yX12_next wsX12_next ({ frames := 2, cells := 0, slots := 0, locals := 42 }) (va_Pc [.ref h_t] (PreW D cA g sz (w_X12_four cA h_t a_t o_t))) (va_Qv (fun (_ : Unit) => True) (PostW D cA sz (w_X12_four cA h_t a_t o_t) (w_X12_four cA h_t a_t o_t')) (va_A (w_X12_four cA h_t a_t o_t) sz)) 0 0 (va_A (w_X12_four cA h_t a_t o_t) sz) := by
  refine z_start (cc := cX12_next) (maxL := 4) (ret := none) (lv0 := [(0, .ref h_t)]) (Qc := fun sz => va_Qv (fun (_ : Unit) => True) (PostW D cA sz (w_X12_four cA h_t a_t o_t) (w_X12_four cA h_t a_t o_t')) (va_A (w_X12_four cA h_t a_t o_t) sz)) (free := fun sz => va_A (w_X12_four cA h_t a_t o_t) sz) (by decide +kernel) rfl rfl (Nat.le_of_ble_eq_true rfl) ?_
  intro p e R s m args below meth c A Q hR hA hQ X hr hin
  unfold f_X12_next at hF
  obtain ⟨o7, hL, hF⟩ := zb1_e hF
  have L182_x : ∀ (o7' : Ob), o7' = o7 → ZW p l e R s m args below meth c D A 4 0 0 Q (w_X12_four cA h_t a_t o7') [(0, .ref h_t)] 22 [] := by
    intro o7' hz
    cases hz
    refine z_aload_n X dX12_next_22 rfl 0 rfl ?_
    refine z_aload_n X dX12_next_23 rfl 0 rfl ?_
    refine z_get (v := .int (o7 9 0)) X k_X12_next_87 0 rfl rfl dX12_next_24 ?_
    obtain ⟨o8, eo8, hF⟩ := nx_e hF
    refine z_put (ws' := (w_X12_four cA h_t a_t o8)) X k_X12_next_99 tyX12 tyX12_ok nmX12 rfl rfl 0 rfl (Nat.le_of_ble_eq_true rfl) (by rw [eo8]; rfl) dX12_next_27 ?_
    refine z_aload_n X dX12_next_30 rfl 0 rfl ?_
    obtain ⟨r9, hc10, hF⟩ := zb1_e hF
    refine z_Vi (As := []) (rest := []) (wc := (w_X12_four cA h_t a_t o8)) (wc' := (w_X12_four cA h_t a_t o8)) (ws' := (w_X12_four cA h_t a_t o8)) (rv := r9) X (cwV 0 X.2.2.2.2.1 gX12_next_X12_peek rfl rfl rfl (by decide +kernel) (by rw [hR]; exact ⟨Nat.le_of_ble_eq_true rfl, Nat.le_of_ble_eq_true rfl⟩)) (fun sz => c_X12_peek l D cA g sz h_t a_t o8 r9 hc10) [0, 1, 2, 3, 4, 5, 6, 7, 8, 9, 10, 11, 12, 13, 14, 15, 16, 17, 18, 19, 20, 21] [1000, 1001, 1002, 1003, 1004, 1005, 1006, 1007, 1008, 1009, 1010, 1011, 1012, 1013, 1014, 1015, 1016, 1017, 1018, 1019, 1020, 1021] rfl (by decide) rfl (by decide) rfl rfl rfl rfl rfl rfl (Nat.le_of_ble_eq_true rfl) dX12_next_31 ⟨Nat.zero_le _, Nat.zero_le _⟩ ?_
    refine z_istore_n (lv' := [(1, .int r9), (0, .ref h_t)]) X dX12_next_34 rfl (by decide) rfl ?_
    refine z_aload_n X dX12_next_35 rfl 1 rfl ?_
    refine z_iload_n X dX12_next_36 rfl 0 rfl ?_
    obtain ⟨o11, eo11, hF⟩ := nx_e hF
    refine z_put (ws' := (w_X12_four cA h_t a_t o11)) X k_X12_next_110 tyX12 tyX12_ok nmX12 rfl rfl 0 rfl (Nat.le_of_ble_eq_true rfl) (by rw [eo11]; rfl) dX12_next_37 ?_
    refine z_iload_n X dX12_next_40 rfl 0 rfl ?_
    refine z_iconst (v := (-1 : Int32)) X dX12_next_41 (by decide) ?_
    have hF := if_e hF
    refine z_icmp_ne (tgt := 51) X dX12_next_42 (by decide) (fun c181 => ?_) (fun c181 => ?_)
    · have hF := hF.2 c181
      refine z_aload_n X dX12_next_51 rfl 1 rfl ?_
      refine z_dup X dX12_next_52 rfl ?_
      refine z_get (v := .int (o11 9 0)) X k_X12_next_87 0 rfl rfl dX12_next_53 ?_
      refine z_iconst (v := (1 : Int32)) X dX12_next_56 (by decide) ?_
      refine z_iadd X dX12_next_57 ?_
      obtain ⟨o12, eo12, hF⟩ := nx_e hF
      refine z_put (ws' := (w_X12_four cA h_t a_t o12)) X k_X12_next_87 tyX12 tyX12_ok nmX12 rfl rfl 0 rfl (Nat.le_of_ble_eq_true rfl) (by rw [eo12]; rfl) dX12_next_58 ?_
      refine z_iload_n X dX12_next_61 rfl 0 rfl ?_
      obtain ⟨r13, hc14, hF⟩ := zb1_e hF
      refine z_Si (As := [.int r9]) (rest := []) (wc := ([] : va_W)) (wc' := ([] : va_W)) (ws' := (w_X12_four cA h_t a_t o12)) (rv := r13) X (va_cwS 1 X.2.2.2.2.1 gX12_next_X12_isSmall rfl rfl rfl (by decide +kernel) (by rw [hR]; exact ⟨Nat.le_of_ble_eq_true rfl, Nat.le_of_ble_eq_true rfl⟩)) (fun sz => c_X12_isSmall l D cA g sz r9 r13 hc14) [] [0, 1, 2, 3, 4, 5, 6, 7, 8, 9, 10, 11, 12, 13, 14, 15, 16, 17, 18, 19, 20, 21] rfl (by decide) rfl (by decide) rfl rfl rfl (Nat.le_of_ble_eq_true rfl) dX12_next_62 ⟨Nat.zero_le _, Nat.zero_le _⟩ ?_
      obtain ⟨K29, eK29, hF⟩ := nx_e hF
      have K29_l : ∀ (_ : Unit), K29 () = some o_t' → ZW p l e R s m args below meth c D A 4 0 0 Q (w_X12_four cA h_t a_t o12) [(0, .ref h_t), (1, .int r9)] 103 [] := by
        intro _ hF
        rw [eK29] at hF
        refine z_iload_n X dX12_next_103 rfl 1 rfl ?_
        obtain ⟨r30, hc31, hF⟩ := zb1_e hF
        refine z_Si (As := [.int r9]) (rest := []) (wc := ([] : va_W)) (wc' := ([] : va_W)) (ws' := (w_X12_four cA h_t a_t o12)) (rv := r30) X (va_cwS 1 X.2.2.2.2.1 gX12_next_X12_isSmall rfl rfl rfl (by decide +kernel) (by rw [hR]; exact ⟨Nat.le_of_ble_eq_true rfl, Nat.le_of_ble_eq_true rfl⟩)) (fun sz => c_X12_isSmall l D cA g sz r9 r30 hc31) [] [0, 1, 2, 3, 4, 5, 6, 7, 8, 9, 10, 11, 12, 13, 14, 15, 16, 17, 18, 19, 20, 21] rfl (by decide) rfl (by decide) rfl rfl rfl (Nat.le_of_ble_eq_true rfl) dX12_next_104 ⟨Nat.zero_le _, Nat.zero_le _⟩ ?_
        obtain ⟨K34, eK34, hF⟩ := nx_e hF
        have K34_l : ∀ (j33 : Int32), K34 j33 = some o_t' → ZW p l e R s m args below meth c D A 4 0 0 Q (w_X12_four cA h_t a_t o12) [(0, .ref h_t), (1, .int r9)] 115 [.int j33] := by
          intro j33 hF
          rw [eK34] at hF
          refine z_istore_n (lv' := [(2, .int j33), (0, .ref h_t), (1, .int r9)]) X dX12_next_115 rfl (by decide) rfl ?_
          refine z_aload_n X dX12_next_116 rfl 1 rfl ?_
          refine z_iload_n X dX12_next_117 rfl 2 rfl ?_
          obtain ⟨r35, hc36, hF⟩ := zb1_e hF
          refine z_Si (As := [.int r9]) (rest := [.ref h_t]) (wc := ([] : va_W)) (wc' := ([] : va_W)) (ws' := (w_X12_four cA h_t a_t o12)) (rv := r35) X (va_cwS 1 X.2.2.2.2.1 gX12_next_X12_isDigit rfl rfl rfl (by decide +kernel) (by rw [hR]; exact ⟨Nat.le_of_ble_eq_true rfl, Nat.le_of_ble_eq_true rfl⟩)) (fun sz => c_X12_isDigit l D cA g sz r9 r35 hc36) [] [0, 1, 2, 3, 4, 5, 6, 7, 8, 9, 10, 11, 12, 13, 14, 15, 16, 17, 18, 19, 20, 21] rfl (by decide) rfl (by decide) rfl rfl rfl (Nat.le_of_ble_eq_true rfl) dX12_next_118 ⟨Nat.zero_le _, Nat.zero_le _⟩ ?_
          obtain ⟨K39, eK39, hF⟩ := nx_e hF
          have K39_l : ∀ (j38 : Int32), K39 j38 = some o_t' → ZW p l e R s m args below meth c D A 4 0 0 Q (w_X12_four cA h_t a_t o12) [(0, .ref h_t), (1, .int r9), (2, .int j33)] 132 [.int j38, .ref h_t] := by
            intro j38 hF
            rw [eK39] at hF
            obtain ⟨o40, eo40, hF⟩ := nx_e hF
            refine z_put (ws' := (w_X12_four cA h_t a_t o40)) X k_X12_next_110 tyX12 tyX12_ok nmX12 rfl rfl 0 rfl (Nat.le_of_ble_eq_true rfl) (by rw [eo40]; rfl) dX12_next_132 ?_
            refine z_aload_n X dX12_next_135 rfl 0 rfl ?_
            refine z_get (v := .ref (a_t 15)) X k_X12_next_30 0 rfl rfl dX12_next_136 ?_
            refine z_iconst (v := (0 : Int32)) X dX12_next_139 (by decide) ?_
            refine z_iload_n X dX12_next_140 rfl 1 rfl ?_
            refine z_i2b X dX12_next_141 ?_
            obtain ⟨g41, hF⟩ := gi_e hF
            obtain ⟨o42, eo42, hF⟩ := nx_e hF
            refine z_bast (ws' := (w_X12_four cA h_t a_t o42)) X 7 rfl g41 (by rw [eo42]; rfl) dX12_next_142 ?_
            obtain ⟨o96, k97, hL, hF⟩ := zb2_e hF
            have L112_x : ∀ (o96' : Ob) (k97' : Int32), (o96', k97') = (o96, k97) → ZW p l e R s m args below meth c D A 4 0 0 Q (w_X12_four cA h_t a_t o96') [(0, .ref h_t), (2, .int k97')] 252 [] := by
              intro o96' k97' hz
              cases hz
              refine z_aload_n X dX12_next_252 rfl 0 rfl ?_
              refine z_get (v := .int (o96 9 0)) X k_X12_next_87 0 rfl rfl dX12_next_253 ?_
              refine z_aload_n X dX12_next_256 rfl 0 rfl ?_
              refine z_get (v := .int (o96 10 0)) X k_X12_next_99 0 rfl rfl dX12_next_257 ?_
              refine z_isub X dX12_next_260 ?_
              obtain ⟨x98, ex98, hF⟩ := nx_e hF
              refine z_nm ex98 ?_
              refine z_istore_n (lv' := [(3, .int x98), (0, .ref h_t), (2, .int k97)]) X dX12_next_261 rfl (by decide) rfl ?_
              refine z_aload_n X dX12_next_262 rfl 1 rfl ?_
              refine z_iload_n X dX12_next_263 rfl 0 rfl ?_
              obtain ⟨o99, eo99, hF⟩ := nx_e hF
              refine z_put (ws' := (w_X12_four cA h_t a_t o99)) X k_X12_next_123 tyX12 tyX12_ok nmX12 rfl rfl 0 rfl (Nat.le_of_ble_eq_true rfl) (by rw [eo99]; rfl) dX12_next_264 ?_
              refine z_aload_n X dX12_next_267 rfl 1 rfl ?_
              refine z_iload_n X dX12_next_268 rfl 2 rfl ?_
              refine z_iload_n X dX12_next_269 rfl 0 rfl ?_
              obtain ⟨K103, eK103, hF⟩ := nx_e hF
              have K103_l : ∀ (_ : Unit), K103 () = some o_t' → ZW p l e R s m args below meth c D A 4 0 0 Q (w_X12_four cA h_t a_t o99) [(2, .int k97), (3, .int x98)] 283 [.ref h_t] := by
                intro _ hF
                rw [eK103] at hF
                refine z_iload_n X dX12_next_283 rfl 0 rfl ?_
                have hF := if_e hF
                refine z_if_ne (tgt := 296) X dX12_next_284 (by decide) (fun c108 => ?_) (fun c108 => ?_)
                · have hF := hF.2 c108
                  refine z_iconst (v := (4 : Int32)) X dX12_next_296 (by decide) ?_
                  obtain ⟨o104, eo104, hF⟩ := nx_e hF
                  refine z_put (ws' := (w_X12_four cA h_t a_t o104)) X k_X12_next_113 tyX12 tyX12_ok nmX12 rfl rfl 0 rfl (Nat.le_of_ble_eq_true rfl) (by rw [eo104]; rfl) dX12_next_297 ?_
                  cases hF
                  exact z_vret X hA hQ hr dX12_next_300 (Nat.le_refl _) (Nat.le_refl _)
                · have hF := hF.1 c108
                  refine z_iload_n X dX12_next_287 rfl 1 rfl ?_
                  refine z_iconst (v := (3 : Int32)) X dX12_next_288 (by decide) ?_
                  have hF := if_e hF
                  refine z_icmp_ge (tgt := 296) X dX12_next_289 (by decide) (fun c107 => ?_) (fun c107 => ?_)
                  · have hF := hF.1 c107
                    refine z_iconst (v := (4 : Int32)) X dX12_next_296 (by decide) ?_
                    obtain ⟨o105, eo105, hF⟩ := nx_e hF
                    refine z_put (ws' := (w_X12_four cA h_t a_t o105)) X k_X12_next_113 tyX12 tyX12_ok nmX12 rfl rfl 0 rfl (Nat.le_of_ble_eq_true rfl) (by rw [eo105]; rfl) dX12_next_297 ?_
                    cases hF
                    exact z_vret X hA hQ hr dX12_next_300 (Nat.le_refl _) (Nat.le_refl _)
                  · have hF := hF.2 c107
                    refine z_iconst (v := (2 : Int32)) X dX12_next_292 (by decide) ?_
                    refine z_goto (tgt := 297) X dX12_next_293 (by decide) ?_
                    obtain ⟨o106, eo106, hF⟩ := nx_e hF
                    refine z_put (ws' := (w_X12_four cA h_t a_t o106)) X k_X12_next_113 tyX12 tyX12_ok nmX12 rfl rfl 0 rfl (Nat.le_of_ble_eq_true rfl) (by rw [eo106]; rfl) dX12_next_297 ?_
                    cases hF
                    exact z_vret X hA hQ hr dX12_next_300 (Nat.le_refl _) (Nat.le_refl _)
              have hF := if_e hF
              refine z_icmp_ne (tgt := 283) X dX12_next_270 (by decide) (fun c111 => ?_) (fun c111 => ?_)
              · have hF := hF.2 c111
                refine z_lv (lv' := [(2, .int k97), (3, .int x98)]) [2, 0] rfl ?_
                exact K103_l () hF
              · have hF := hF.1 c111
                refine z_iload_n X dX12_next_273 rfl 0 rfl ?_
                refine z_bipush (v := (7 : Int32)) X dX12_next_274 (by decide) ?_
                have hF := if_e hF
                refine z_icmp_ge (tgt := 283) X dX12_next_276 (by decide) (fun c110 => ?_) (fun c110 => ?_)
                · have hF := hF.1 c110
                  refine z_lv (lv' := [(2, .int k97), (3, .int x98)]) [2, 0] rfl ?_
                  exact K103_l () hF
                · have hF := hF.2 c110
                  refine z_iconst (v := (1 : Int32)) X dX12_next_279 (by decide) ?_
                  refine z_goto (tgt := 297) X dX12_next_280 (by decide) ?_
                  obtain ⟨o109, eo109, hF⟩ := nx_e hF
                  refine z_put (ws' := (w_X12_four cA h_t a_t o109)) X k_X12_next_113 tyX12 tyX12_ok nmX12 rfl rfl 0 rfl (Nat.le_of_ble_eq_true rfl) (by rw [eo109]; rfl) dX12_next_297 ?_
                  cases hF
                  exact z_vret X hA hQ hr dX12_next_300 (Nat.le_refl _) (Nat.le_refl _)
            obtain ⟨B163, hBB163, hL⟩ := zl2_b hL
            have L112 : ∀ (n : Nat) (o94 : Ob) (k95 : Int32), zl2 B163 n o94 k95 = some (o96, k97) → ZW p l e R s m args below meth c D A 4 0 0 Q (w_X12_four cA h_t a_t o94) [(0, .ref h_t), (2, .int k95)] 143 [] := by
              intro n
              induction n with
              | zero => intro o94 k95 hL; cases hL
              | succ n ih =>
                intro o94 k95 hL
                obtain ⟨zz113, hF, hL⟩ := zl2_e hL
                rw [hBB163] at hF
                refine z_aload_n X dX12_next_143 rfl 0 rfl ?_
                obtain ⟨r114, hc115, hF⟩ := zb1_e hF
                refine z_Vi (As := []) (rest := []) (wc := (w_X12_four cA h_t a_t o94)) (wc' := (w_X12_four cA h_t a_t o94)) (ws' := (w_X12_four cA h_t a_t o94)) (rv := r114) X (cwV 0 X.2.2.2.2.1 gX12_next_X12_peek rfl rfl rfl (by decide +kernel) (by rw [hR]; exact ⟨Nat.le_of_ble_eq_true rfl, Nat.le_of_ble_eq_true rfl⟩)) (fun sz => c_X12_peek l D cA g sz h_t a_t o94 r114 hc115) [0, 1, 2, 3, 4, 5, 6, 7, 8, 9, 10, 11, 12, 13, 14, 15, 16, 17, 18, 19, 20, 21] [1000, 1001, 1002, 1003, 1004, 1005, 1006, 1007, 1008, 1009, 1010, 1011, 1012, 1013, 1014, 1015, 1016, 1017, 1018, 1019, 1020, 1021] rfl (by decide) rfl (by decide) rfl rfl rfl rfl rfl rfl (Nat.le_of_ble_eq_true rfl) dX12_next_144 ⟨Nat.zero_le _, Nat.zero_le _⟩ ?_
                obtain ⟨r116, hc117, hF⟩ := zb1_e hF
                refine z_Si (As := [.int r114]) (rest := []) (wc := ([] : va_W)) (wc' := ([] : va_W)) (ws' := (w_X12_four cA h_t a_t o94)) (rv := r116) X (va_cwS 1 X.2.2.2.2.1 gX12_next_X12_isSmall rfl rfl rfl (by decide +kernel) (by rw [hR]; exact ⟨Nat.le_of_ble_eq_true rfl, Nat.le_of_ble_eq_true rfl⟩)) (fun sz => c_X12_isSmall l D cA g sz r114 r116 hc117) [] [0, 1, 2, 3, 4, 5, 6, 7, 8, 9, 10, 11, 12, 13, 14, 15, 16, 17, 18, 19, 20, 21] rfl (by decide) rfl (by decide) rfl rfl rfl (Nat.le_of_ble_eq_true rfl) dX12_next_147 ⟨Nat.zero_le _, Nat.zero_le _⟩ ?_
                obtain ⟨K124, eK124, hF⟩ := nx_e hF
                have K124_l : ∀ (_ : Unit), K124 () = some zz113 → ZW p l e R s m args below meth c D A 4 0 0 Q (w_X12_four cA h_t a_t o94) [(0, .ref h_t), (2, .int k95)] 163 [] := by
                  intro _ hF
                  rw [eK124] at hF
                  refine z_aload_n X dX12_next_163 rfl 0 rfl ?_
                  refine z_get (v := .int (o94 9 0)) X k_X12_next_87 0 rfl rfl dX12_next_164 ?_
                  refine z_aload_n X dX12_next_167 rfl 0 rfl ?_
                  refine z_get (v := .int (o94 10 0)) X k_X12_next_99 0 rfl rfl dX12_next_168 ?_
                  refine z_isub X dX12_next_171 ?_
                  obtain ⟨x125, ex125, hF⟩ := nx_e hF
                  refine z_nm ex125 ?_
                  refine z_istore_n (lv' := [(3, .int x125), (0, .ref h_t), (2, .int k95)]) X dX12_next_172 rfl (by decide) rfl ?_
                  refine z_iload_n X dX12_next_173 rfl 0 rfl ?_
                  refine z_bipush (v := (6 : Int32)) X dX12_next_174 (by decide) ?_
                  obtain ⟨K132, eK132, hF⟩ := nx_e hF
                  have K132_l : ∀ (q131 : Ob), K132 q131 = some zz113 → ZW p l e R s m args below meth c D A 4 0 0 Q (w_X12_four cA h_t a_t q131) [(0, .ref h_t), (2, .int k95), (3, .int x125)] 190 [] := by
                    intro q131 hF
                    rw [eK132] at hF
                    refine z_iload_n X dX12_next_190 rfl 1 rfl ?_
                    refine z_aload_n X dX12_next_191 rfl 0 rfl ?_
                    obtain ⟨r133, hc134, hF⟩ := zb1_e hF
                    refine z_Vi (As := []) (rest := [.int k95]) (wc := (w_X12_four cA h_t a_t q131)) (wc' := (w_X12_four cA h_t a_t q131)) (ws' := (w_X12_four cA h_t a_t q131)) (rv := r133) X (cwV 0 X.2.2.2.2.1 gX12_next_X12_peek rfl rfl rfl (by decide +kernel) (by rw [hR]; exact ⟨Nat.le_of_ble_eq_true rfl, Nat.le_of_ble_eq_true rfl⟩)) (fun sz => c_X12_peek l D cA g sz h_t a_t q131 r133 hc134) [0, 1, 2, 3, 4, 5, 6, 7, 8, 9, 10, 11, 12, 13, 14, 15, 16, 17, 18, 19, 20, 21] [1000, 1001, 1002, 1003, 1004, 1005, 1006, 1007, 1008, 1009, 1010, 1011, 1012, 1013, 1014, 1015, 1016, 1017, 1018, 1019, 1020, 1021] rfl (by decide) rfl (by decide) rfl rfl rfl rfl rfl rfl (Nat.le_of_ble_eq_true rfl) dX12_next_192 ⟨Nat.zero_le _, Nat.zero_le _⟩ ?_
                    obtain ⟨r135, hc136, hF⟩ := zb1_e hF
                    refine z_Si (As := [.int r133]) (rest := [.int k95]) (wc := ([] : va_W)) (wc' := ([] : va_W)) (ws' := (w_X12_four cA h_t a_t q131)) (rv := r135) X (va_cwS 1 X.2.2.2.2.1 gX12_next_X12_isSmall rfl rfl rfl (by decide +kernel) (by rw [hR]; exact ⟨Nat.le_of_ble_eq_true rfl, Nat.le_of_ble_eq_true rfl⟩)) (fun sz => c_X12_isSmall l D cA g sz r133 r135 hc136) [] [0, 1, 2, 3, 4, 5, 6, 7, 8, 9, 10, 11, 12, 13, 14, 15, 16, 17, 18, 19, 20, 21] rfl (by decide) rfl (by decide) rfl rfl rfl (Nat.le_of_ble_eq_true rfl) dX12_next_195 ⟨Nat.zero_le _, Nat.zero_le _⟩ ?_
                    obtain ⟨K139, eK139, hF⟩ := nx_e hF
                    have K139_l : ∀ (j138 : Int32), K139 j138 = some zz113 → ZW p l e R s m args below meth c D A 4 0 0 Q (w_X12_four cA h_t a_t q131) [(0, .ref h_t), (3, .int x125)] 206 [.int j138, .int k95] := by
                      intro j138 hF
                      rw [eK139] at hF
                      refine z_iadd X dX12_next_206 ?_
                      obtain ⟨x140, ex140, hF⟩ := nx_e hF
                      refine z_nm ex140 ?_
                      refine z_istore_n (lv' := [(2, .int x140), (0, .ref h_t), (3, .int x125)]) X dX12_next_207 rfl (by decide) rfl ?_
                      refine z_aload_n X dX12_next_208 rfl 1 rfl ?_
                      refine z_iload_n X dX12_next_209 rfl 2 rfl ?_
                      refine z_iconst (v := (2 : Int32)) X dX12_next_210 (by decide) ?_
                      obtain ⟨K145, eK145, hF⟩ := nx_e hF
                      have K145_l : ∀ (j144 : Int32), K145 j144 = some zz113 → ZW p l e R s m args below meth c D A 4 0 0 Q (w_X12_four cA h_t a_t q131) [(0, .ref h_t), (2, .int x140)] 236 [.int j144, .ref h_t] := by
                        intro j144 hF
                        rw [eK145] at hF
                        obtain ⟨o146, eo146, hF⟩ := nx_e hF
                        refine z_put (ws' := (w_X12_four cA h_t a_t o146)) X k_X12_next_110 tyX12 tyX12_ok nmX12 rfl rfl 0 rfl (Nat.le_of_ble_eq_true rfl) (by rw [eo146]; rfl) dX12_next_236 ?_
                        refine z_aload_n X dX12_next_239 rfl 0 rfl ?_
                        refine z_dup X dX12_next_240 rfl ?_
                        refine z_get (v := .int (o146 9 0)) X k_X12_next_87 0 rfl rfl dX12_next_241 ?_
                        refine z_iconst (v := (1 : Int32)) X dX12_next_244 (by decide) ?_
                        refine z_iadd X dX12_next_245 ?_
                        obtain ⟨o147, eo147, hF⟩ := nx_e hF
                        refine z_put (ws' := (w_X12_four cA h_t a_t o147)) X k_X12_next_87 tyX12 tyX12_ok nmX12 rfl rfl 0 rfl (Nat.le_of_ble_eq_true rfl) (by rw [eo147]; rfl) dX12_next_246 ?_
                        refine z_goto (tgt := 143) X dX12_next_249 (by decide) ?_
                        cases hF
                        refine z_lv (lv' := [(0, .ref h_t), (2, .int x140)]) [0, 1] rfl ?_
                        exact ih o147 x140 hL
                      have hF := if_e hF
                      refine z_icmp_ge (tgt := 232) X dX12_next_211 (by decide) (fun c150 => ?_) (fun c150 => ?_)
                      · have hF := hF.1 c150
                        refine z_aload_n X dX12_next_232 rfl 1 rfl ?_
                        refine z_get (v := .int (q131 12 0)) X k_X12_next_110 0 rfl rfl dX12_next_233 ?_
                        refine z_lv (lv' := [(0, .ref h_t), (2, .int x140)]) [1, 0] rfl ?_
                        exact K145_l (q131 12 0) hF
                      · have hF := hF.2 c150
                        refine z_bipush (v := (10 : Int32)) X dX12_next_214 (by decide) ?_
                        refine z_aload_n X dX12_next_216 rfl 1 rfl ?_
                        refine z_get (v := .int (q131 12 0)) X k_X12_next_110 0 rfl rfl dX12_next_217 ?_
                        refine z_imul X dX12_next_220 ?_
                        refine z_aload_n X dX12_next_221 rfl 1 rfl ?_
                        obtain ⟨r148, hc149, hF⟩ := zb1_e hF
                        refine z_Vi (As := []) (rest := [.int ((10 : Int32) * (q131 12 0)), .ref h_t]) (wc := (w_X12_four cA h_t a_t q131)) (wc' := (w_X12_four cA h_t a_t q131)) (ws' := (w_X12_four cA h_t a_t q131)) (rv := r148) X (cwV 0 X.2.2.2.2.1 gX12_next_X12_peek rfl rfl rfl (by decide +kernel) (by rw [hR]; exact ⟨Nat.le_of_ble_eq_true rfl, Nat.le_of_ble_eq_true rfl⟩)) (fun sz => c_X12_peek l D cA g sz h_t a_t q131 r148 hc149) [0, 1, 2, 3, 4, 5, 6, 7, 8, 9, 10, 11, 12, 13, 14, 15, 16, 17, 18, 19, 20, 21] [1000, 1001, 1002, 1003, 1004, 1005, 1006, 1007, 1008, 1009, 1010, 1011, 1012, 1013, 1014, 1015, 1016, 1017, 1018, 1019, 1020, 1021] rfl (by decide) rfl (by decide) rfl rfl rfl rfl rfl rfl (Nat.le_of_ble_eq_true rfl) dX12_next_222 ⟨Nat.zero_le _, Nat.zero_le _⟩ ?_
                        refine z_iadd X dX12_next_225 ?_
                        refine z_bipush (v := (48 : Int32)) X dX12_next_226 (by decide) ?_
                        refine z_isub X dX12_next_228 ?_
                        refine z_goto (tgt := 236) X dX12_next_229 (by decide) ?_
                        refine z_lv (lv' := [(0, .ref h_t), (2, .int x140)]) [1, 0] rfl ?_
                        exact K145_l ((((10 : Int32) * (q131 12 0)) + r148) - (48 : Int32)) hF
                    have hF := if_e hF
                    refine z_if_eq (tgt := 205) X dX12_next_198 (by decide) (fun c151 => ?_) (fun c151 => ?_)
                    · have hF := hF.1 c151
                      refine z_iconst (v := (0 : Int32)) X dX12_next_205 (by decide) ?_
                      refine z_lv (lv' := [(0, .ref h_t), (3, .int x125)]) [0, 2] rfl ?_
                      exact K139_l (0 : Int32) hF
                    · have hF := hF.2 c151
                      refine z_iconst (v := (1 : Int32)) X dX12_next_201 (by decide) ?_
                      refine z_goto (tgt := 206) X dX12_next_202 (by decide) ?_
                      refine z_lv (lv' := [(0, .ref h_t), (3, .int x125)]) [0, 2] rfl ?_
                      exact K139_l (1 : Int32) hF
                  have hF := if_e hF
                  refine z_icmp_ge (tgt := 190) X dX12_next_176 (by decide) (fun c156 => ?_) (fun c156 => ?_)
                  · have hF := hF.1 c156
                    refine z_lv (lv' := [(0, .ref h_t), (2, .int k95), (3, .int x125)]) [1, 2, 0] rfl ?_
                    exact K132_l o94 hF
                  · have hF := hF.2 c156
                    refine z_aload_n X dX12_next_179 rfl 1 rfl ?_
                    refine z_get (v := .ref (a_t 15)) X k_X12_next_30 0 rfl rfl dX12_next_180 ?_
                    refine z_iload_n X dX12_next_183 rfl 0 rfl ?_
                    refine z_aload_n X dX12_next_184 rfl 1 rfl ?_
                    obtain ⟨r152, hc153, hF⟩ := zb1_e hF
                    refine z_Vi (As := []) (rest := [.int x125, .ref (a_t 15)]) (wc := (w_X12_four cA h_t a_t o94)) (wc' := (w_X12_four cA h_t a_t o94)) (ws' := (w_X12_four cA h_t a_t o94)) (rv := r152) X (cwV 0 X.2.2.2.2.1 gX12_next_X12_peek rfl rfl rfl (by decide +kernel) (by rw [hR]; exact ⟨Nat.le_of_ble_eq_true rfl, Nat.le_of_ble_eq_true rfl⟩)) (fun sz => c_X12_peek l D cA g sz h_t a_t o94 r152 hc153) [0, 1, 2, 3, 4, 5, 6, 7, 8, 9, 10, 11, 12, 13, 14, 15, 16, 17, 18, 19, 20, 21] [1000, 1001, 1002, 1003, 1004, 1005, 1006, 1007, 1008, 1009, 1010, 1011, 1012, 1013, 1014, 1015, 1016, 1017, 1018, 1019, 1020, 1021] rfl (by decide) rfl (by decide) rfl rfl rfl rfl rfl rfl (Nat.le_of_ble_eq_true rfl) dX12_next_185 ⟨Nat.zero_le _, Nat.zero_le _⟩ ?_
                    refine z_i2b X dX12_next_188 ?_
                    obtain ⟨g154, hF⟩ := gi_e hF
                    obtain ⟨o155, eo155, hF⟩ := nx_e hF
                    refine z_bast (ws' := (w_X12_four cA h_t a_t o155)) X 7 rfl g154 (by rw [eo155]; rfl) dX12_next_189 ?_
                    refine z_lv (lv' := [(0, .ref h_t), (2, .int k95), (3, .int x125)]) [1, 2, 0] rfl ?_
                    exact K132_l o155 hF
                have hF := if_e hF
                refine z_if_ne (tgt := 163) X dX12_next_150 (by decide) (fun c162 => ?_) (fun c162 => ?_)
                · have hF := hF.2 c162
                  refine z_lv (lv' := [(0, .ref h_t), (2, .int k95)]) [0, 1] rfl ?_
                  exact K124_l () hF
                · have hF := hF.1 c162
                  refine z_aload_n X dX12_next_153 rfl 0 rfl ?_
                  obtain ⟨r157, hc158, hF⟩ := zb1_e hF
                  refine z_Vi (As := []) (rest := []) (wc := (w_X12_four cA h_t a_t o94)) (wc' := (w_X12_four cA h_t a_t o94)) (ws' := (w_X12_four cA h_t a_t o94)) (rv := r157) X (cwV 0 X.2.2.2.2.1 gX12_next_X12_peek rfl rfl rfl (by decide +kernel) (by rw [hR]; exact ⟨Nat.le_of_ble_eq_true rfl, Nat.le_of_ble_eq_true rfl⟩)) (fun sz => c_X12_peek l D cA g sz h_t a_t o94 r157 hc158) [0, 1, 2, 3, 4, 5, 6, 7, 8, 9, 10, 11, 12, 13, 14, 15, 16, 17, 18, 19, 20, 21] [1000, 1001, 1002, 1003, 1004, 1005, 1006, 1007, 1008, 1009, 1010, 1011, 1012, 1013, 1014, 1015, 1016, 1017, 1018, 1019, 1020, 1021] rfl (by decide) rfl (by decide) rfl rfl rfl rfl rfl rfl (Nat.le_of_ble_eq_true rfl) dX12_next_154 ⟨Nat.zero_le _, Nat.zero_le _⟩ ?_
                  obtain ⟨r159, hc160, hF⟩ := zb1_e hF
                  refine z_Si (As := [.int r157]) (rest := []) (wc := ([] : va_W)) (wc' := ([] : va_W)) (ws' := (w_X12_four cA h_t a_t o94)) (rv := r159) X (va_cwS 1 X.2.2.2.2.1 gX12_next_X12_isDigit rfl rfl rfl (by decide +kernel) (by rw [hR]; exact ⟨Nat.le_of_ble_eq_true rfl, Nat.le_of_ble_eq_true rfl⟩)) (fun sz => c_X12_isDigit l D cA g sz r157 r159 hc160) [] [0, 1, 2, 3, 4, 5, 6, 7, 8, 9, 10, 11, 12, 13, 14, 15, 16, 17, 18, 19, 20, 21] rfl (by decide) rfl (by decide) rfl rfl rfl (Nat.le_of_ble_eq_true rfl) dX12_next_157 ⟨Nat.zero_le _, Nat.zero_le _⟩ ?_
                  have hF := if_e hF
                  refine z_if_eq (tgt := 252) X dX12_next_160 (by decide) (fun c161 => ?_) (fun c161 => ?_)
                  · have hF := hF.1 c161
                    cases hF
                    have hL := Option.some.inj hL
                    refine z_lv (lv' := [(0, .ref h_t), (2, .int k95)]) [0, 1] rfl ?_
                    exact L112_x o94 k95 hL
                  · have hF := hF.2 c161
                    refine z_lv (lv' := [(0, .ref h_t), (2, .int k95)]) [0, 1] rfl ?_
                    exact K124_l () hF
            refine z_lv (lv' := [(0, .ref h_t), (2, .int j33)]) [0, 2] rfl ?_
            exact L112 FU o42 j33 hL
          have hF := if_e hF
          refine z_if_eq (tgt := 131) X dX12_next_121 (by decide) (fun c164 => ?_) (fun c164 => ?_)
          · have hF := hF.1 c164
            refine z_iconst (v := (0 : Int32)) X dX12_next_131 (by decide) ?_
            refine z_lv (lv' := [(0, .ref h_t), (1, .int r9), (2, .int j33)]) [1, 2, 0] rfl ?_
            exact K39_l (0 : Int32) hF
          · have hF := hF.2 c164
            refine z_iload_n X dX12_next_124 rfl 2 rfl ?_
            refine z_bipush (v := (48 : Int32)) X dX12_next_125 (by decide) ?_
            refine z_isub X dX12_next_127 ?_
            refine z_goto (tgt := 132) X dX12_next_128 (by decide) ?_
            refine z_lv (lv' := [(0, .ref h_t), (1, .int r9), (2, .int j33)]) [1, 2, 0] rfl ?_
            exact K39_l (r9 - (48 : Int32)) hF
        have hF := if_e hF
        refine z_if_eq (tgt := 114) X dX12_next_107 (by decide) (fun c165 => ?_) (fun c165 => ?_)
        · have hF := hF.1 c165
          refine z_iconst (v := (0 : Int32)) X dX12_next_114 (by decide) ?_
          refine z_lv (lv' := [(0, .ref h_t), (1, .int r9)]) [0, 1] rfl ?_
          exact K34_l (0 : Int32) hF
        · have hF := hF.2 c165
          refine z_iconst (v := (1 : Int32)) X dX12_next_110 (by decide) ?_
          refine z_goto (tgt := 115) X dX12_next_111 (by decide) ?_
          refine z_lv (lv' := [(0, .ref h_t), (1, .int r9)]) [0, 1] rfl ?_
          exact K34_l (1 : Int32) hF
      have hF := if_e hF
      refine z_if_ne (tgt := 103) X dX12_next_65 (by decide) (fun c179 => ?_) (fun c179 => ?_)
      · have hF := hF.2 c179
        refine z_lv (lv' := [(0, .ref h_t), (1, .int r9)]) [1, 0] rfl ?_
        exact K29_l () hF
      · have hF := hF.1 c179
        refine z_iload_n X dX12_next_68 rfl 0 rfl ?_
        obtain ⟨r166, hc167, hF⟩ := zb1_e hF
        refine z_Si (As := [.int r9]) (rest := []) (wc := ([] : va_W)) (wc' := ([] : va_W)) (ws' := (w_X12_four cA h_t a_t o12)) (rv := r166) X (va_cwS 1 X.2.2.2.2.1 gX12_next_X12_isDigit rfl rfl rfl (by decide +kernel) (by rw [hR]; exact ⟨Nat.le_of_ble_eq_true rfl, Nat.le_of_ble_eq_true rfl⟩)) (fun sz => c_X12_isDigit l D cA g sz r9 r166 hc167) [] [0, 1, 2, 3, 4, 5, 6, 7, 8, 9, 10, 11, 12, 13, 14, 15, 16, 17, 18, 19, 20, 21] rfl (by decide) rfl (by decide) rfl rfl rfl (Nat.le_of_ble_eq_true rfl) dX12_next_69 ⟨Nat.zero_le _, Nat.zero_le _⟩ ?_
        have hF := if_e hF
        refine z_if_ne (tgt := 103) X dX12_next_72 (by decide) (fun c178 => ?_) (fun c178 => ?_)
        · have hF := hF.2 c178
          refine z_lv (lv' := [(0, .ref h_t), (1, .int r9)]) [1, 0] rfl ?_
          exact K29_l () hF
        · have hF := hF.1 c178
          refine z_aload_n X dX12_next_75 rfl 1 rfl ?_
          refine z_iload_n X dX12_next_76 rfl 0 rfl ?_
          refine z_bipush (v := (59 : Int32)) X dX12_next_77 (by decide) ?_
          obtain ⟨K172, eK172, hF⟩ := nx_e hF
          have K172_l : ∀ (_ : Unit), K172 () = some o_t' → ZW p l e R s m args below meth c D A 4 0 0 Q (w_X12_four cA h_t a_t o12) [] 94 [.ref h_t] := by
            intro _ hF
            rw [eK172] at hF
            refine z_iconst (v := (3 : Int32)) X dX12_next_94 (by decide) ?_
            refine z_goto (tgt := 99) X dX12_next_95 (by decide) ?_
            obtain ⟨o173, eo173, hF⟩ := nx_e hF
            refine z_put (ws' := (w_X12_four cA h_t a_t o173)) X k_X12_next_113 tyX12 tyX12_ok nmX12 rfl rfl 0 rfl (Nat.le_of_ble_eq_true rfl) (by rw [eo173]; rfl) dX12_next_99 ?_
            cases hF
            exact z_vret X hA hQ hr dX12_next_102 (Nat.le_refl _) (Nat.le_refl _)
          have hF := if_e hF
          refine z_icmp_eq (tgt := 94) X dX12_next_79 (by decide) (fun c177 => ?_) (fun c177 => ?_)
          · have hF := hF.1 c177
            refine z_lv (lv' := []) [] rfl ?_
            exact K172_l () hF
          · have hF := hF.2 c177
            refine z_iload_n X dX12_next_82 rfl 0 rfl ?_
            refine z_bipush (v := (91 : Int32)) X dX12_next_83 (by decide) ?_
            have hF := if_e hF
            refine z_icmp_eq (tgt := 94) X dX12_next_85 (by decide) (fun c176 => ?_) (fun c176 => ?_)
            · have hF := hF.1 c176
              refine z_lv (lv' := []) [] rfl ?_
              exact K172_l () hF
            · have hF := hF.2 c176
              refine z_iload_n X dX12_next_88 rfl 0 rfl ?_
              refine z_bipush (v := (93 : Int32)) X dX12_next_89 (by decide) ?_
              have hF := if_e hF
              refine z_icmp_ne (tgt := 98) X dX12_next_91 (by decide) (fun c175 => ?_) (fun c175 => ?_)
              · have hF := hF.2 c175
                refine z_iconst (v := (4 : Int32)) X dX12_next_98 (by decide) ?_
                obtain ⟨o174, eo174, hF⟩ := nx_e hF
                refine z_put (ws' := (w_X12_four cA h_t a_t o174)) X k_X12_next_113 tyX12 tyX12_ok nmX12 rfl rfl 0 rfl (Nat.le_of_ble_eq_true rfl) (by rw [eo174]; rfl) dX12_next_99 ?_
                cases hF
                exact z_vret X hA hQ hr dX12_next_102 (Nat.le_refl _) (Nat.le_refl _)
              · have hF := hF.1 c175
                refine z_lv (lv' := []) [] rfl ?_
                exact K172_l () hF
    · have hF := hF.1 c181
      refine z_aload_n X dX12_next_45 rfl 1 rfl ?_
      refine z_iconst (v := (0 : Int32)) X dX12_next_46 (by decide) ?_
      obtain ⟨o180, eo180, hF⟩ := nx_e hF
      refine z_put (ws' := (w_X12_four cA h_t a_t o180)) X k_X12_next_113 tyX12 tyX12_ok nmX12 rfl rfl 0 rfl (Nat.le_of_ble_eq_true rfl) (by rw [eo180]; rfl) dX12_next_47 ?_
      cases hF
      exact z_vret X hA hQ hr dX12_next_50 (Nat.le_refl _) (Nat.le_refl _)
  obtain ⟨B188, hBB188, hL⟩ := zl1_b hL
  have L182 : ∀ (n : Nat) (o6 : Ob), zl1 B188 n o6 = some o7 → ZW p l e R s m args below meth c D A 4 0 0 Q (w_X12_four cA h_t a_t o6) [(0, .ref h_t)] 0 [] := by
    intro n
    induction n with
    | zero => intro o6 hL; cases hL
    | succ n ih =>
      intro o6 hL
      obtain ⟨zz183, hF, hL⟩ := zl1_e hL
      rw [hBB188] at hF
      refine z_aload_n X dX12_next_0 rfl 0 rfl ?_
      obtain ⟨r184, hc185, hF⟩ := zb1_e hF
      refine z_Vi (As := []) (rest := []) (wc := (w_X12_four cA h_t a_t o6)) (wc' := (w_X12_four cA h_t a_t o6)) (ws' := (w_X12_four cA h_t a_t o6)) (rv := r184) X (cwV 0 X.2.2.2.2.1 gX12_next_X12_peek rfl rfl rfl (by decide +kernel) (by rw [hR]; exact ⟨Nat.le_of_ble_eq_true rfl, Nat.le_of_ble_eq_true rfl⟩)) (fun sz => c_X12_peek l D cA g sz h_t a_t o6 r184 hc185) [0, 1, 2, 3, 4, 5, 6, 7, 8, 9, 10, 11, 12, 13, 14, 15, 16, 17, 18, 19, 20, 21] [1000, 1001, 1002, 1003, 1004, 1005, 1006, 1007, 1008, 1009, 1010, 1011, 1012, 1013, 1014, 1015, 1016, 1017, 1018, 1019, 1020, 1021] rfl (by decide) rfl (by decide) rfl rfl rfl rfl rfl rfl (Nat.le_of_ble_eq_true rfl) dX12_next_1 ⟨Nat.zero_le _, Nat.zero_le _⟩ ?_
      refine z_bipush (v := (32 : Int32)) X dX12_next_4 (by decide) ?_
      have hF := if_e hF
      refine z_icmp_ne (tgt := 22) X dX12_next_6 (by decide) (fun c187 => ?_) (fun c187 => ?_)
      · have hF := hF.2 c187
        cases hF
        have hL := Option.some.inj hL
        refine z_lv (lv' := [(0, .ref h_t)]) [0] rfl ?_
        exact L182_x o6 hL
      · have hF := hF.1 c187
        refine z_aload_n X dX12_next_9 rfl 0 rfl ?_
        refine z_dup X dX12_next_10 rfl ?_
        refine z_get (v := .int (o6 9 0)) X k_X12_next_87 0 rfl rfl dX12_next_11 ?_
        refine z_iconst (v := (1 : Int32)) X dX12_next_14 (by decide) ?_
        refine z_iadd X dX12_next_15 ?_
        obtain ⟨o186, eo186, hF⟩ := nx_e hF
        refine z_put (ws' := (w_X12_four cA h_t a_t o186)) X k_X12_next_87 tyX12 tyX12_ok nmX12 rfl rfl 0 rfl (Nat.le_of_ble_eq_true rfl) (by rw [eo186]; rfl) dX12_next_16 ?_
        refine z_goto (tgt := 0) X dX12_next_19 (by decide) ?_
        cases hF
        refine z_lv (lv' := [(0, .ref h_t)]) [0] rfl ?_
        exact ih o186 hL
  refine z_lv (lv' := [(0, .ref h_t)]) [0] rfl ?_
  exact L182 FU o_t hL
set_option maxRecDepth 20000 in
theorem h_X12_isKnown_X12 : ∀ w ∈ wsX120, w ∈ wsX12_isKnown := by decide +kernel
set_option maxRecDepth 20000 in
theorem k_X12_isKnown_30 : ZF wsX12_isKnown RX12 30 12 15 RX12 TX12 47 := ⟨rfl, by decide, h_X12_isKnown_X12, by decide +kernel⟩
set_option maxRecDepth 20000 in
theorem k_X12_isKnown_113 : ZF wsX12_isKnown RX12 113 12 11 RX12 TX12 47 := ⟨rfl, by decide, h_X12_isKnown_X12, by decide +kernel⟩
set_option maxRecDepth 20000 in
theorem k_X12_isKnown_123 : ZF wsX12_isKnown RX12 123 12 16 RX12 TX12 47 := ⟨rfl, by decide, h_X12_isKnown_X12, by decide +kernel⟩
set_option maxRecDepth 20000 in
theorem k_X12_isKnown_s126 : Cond.fieldLink RX12 126 "TwoTierStoreModel" "KNOWN" "[B" ∈ wsX12_isKnown := by decide +kernel
set_option maxHeartbeats 8000000 in
set_option maxRecDepth 100000 in
theorem c_X12_isKnown (l : Launch) (D : va_G) (cA : Nat → ClassId) (g : Nat → Nat) (sz : Nat) (h_t : Nat) (a_t : Nat → Nat) (o_t : Ob) (v1 : Int32) (rv : Int32) (hF : f_X12_isKnown o_t v1 = some rv) : Met l yX12_isKnown wsX12_isKnown ({ frames := 0, cells := 0, slots := 0, locals := 0 }) (va_Pc [.ref h_t, .int v1] (PreW D cA g sz (w_X12_four cA h_t a_t o_t))) (va_Qi (fun (r : Int32) (_ : Unit) => r = rv) (PostW D cA sz (w_X12_four cA h_t a_t o_t) (w_X12_four cA h_t a_t o_t)) (va_A (w_X12_four cA h_t a_t o_t) sz)) 0 0 (va_A (w_X12_four cA h_t a_t o_t) sz) := by
  refine z_start (cc := cX12_isKnown) (maxL := 4) (ret := (some .boolean)) (lv0 := [(0, .ref h_t), (1, .int v1)]) (Qc := fun sz => va_Qi (fun (r : Int32) (_ : Unit) => r = rv) (PostW D cA sz (w_X12_four cA h_t a_t o_t) (w_X12_four cA h_t a_t o_t)) (va_A (w_X12_four cA h_t a_t o_t) sz)) (free := fun sz => va_A (w_X12_four cA h_t a_t o_t) sz) (by decide +kernel) rfl rfl (Nat.le_of_ble_eq_true rfl) ?_
  intro p e R s m args below meth c A Q hR hA hQ X hr hin
  unfold f_X12_isKnown at hF
  refine z_aload_n X dX12_isKnown_0 rfl 0 rfl ?_
  refine z_get (v := .int (o_t 11 0)) X k_X12_isKnown_113 0 rfl rfl dX12_isKnown_1 ?_
  refine z_iconst (v := (1 : Int32)) X dX12_isKnown_4 (by decide) ?_
  obtain ⟨K11, eK11, hF⟩ := nx_e hF
  have K11_l : ∀ (j10 : Int32), K11 j10 = some rv → ZW p l e R s m args below meth c D A 4 0 0 Q (w_X12_four cA h_t a_t o_t) [(0, .ref h_t), (1, .int v1)] 30 [.int j10] := by
    intro j10 hF
    rw [eK11] at hF
    refine z_istore_n (lv' := [(2, .int j10), (0, .ref h_t), (1, .int v1)]) X dX12_isKnown_30 rfl (by decide) rfl ?_
    refine z_iconst (v := (0 : Int32)) X dX12_isKnown_31 (by decide) ?_
    refine z_istore_n (lv' := [(3, .int (0 : Int32)), (2, .int j10), (0, .ref h_t), (1, .int v1)]) X dX12_isKnown_32 rfl (by decide) rfl ?_
    obtain ⟨k24, hL, hF⟩ := zb1_e hF
    have L26_x : ∀ (k24' : Int32), k24' = k24 → ZW p l e R s m args below meth c D A 4 0 0 Q (w_X12_four cA h_t a_t o_t) [(2, .int k24')] 75 [] := by
      intro k24' hz
      cases hz
      refine z_iload_n X dX12_isKnown_75 rfl 0 rfl ?_
      obtain ⟨g25, hF⟩ := gz_e hF
      cases hF
      exact z_zret X hA hQ hr g25  rfl dX12_isKnown_76 (Nat.le_refl _) (Nat.le_refl _)
    obtain ⟨B35, hBB35, hL⟩ := zl2_b hL
    have L26 : ∀ (n : Nat) (k22 : Int32) (k23 : Int32), zl2 B35 n k22 k23 = some k24 → ZW p l e R s m args below meth c D A 4 0 0 Q (w_X12_four cA h_t a_t o_t) [(0, .ref h_t), (1, .int v1), (2, .int k22), (3, .int k23)] 33 [] := by
      intro n
      induction n with
      | zero => intro k22 k23 hL; cases hL
      | succ n ih =>
        intro k22 k23 hL
        obtain ⟨zz27, hF, hL⟩ := zl2_e hL
        rw [hBB35] at hF
        refine z_iload_n X dX12_isKnown_33 rfl 3 rfl ?_
        refine z_aload_n X dX12_isKnown_34 rfl 0 rfl ?_
        refine z_get (v := .int (o_t 16 0)) X k_X12_isKnown_123 0 rfl rfl dX12_isKnown_35 ?_
        have hF := if_e hF
        refine z_icmp_ge (tgt := 75) X dX12_isKnown_38 (by decide) (fun c34 => ?_) (fun c34 => ?_)
        · have hF := hF.1 c34
          cases hF
          have hL := Option.some.inj hL
          refine z_lv (lv' := [(2, .int k22)]) [2] rfl ?_
          exact L26_x k22 hL
        · have hF := hF.2 c34
          refine z_iload_n X dX12_isKnown_41 rfl 2 rfl ?_
          have hF := if_e hF
          refine z_if_eq (tgt := 75) X dX12_isKnown_42 (by decide) (fun c33 => ?_) (fun c33 => ?_)
          · have hF := hF.1 c33
            cases hF
            have hL := Option.some.inj hL
            refine z_lv (lv' := [(2, .int k22)]) [2] rfl ?_
            exact L26_x k22 hL
          · have hF := hF.2 c33
            refine z_aload_n X dX12_isKnown_45 rfl 0 rfl ?_
            refine z_get (v := .ref (a_t 15)) X k_X12_isKnown_30 0 rfl rfl dX12_isKnown_46 ?_
            refine z_iload_n X dX12_isKnown_49 rfl 3 rfl ?_
            obtain ⟨g28, hF⟩ := gi_e hF
            refine z_bald X 7 rfl g28 dX12_isKnown_50 ?_
            refine z_kn X k_X12_isKnown_s126 dX12_isKnown_51 ?_
            refine z_iconst (v := (5 : Int32)) X dX12_isKnown_54 (by decide) ?_
            refine z_iload_n X dX12_isKnown_55 rfl 1 rfl ?_
            refine z_imul X dX12_isKnown_56 ?_
            refine z_iload_n X dX12_isKnown_57 rfl 3 rfl ?_
            refine z_iadd X dX12_isKnown_58 ?_
            obtain ⟨g29, hF⟩ := gi_e hF
            refine z_knb X g29 dX12_isKnown_59 ?_
            have hF := if_e hF
            refine z_icmp_ne (tgt := 67) X dX12_isKnown_60 (by decide) (fun c32 => ?_) (fun c32 => ?_)
            · have hF := hF.2 c32
              refine z_iconst (v := (0 : Int32)) X dX12_isKnown_67 (by decide) ?_
              refine z_istore_n (lv' := [(2, .int (0 : Int32)), (0, .ref h_t), (1, .int v1), (3, .int k23)]) X dX12_isKnown_68 rfl (by decide) rfl ?_
              obtain ⟨x30, ex30, hF⟩ := nx_e hF
              refine z_iinc (v := x30) (lv' := [(3, .int x30), (2, .int (0 : Int32)), (0, .ref h_t), (1, .int v1)]) (j := 3) X dX12_isKnown_69 rfl (by rw [ex30]; rfl) (by decide) rfl ?_
              refine z_goto (tgt := 33) X dX12_isKnown_72 (by decide) ?_
              cases hF
              refine z_lv (lv' := [(0, .ref h_t), (1, .int v1), (2, .int (0 : Int32)), (3, .int x30)]) [2, 3, 1, 0] rfl ?_
              exact ih (0 : Int32) x30 hL
            · have hF := hF.1 c32
              refine z_iconst (v := (1 : Int32)) X dX12_isKnown_63 (by decide) ?_
              refine z_goto (tgt := 68) X dX12_isKnown_64 (by decide) ?_
              refine z_istore_n (lv' := [(2, .int (1 : Int32)), (0, .ref h_t), (1, .int v1), (3, .int k23)]) X dX12_isKnown_68 rfl (by decide) rfl ?_
              obtain ⟨x31, ex31, hF⟩ := nx_e hF
              refine z_iinc (v := x31) (lv' := [(3, .int x31), (2, .int (1 : Int32)), (0, .ref h_t), (1, .int v1)]) (j := 3) X dX12_isKnown_69 rfl (by rw [ex31]; rfl) (by decide) rfl ?_
              refine z_goto (tgt := 33) X dX12_isKnown_72 (by decide) ?_
              cases hF
              refine z_lv (lv' := [(0, .ref h_t), (1, .int v1), (2, .int (1 : Int32)), (3, .int x31)]) [2, 3, 1, 0] rfl ?_
              exact ih (1 : Int32) x31 hL
    refine z_lv (lv' := [(0, .ref h_t), (1, .int v1), (2, .int j10), (3, .int (0 : Int32))]) [2, 3, 1, 0] rfl ?_
    exact L26 FU j10 (0 : Int32) hL
  obtain ⟨K5, eK5, hF⟩ := nx_e hF
  have K5_l : ∀ (_ : Unit), K5 () = some rv → ZW p l e R s m args below meth c D A 4 0 0 Q (w_X12_four cA h_t a_t o_t) [(0, .ref h_t), (1, .int v1)] 29 [] := by
    intro _ hF
    rw [eK5] at hF
    refine z_iconst (v := (0 : Int32)) X dX12_isKnown_29 (by decide) ?_
    refine z_lv (lv' := [(0, .ref h_t), (1, .int v1)]) [0, 1] rfl ?_
    exact K11_l (0 : Int32) hF
  have hF := if_e hF
  refine z_icmp_ne (tgt := 29) X dX12_isKnown_5 (by decide) (fun c39 => ?_) (fun c39 => ?_)
  · have hF := hF.2 c39
    refine z_lv (lv' := [(0, .ref h_t), (1, .int v1)]) [0, 1] rfl ?_
    exact K5_l () hF
  · have hF := hF.1 c39
    refine z_aload_n X dX12_isKnown_8 rfl 0 rfl ?_
    refine z_get (v := .int (o_t 16 0)) X k_X12_isKnown_123 0 rfl rfl dX12_isKnown_9 ?_
    refine z_iload_n X dX12_isKnown_12 rfl 1 rfl ?_
    refine z_iconst (v := (3 : Int32)) X dX12_isKnown_13 (by decide) ?_
    have hF := if_e hF
    refine z_icmp_ne (tgt := 21) X dX12_isKnown_14 (by decide) (fun c38 => ?_) (fun c38 => ?_)
    · have hF := hF.2 c38
      refine z_iconst (v := (4 : Int32)) X dX12_isKnown_21 (by decide) ?_
      have hF := if_e hF
      refine z_icmp_ne (tgt := 29) X dX12_isKnown_22 (by decide) (fun c36 => ?_) (fun c36 => ?_)
      · have hF := hF.2 c36
        refine z_lv (lv' := [(0, .ref h_t), (1, .int v1)]) [0, 1] rfl ?_
        exact K5_l () hF
      · have hF := hF.1 c36
        refine z_iconst (v := (1 : Int32)) X dX12_isKnown_25 (by decide) ?_
        refine z_goto (tgt := 30) X dX12_isKnown_26 (by decide) ?_
        refine z_lv (lv' := [(0, .ref h_t), (1, .int v1)]) [0, 1] rfl ?_
        exact K11_l (1 : Int32) hF
    · have hF := hF.1 c38
      refine z_iconst (v := (5 : Int32)) X dX12_isKnown_17 (by decide) ?_
      refine z_goto (tgt := 22) X dX12_isKnown_18 (by decide) ?_
      have hF := if_e hF
      refine z_icmp_ne (tgt := 29) X dX12_isKnown_22 (by decide) (fun c37 => ?_) (fun c37 => ?_)
      · have hF := hF.2 c37
        refine z_lv (lv' := [(0, .ref h_t), (1, .int v1)]) [0, 1] rfl ?_
        exact K5_l () hF
      · have hF := hF.1 c37
        refine z_iconst (v := (1 : Int32)) X dX12_isKnown_25 (by decide) ?_
        refine z_goto (tgt := 30) X dX12_isKnown_26 (by decide) ?_
        refine z_lv (lv' := [(0, .ref h_t), (1, .int v1)]) [0, 1] rfl ?_
        exact K11_l (1 : Int32) hF
set_option maxRecDepth 20000 in
theorem h_X12_isName_X12 : ∀ w ∈ wsX120, w ∈ wsX12_isName := by decide +kernel
set_option maxRecDepth 20000 in
theorem k_X12_isName_113 : ZF wsX12_isName RX12 113 12 11 RX12 TX12 47 := ⟨rfl, by decide, h_X12_isName_X12, by decide +kernel⟩
set_option maxHeartbeats 8000000 in
set_option maxRecDepth 100000 in
theorem c_X12_isName (l : Launch) (D : va_G) (cA : Nat → ClassId) (g : Nat → Nat) (sz : Nat) (h_t : Nat) (a_t : Nat → Nat) (o_t : Ob)  (rv : Int32) (hF : f_X12_isName o_t = some rv) : Met l yX12_isName wsX12_isName ({ frames := 1, cells := 0, slots := 0, locals := 23 }) (va_Pc [.ref h_t] (PreW D cA g sz (w_X12_four cA h_t a_t o_t))) (va_Qi (fun (r : Int32) (_ : Unit) => r = rv) (PostW D cA sz (w_X12_four cA h_t a_t o_t) (w_X12_four cA h_t a_t o_t)) (va_A (w_X12_four cA h_t a_t o_t) sz)) 0 0 (va_A (w_X12_four cA h_t a_t o_t) sz) := by
  refine z_start (cc := cX12_isName) (maxL := 3) (ret := (some .boolean)) (lv0 := [(0, .ref h_t)]) (Qc := fun sz => va_Qi (fun (r : Int32) (_ : Unit) => r = rv) (PostW D cA sz (w_X12_four cA h_t a_t o_t) (w_X12_four cA h_t a_t o_t)) (va_A (w_X12_four cA h_t a_t o_t) sz)) (free := fun sz => va_A (w_X12_four cA h_t a_t o_t) sz) (by decide +kernel) rfl rfl (Nat.le_of_ble_eq_true rfl) ?_
  intro p e R s m args below meth c A Q hR hA hQ X hr hin
  unfold f_X12_isName at hF
  refine z_aload_n X dX12_isName_0 rfl 0 rfl ?_
  refine z_get (v := .int (o_t 11 0)) X k_X12_isName_113 0 rfl rfl dX12_isName_1 ?_
  refine z_iconst (v := (1 : Int32)) X dX12_isName_4 (by decide) ?_
  obtain ⟨K3, eK3, hF⟩ := nx_e hF
  have K3_l : ∀ (j2 : Int32), K3 j2 = some rv → ZW p l e R s m args below meth c D A 3 0 0 Q (w_X12_four cA h_t a_t o_t) [(0, .ref h_t)] 13 [.int j2] := by
    intro j2 hF
    rw [eK3] at hF
    refine z_istore_n (lv' := [(1, .int j2), (0, .ref h_t)]) X dX12_isName_13 rfl (by decide) rfl ?_
    refine z_iconst (v := (0 : Int32)) X dX12_isName_14 (by decide) ?_
    refine z_istore_n (lv' := [(2, .int (0 : Int32)), (1, .int j2), (0, .ref h_t)]) X dX12_isName_15 rfl (by decide) rfl ?_
    obtain ⟨k22, hL, hF⟩ := zb1_e hF
    have L24_x : ∀ (k22' : Int32), k22' = k22 → ZW p l e R s m args below meth c D A 3 0 0 Q (w_X12_four cA h_t a_t o_t) [(1, .int k22')] 45 [] := by
      intro k22' hz
      cases hz
      refine z_iload_n X dX12_isName_45 rfl 0 rfl ?_
      obtain ⟨g23, hF⟩ := gz_e hF
      cases hF
      exact z_zret X hA hQ hr g23  rfl dX12_isName_46 (Nat.le_refl _) (Nat.le_refl _)
    obtain ⟨B39, hBB39, hL⟩ := zl2_b hL
    have L24 : ∀ (n : Nat) (k20 : Int32) (k21 : Int32), zl2 B39 n k20 k21 = some k22 → ZW p l e R s m args below meth c D A 3 0 0 Q (w_X12_four cA h_t a_t o_t) [(0, .ref h_t), (1, .int k20), (2, .int k21)] 16 [] := by
      intro n
      induction n with
      | zero => intro k20 k21 hL; cases hL
      | succ n ih =>
        intro k20 k21 hL
        obtain ⟨zz25, hF, hL⟩ := zl2_e hL
        rw [hBB39] at hF
        refine z_iload_n X dX12_isName_16 rfl 2 rfl ?_
        refine z_iconst (v := (4 : Int32)) X dX12_isName_17 (by decide) ?_
        have hF := if_e hF
        refine z_icmp_ge (tgt := 45) X dX12_isName_18 (by decide) (fun c38 => ?_) (fun c38 => ?_)
        · have hF := hF.1 c38
          cases hF
          have hL := Option.some.inj hL
          refine z_lv (lv' := [(1, .int k20)]) [1] rfl ?_
          exact L24_x k20 hL
        · have hF := hF.2 c38
          refine z_iload_n X dX12_isName_21 rfl 1 rfl ?_
          obtain ⟨K31, eK31, hF⟩ := nx_e hF
          have K31_l : ∀ (_ : Unit), K31 () = some zz25 → ZW p l e R s m args below meth c D A 3 0 0 Q (w_X12_four cA h_t a_t o_t) [(0, .ref h_t), (2, .int k21)] 37 [] := by
            intro _ hF
            rw [eK31] at hF
            refine z_iconst (v := (0 : Int32)) X dX12_isName_37 (by decide) ?_
            refine z_istore_n (lv' := [(1, .int (0 : Int32)), (0, .ref h_t), (2, .int k21)]) X dX12_isName_38 rfl (by decide) rfl ?_
            obtain ⟨x32, ex32, hF⟩ := nx_e hF
            refine z_iinc (v := x32) (lv' := [(2, .int x32), (1, .int (0 : Int32)), (0, .ref h_t)]) (j := 2) X dX12_isName_39 rfl (by rw [ex32]; rfl) (by decide) rfl ?_
            refine z_goto (tgt := 16) X dX12_isName_42 (by decide) ?_
            cases hF
            refine z_lv (lv' := [(0, .ref h_t), (1, .int (0 : Int32)), (2, .int x32)]) [2, 1, 0] rfl ?_
            exact ih (0 : Int32) x32 hL
          have hF := if_e hF
          refine z_if_eq (tgt := 37) X dX12_isName_22 (by decide) (fun c37 => ?_) (fun c37 => ?_)
          · have hF := hF.1 c37
            refine z_lv (lv' := [(0, .ref h_t), (2, .int k21)]) [0, 2] rfl ?_
            exact K31_l () hF
          · have hF := hF.2 c37
            refine z_aload_n X dX12_isName_25 rfl 0 rfl ?_
            refine z_iload_n X dX12_isName_26 rfl 2 rfl ?_
            obtain ⟨r33, hc34, hF⟩ := zb1_e hF
            refine z_Vi (As := [.int k21]) (rest := []) (wc := (w_X12_four cA h_t a_t o_t)) (wc' := (w_X12_four cA h_t a_t o_t)) (ws' := (w_X12_four cA h_t a_t o_t)) (rv := r33) X (cwV 1 X.2.2.2.2.1 gX12_isName_X12_isKnown rfl rfl rfl (by decide +kernel) (by rw [hR]; exact ⟨Nat.le_of_ble_eq_true rfl, Nat.le_of_ble_eq_true rfl⟩)) (fun sz => c_X12_isKnown l D cA g sz h_t a_t o_t k21 r33 hc34) [0, 1, 2, 3, 4, 5, 6, 7, 8, 9, 10, 11, 12, 13, 14, 15, 16, 17, 18, 19, 20, 21] [1000, 1001, 1002, 1003, 1004, 1005, 1006, 1007, 1008, 1009, 1010, 1011, 1012, 1013, 1014, 1015, 1016, 1017, 1018, 1019, 1020, 1021] rfl (by decide) rfl (by decide) rfl rfl rfl rfl rfl rfl (Nat.le_of_ble_eq_true rfl) dX12_isName_27 ⟨Nat.zero_le _, Nat.zero_le _⟩ ?_
            have hF := if_e hF
            refine z_if_ne (tgt := 37) X dX12_isName_30 (by decide) (fun c36 => ?_) (fun c36 => ?_)
            · have hF := hF.2 c36
              refine z_lv (lv' := [(0, .ref h_t), (2, .int k21)]) [0, 2] rfl ?_
              exact K31_l () hF
            · have hF := hF.1 c36
              refine z_iconst (v := (1 : Int32)) X dX12_isName_33 (by decide) ?_
              refine z_goto (tgt := 38) X dX12_isName_34 (by decide) ?_
              refine z_istore_n (lv' := [(1, .int (1 : Int32)), (0, .ref h_t), (2, .int k21)]) X dX12_isName_38 rfl (by decide) rfl ?_
              obtain ⟨x35, ex35, hF⟩ := nx_e hF
              refine z_iinc (v := x35) (lv' := [(2, .int x35), (1, .int (1 : Int32)), (0, .ref h_t)]) (j := 2) X dX12_isName_39 rfl (by rw [ex35]; rfl) (by decide) rfl ?_
              refine z_goto (tgt := 16) X dX12_isName_42 (by decide) ?_
              cases hF
              refine z_lv (lv' := [(0, .ref h_t), (1, .int (1 : Int32)), (2, .int x35)]) [2, 1, 0] rfl ?_
              exact ih (1 : Int32) x35 hL
    refine z_lv (lv' := [(0, .ref h_t), (1, .int j2), (2, .int (0 : Int32))]) [2, 1, 0] rfl ?_
    exact L24 FU j2 (0 : Int32) hL
  have hF := if_e hF
  refine z_icmp_ne (tgt := 12) X dX12_isName_5 (by decide) (fun c40 => ?_) (fun c40 => ?_)
  · have hF := hF.2 c40
    refine z_iconst (v := (0 : Int32)) X dX12_isName_12 (by decide) ?_
    refine z_lv (lv' := [(0, .ref h_t)]) [0] rfl ?_
    exact K3_l (0 : Int32) hF
  · have hF := hF.1 c40
    refine z_iconst (v := (1 : Int32)) X dX12_isName_8 (by decide) ?_
    refine z_goto (tgt := 13) X dX12_isName_9 (by decide) ?_
    refine z_lv (lv' := [(0, .ref h_t)]) [0] rfl ?_
    exact K3_l (1 : Int32) hF
set_option maxRecDepth 20000 in
theorem h_X12_number_X12 : ∀ w ∈ wsX120, w ∈ wsX12_number := by decide +kernel
set_option maxRecDepth 20000 in
theorem k_X12_number_110 : ZF wsX12_number RX12 110 12 12 RX12 TX12 47 := ⟨rfl, by decide, h_X12_number_X12, by decide +kernel⟩
set_option maxRecDepth 20000 in
theorem k_X12_number_113 : ZF wsX12_number RX12 113 12 11 RX12 TX12 47 := ⟨rfl, by decide, h_X12_number_X12, by decide +kernel⟩
set_option maxHeartbeats 8000000 in
set_option maxRecDepth 100000 in
theorem c_X12_number (l : Launch) (D : va_G) (cA : Nat → ClassId) (g : Nat → Nat) (sz : Nat) (h_t : Nat) (a_t : Nat → Nat) (o_t : Ob) (v1 : Int32) (v2 : Int32) (o_t' : Ob) (rv : Int32) (hF : f_X12_number o_t v1 v2 = some (o_t', rv)) : Met l yX12_number wsX12_number ({ frames := 2, cells := 0, slots := 0, locals := 43 }) (va_Pc [.ref h_t, .int v1, .int v2] (PreW D cA g sz (w_X12_four cA h_t a_t o_t))) (va_Qi (fun (r : Int32) (_ : Unit) => r = rv) (PostW D cA sz (w_X12_four cA h_t a_t o_t) (w_X12_four cA h_t a_t o_t')) (va_A (w_X12_four cA h_t a_t o_t) sz)) 0 0 (va_A (w_X12_four cA h_t a_t o_t) sz) := by
  refine z_start (cc := cX12_number) (maxL := 3) (ret := (some .boolean)) (lv0 := [(0, .ref h_t), (1, .int v1), (2, .int v2)]) (Qc := fun sz => va_Qi (fun (r : Int32) (_ : Unit) => r = rv) (PostW D cA sz (w_X12_four cA h_t a_t o_t) (w_X12_four cA h_t a_t o_t')) (va_A (w_X12_four cA h_t a_t o_t) sz)) (free := fun sz => va_A (w_X12_four cA h_t a_t o_t) sz) (by decide +kernel) rfl rfl (Nat.le_of_ble_eq_true rfl) ?_
  intro p e R s m args below meth c A Q hR hA hQ X hr hin
  unfold f_X12_number at hF
  refine z_aload_n X dX12_number_0 rfl 0 rfl ?_
  refine z_get (v := .int (o_t 11 0)) X k_X12_number_113 0 rfl rfl dX12_number_1 ?_
  refine z_iconst (v := (2 : Int32)) X dX12_number_4 (by decide) ?_
  have hF := if_e hF
  refine z_icmp_eq (tgt := 14) X dX12_number_5 (by decide) (fun c12 => ?_) (fun c12 => ?_)
  · have hF := hF.1 c12
    refine z_aload_n X dX12_number_14 rfl 0 rfl ?_
    refine z_get (v := .int (o_t 12 0)) X k_X12_number_110 0 rfl rfl dX12_number_15 ?_
    refine z_iload_n X dX12_number_18 rfl 1 rfl ?_
    refine z_iload_n X dX12_number_19 rfl 2 rfl ?_
    obtain ⟨r1, hc2, hF⟩ := zb1_e hF
    refine z_Si (As := [.int (o_t 12 0), .int v1, .int v2]) (rest := []) (wc := ([] : va_W)) (wc' := ([] : va_W)) (ws' := (w_X12_four cA h_t a_t o_t)) (rv := r1) X (va_cwS 3 X.2.2.2.2.1 gX12_number_X12_isIn rfl rfl rfl (by decide +kernel) (by rw [hR]; exact ⟨Nat.le_of_ble_eq_true rfl, Nat.le_of_ble_eq_true rfl⟩)) (fun sz => c_X12_isIn l D cA g sz (o_t 12 0) v1 v2 r1 hc2) [] [0, 1, 2, 3, 4, 5, 6, 7, 8, 9, 10, 11, 12, 13, 14, 15, 16, 17, 18, 19, 20, 21] rfl (by decide) rfl (by decide) rfl rfl rfl (Nat.le_of_ble_eq_true rfl) dX12_number_20 ⟨Nat.zero_le _, Nat.zero_le _⟩ ?_
    have hF := if_e hF
    refine z_if_ne (tgt := 34) X dX12_number_23 (by decide) (fun c7 => ?_) (fun c7 => ?_)
    · have hF := hF.2 c7
      refine z_iconst (v := (1 : Int32)) X dX12_number_34 (by decide) ?_
      refine z_goto (tgt := 39) X dX12_number_35 (by decide) ?_
      cases hF
      exact z_zret X hA hQ hr (Or.inr rfl)  rfl dX12_number_39 (Nat.le_refl _) (Nat.le_refl _)
    · have hF := hF.1 c7
      refine z_aload_n X dX12_number_26 rfl 0 rfl ?_
      refine z_iconst (v := (2 : Int32)) X dX12_number_27 (by decide) ?_
      obtain ⟨o3, r4, hc5, hF⟩ := zb2_e hF
      refine z_Vi (As := [.int (2 : Int32)]) (rest := []) (wc := (w_X12_four cA h_t a_t o_t)) (wc' := (w_X12_four cA h_t a_t o3)) (ws' := (w_X12_four cA h_t a_t o3)) (rv := r4) X (cwV 1 X.2.2.2.2.1 gX12_number_X12_badHere rfl rfl rfl (by decide +kernel) (by rw [hR]; exact ⟨Nat.le_of_ble_eq_true rfl, Nat.le_of_ble_eq_true rfl⟩)) (fun sz => c_X12_badHere l D cA g sz h_t a_t o_t (2 : Int32) o3 r4 hc5) [0, 1, 2, 3, 4, 5, 6, 7, 8, 9, 10, 11, 12, 13, 14, 15, 16, 17, 18, 19, 20, 21] [1000, 1001, 1002, 1003, 1004, 1005, 1006, 1007, 1008, 1009, 1010, 1011, 1012, 1013, 1014, 1015, 1016, 1017, 1018, 1019, 1020, 1021] rfl (by decide) rfl (by decide) rfl rfl rfl rfl rfl rfl (Nat.le_of_ble_eq_true rfl) dX12_number_28 ⟨Nat.zero_le _, Nat.zero_le _⟩ ?_
      have hF := if_e hF
      refine z_if_eq (tgt := 38) X dX12_number_31 (by decide) (fun c6 => ?_) (fun c6 => ?_)
      · have hF := hF.1 c6
        refine z_iconst (v := (0 : Int32)) X dX12_number_38 (by decide) ?_
        cases hF
        exact z_zret X hA hQ hr (Or.inl rfl)  rfl dX12_number_39 (Nat.le_refl _) (Nat.le_refl _)
      · have hF := hF.2 c6
        refine z_iconst (v := (1 : Int32)) X dX12_number_34 (by decide) ?_
        refine z_goto (tgt := 39) X dX12_number_35 (by decide) ?_
        cases hF
        exact z_zret X hA hQ hr (Or.inr rfl)  rfl dX12_number_39 (Nat.le_refl _) (Nat.le_refl _)
  · have hF := hF.2 c12
    refine z_aload_n X dX12_number_8 rfl 0 rfl ?_
    refine z_iconst (v := (1 : Int32)) X dX12_number_9 (by decide) ?_
    obtain ⟨o8, r9, hc10, hF⟩ := zb2_e hF
    refine z_Vi (As := [.int (1 : Int32)]) (rest := []) (wc := (w_X12_four cA h_t a_t o_t)) (wc' := (w_X12_four cA h_t a_t o8)) (ws' := (w_X12_four cA h_t a_t o8)) (rv := r9) X (cwV 1 X.2.2.2.2.1 gX12_number_X12_badHere rfl rfl rfl (by decide +kernel) (by rw [hR]; exact ⟨Nat.le_of_ble_eq_true rfl, Nat.le_of_ble_eq_true rfl⟩)) (fun sz => c_X12_badHere l D cA g sz h_t a_t o_t (1 : Int32) o8 r9 hc10) [0, 1, 2, 3, 4, 5, 6, 7, 8, 9, 10, 11, 12, 13, 14, 15, 16, 17, 18, 19, 20, 21] [1000, 1001, 1002, 1003, 1004, 1005, 1006, 1007, 1008, 1009, 1010, 1011, 1012, 1013, 1014, 1015, 1016, 1017, 1018, 1019, 1020, 1021] rfl (by decide) rfl (by decide) rfl rfl rfl rfl rfl rfl (Nat.le_of_ble_eq_true rfl) dX12_number_10 ⟨Nat.zero_le _, Nat.zero_le _⟩ ?_
    obtain ⟨g11, hF⟩ := gz_e hF
    cases hF
    exact z_zret X hA hQ hr g11  rfl dX12_number_13 (Nat.le_refl _) (Nat.le_refl _)
set_option maxRecDepth 20000 in
theorem h_X12_isSign_X12 : ∀ w ∈ wsX120, w ∈ wsX12_isSign := by decide +kernel
set_option maxRecDepth 20000 in
theorem k_X12_isSign_110 : ZF wsX12_isSign RX12 110 12 12 RX12 TX12 47 := ⟨rfl, by decide, h_X12_isSign_X12, by decide +kernel⟩
set_option maxRecDepth 20000 in
theorem k_X12_isSign_113 : ZF wsX12_isSign RX12 113 12 11 RX12 TX12 47 := ⟨rfl, by decide, h_X12_isSign_X12, by decide +kernel⟩
set_option maxHeartbeats 8000000 in
set_option maxRecDepth 100000 in
theorem c_X12_isSign (l : Launch) (D : va_G) (cA : Nat → ClassId) (g : Nat → Nat) (sz : Nat) (h_t : Nat) (a_t : Nat → Nat) (o_t : Ob) (v1 : Int32) (rv : Int32) (hF : f_X12_isSign o_t v1 = some rv) : Met l yX12_isSign wsX12_isSign ({ frames := 0, cells := 0, slots := 0, locals := 0 }) (va_Pc [.ref h_t, .int v1] (PreW D cA g sz (w_X12_four cA h_t a_t o_t))) (va_Qi (fun (r : Int32) (_ : Unit) => r = rv) (PostW D cA sz (w_X12_four cA h_t a_t o_t) (w_X12_four cA h_t a_t o_t)) (va_A (w_X12_four cA h_t a_t o_t) sz)) 0 0 (va_A (w_X12_four cA h_t a_t o_t) sz) := by
  refine z_start (cc := cX12_isSign) (maxL := 2) (ret := (some .boolean)) (lv0 := [(0, .ref h_t), (1, .int v1)]) (Qc := fun sz => va_Qi (fun (r : Int32) (_ : Unit) => r = rv) (PostW D cA sz (w_X12_four cA h_t a_t o_t) (w_X12_four cA h_t a_t o_t)) (va_A (w_X12_four cA h_t a_t o_t) sz)) (free := fun sz => va_A (w_X12_four cA h_t a_t o_t) sz) (by decide +kernel) rfl rfl (Nat.le_of_ble_eq_true rfl) ?_
  intro p e R s m args below meth c A Q hR hA hQ X hr hin
  unfold f_X12_isSign at hF
  refine z_aload_n X dX12_isSign_0 rfl 0 rfl ?_
  refine z_get (v := .int (o_t 11 0)) X k_X12_isSign_113 0 rfl rfl dX12_isSign_1 ?_
  refine z_iconst (v := (3 : Int32)) X dX12_isSign_4 (by decide) ?_
  have hF := if_e hF
  refine z_icmp_ne (tgt := 20) X dX12_isSign_5 (by decide) (fun c2 => ?_) (fun c2 => ?_)
  · have hF := hF.2 c2
    refine z_iconst (v := (0 : Int32)) X dX12_isSign_20 (by decide) ?_
    cases hF
    exact z_zret X hA hQ hr (Or.inl rfl)  rfl dX12_isSign_21 (Nat.le_refl _) (Nat.le_refl _)
  · have hF := hF.1 c2
    refine z_aload_n X dX12_isSign_8 rfl 0 rfl ?_
    refine z_get (v := .int (o_t 12 0)) X k_X12_isSign_110 0 rfl rfl dX12_isSign_9 ?_
    refine z_iload_n X dX12_isSign_12 rfl 1 rfl ?_
    have hF := if_e hF
    refine z_icmp_ne (tgt := 20) X dX12_isSign_13 (by decide) (fun c1 => ?_) (fun c1 => ?_)
    · have hF := hF.2 c1
      refine z_iconst (v := (0 : Int32)) X dX12_isSign_20 (by decide) ?_
      cases hF
      exact z_zret X hA hQ hr (Or.inl rfl)  rfl dX12_isSign_21 (Nat.le_refl _) (Nat.le_refl _)
    · have hF := hF.1 c1
      refine z_iconst (v := (1 : Int32)) X dX12_isSign_16 (by decide) ?_
      refine z_goto (tgt := 21) X dX12_isSign_17 (by decide) ?_
      cases hF
      exact z_zret X hA hQ hr (Or.inr rfl)  rfl dX12_isSign_21 (Nat.le_refl _) (Nat.le_refl _)
set_option maxRecDepth 20000 in
theorem h_X12_named_X12 : ∀ w ∈ wsX120, w ∈ wsX12_named := by decide +kernel
set_option maxRecDepth 20000 in
theorem k_X12_named_30 : ZF wsX12_named RX12 30 12 15 RX12 TX12 47 := ⟨rfl, by decide, h_X12_named_X12, by decide +kernel⟩
set_option maxRecDepth 20000 in
theorem k_X12_named_123 : ZF wsX12_named RX12 123 12 16 RX12 TX12 47 := ⟨rfl, by decide, h_X12_named_X12, by decide +kernel⟩
set_option maxHeartbeats 8000000 in
set_option maxRecDepth 100000 in
theorem c_X12_named__s (l : Launch) (D : va_G) (cA : Nat → ClassId) (g : Nat → Nat) (sz : Nat) (h_t : Nat) (a_t : Nat → Nat) (o_t : Ob)  (rv : Int32) (hF : f_X12_named__s o_t = some rv) : Met l yX12_named wsX12_named ({ frames := 0, cells := 0, slots := 0, locals := 0 }) (va_Pc [.ref h_t, .ref (a_t 0)] (PreW D cA g sz (w_X12_four cA h_t a_t o_t))) (va_Qi (fun (r : Int32) (_ : Unit) => r = rv) (PostW D cA sz (w_X12_four cA h_t a_t o_t) (w_X12_four cA h_t a_t o_t)) (va_A (w_X12_four cA h_t a_t o_t) sz)) 0 0 (va_A (w_X12_four cA h_t a_t o_t) sz) := by
  refine z_start (cc := cX12_named) (maxL := 5) (ret := (some .int)) (lv0 := [(0, .ref h_t), (1, .ref (a_t 0))]) (Qc := fun sz => va_Qi (fun (r : Int32) (_ : Unit) => r = rv) (PostW D cA sz (w_X12_four cA h_t a_t o_t) (w_X12_four cA h_t a_t o_t)) (va_A (w_X12_four cA h_t a_t o_t) sz)) (free := fun sz => va_A (w_X12_four cA h_t a_t o_t) sz) (by decide +kernel) rfl rfl (Nat.le_of_ble_eq_true rfl) ?_
  intro p e R s m args below meth c A Q hR hA hQ X hr hin
  unfold f_X12_named__s at hF
  refine z_iconst (v := (0 : Int32)) X dX12_named_0 (by decide) ?_
  refine z_istore_n (lv' := [(2, .int (0 : Int32)), (0, .ref h_t), (1, .ref (a_t 0))]) X dX12_named_1 rfl (by decide) rfl ?_
  obtain ⟨z80, hL, hFx, L41_r⟩ := ze0_e hF
  have L41_x : ∀ (_ : True), z80 = .inl () → ZW p l e R s m args below meth c D A 5 0 0 Q (w_X12_four cA h_t a_t o_t) [] 84 [] := by
    intro _ hz
    have hF := hFx  hz
    refine z_iconst (v := (-1 : Int32)) X dX12_named_84 (by decide) ?_
    cases hF
    exact z_iret X hA hQ hr rfl dX12_named_85 (Nat.le_refl _) (Nat.le_refl _)
  obtain ⟨B81, hBB81, hL⟩ := zl1_b hL
  have L41 : ∀ (n : Nat) (k40 : Int32), zl1 B81 n k40 = some z80 → ZW p l e R s m args below meth c D A 5 0 0 Q (w_X12_four cA h_t a_t o_t) [(0, .ref h_t), (1, .ref (a_t 0)), (2, .int k40)] 2 [] := by
    intro n
    induction n with
    | zero => intro k40 hL; cases hL
    | succ n ih =>
      intro k40 hL
      obtain ⟨zz42, hF, hL⟩ := zl1_e hL
      rw [hBB81] at hF
      refine z_iload_n X dX12_named_2 rfl 2 rfl ?_
      refine z_aload_n X dX12_named_3 rfl 1 rfl ?_
      refine z_iconst (v := (2 : Int32)) X dX12_named_4 (by decide) ?_
      obtain ⟨g43, hF⟩ := gi_e hF
      refine z_iald X 1 rfl g43 dX12_named_5 ?_
      have hF := if_e hF
      refine z_icmp_ge (tgt := 84) X dX12_named_6 (by decide) (fun c79 => ?_) (fun c79 => ?_)
      · have hF := hF.1 c79
        cases hF
        have hL := Option.some.inj hL
        refine z_lv (lv' := []) [] rfl ?_
        exact L41_x trivial hL.symm
      · have hF := hF.2 c79
        refine z_iconst (v := (1 : Int32)) X dX12_named_9 (by decide) ?_
        refine z_istore_n (lv' := [(3, .int (1 : Int32)), (0, .ref h_t), (1, .ref (a_t 0)), (2, .int k40)]) X dX12_named_10 rfl (by decide) rfl ?_
        refine z_iconst (v := (0 : Int32)) X dX12_named_11 (by decide) ?_
        refine z_istore (lv' := [(4, .int (0 : Int32)), (3, .int (1 : Int32)), (0, .ref h_t), (1, .ref (a_t 0)), (2, .int k40)]) X dX12_named_12 (by decide) rfl ?_
        obtain ⟨k61, hL, hF⟩ := zb1_e hF
        have L64_x : ∀ (k61' : Int32), k61' = k61 → ZW p l e R s m args below meth c D A 5 0 0 Q (w_X12_four cA h_t a_t o_t) [(0, .ref h_t), (1, .ref (a_t 0)), (2, .int k40), (3, .int k61')] 72 [] := by
          intro k61' hz
          cases hz
          refine z_iload_n X dX12_named_72 rfl 3 rfl ?_
          have hF := if_e hF
          refine z_if_eq (tgt := 78) X dX12_named_73 (by decide) (fun c63 => ?_) (fun c63 => ?_)
          · have hF := hF.1 c63
            obtain ⟨x62, ex62, hF⟩ := nx_e hF
            refine z_iinc (v := x62) (lv' := [(2, .int x62), (0, .ref h_t), (1, .ref (a_t 0)), (3, .int k61)]) (j := 2) X dX12_named_78 rfl (by rw [ex62]; rfl) (by decide) rfl ?_
            refine z_goto (tgt := 2) X dX12_named_81 (by decide) ?_
            cases hF
            refine z_lv (lv' := [(0, .ref h_t), (1, .ref (a_t 0)), (2, .int x62)]) [1, 2, 0] rfl ?_
            exact ih x62 hL
          · have hF := hF.2 c63
            refine z_iload_n X dX12_named_76 rfl 2 rfl ?_
            cases hF
            have hL := (Option.some.inj hL).symm
            have hF := L41_r _ hL
            cases hF
            exact z_iret X hA hQ hr rfl dX12_named_77 (Nat.le_refl _) (Nat.le_refl _)
        obtain ⟨B78, hBB78, hL⟩ := zl2_b hL
        have L64 : ∀ (n : Nat) (k59 : Int32) (k60 : Int32), zl2 B78 n k59 k60 = some k61 → ZW p l e R s m args below meth c D A 5 0 0 Q (w_X12_four cA h_t a_t o_t) [(0, .ref h_t), (1, .ref (a_t 0)), (2, .int k40), (3, .int k59), (4, .int k60)] 14 [] := by
          intro n
          induction n with
          | zero => intro k59 k60 hL; cases hL
          | succ n ih =>
            intro k59 k60 hL
            obtain ⟨zz65, hF, hL⟩ := zl2_e hL
            rw [hBB78] at hF
            refine z_iload X dX12_named_14 4 rfl ?_
            refine z_bipush (v := (6 : Int32)) X dX12_named_16 (by decide) ?_
            have hF := if_e hF
            refine z_icmp_ge (tgt := 72) X dX12_named_18 (by decide) (fun c77 => ?_) (fun c77 => ?_)
            · have hF := hF.1 c77
              cases hF
              have hL := Option.some.inj hL
              refine z_lv (lv' := [(0, .ref h_t), (1, .ref (a_t 0)), (2, .int k40), (3, .int k59)]) [0, 1, 2, 3] rfl ?_
              exact L64_x k59 hL
            · have hF := hF.2 c77
              refine z_iload_n X dX12_named_21 rfl 3 rfl ?_
              have hF := if_e hF
              refine z_if_eq (tgt := 72) X dX12_named_22 (by decide) (fun c76 => ?_) (fun c76 => ?_)
              · have hF := hF.1 c76
                cases hF
                have hL := Option.some.inj hL
                refine z_lv (lv' := [(0, .ref h_t), (1, .ref (a_t 0)), (2, .int k40), (3, .int k59)]) [0, 1, 2, 3] rfl ?_
                exact L64_x k59 hL
              · have hF := hF.2 c76
                refine z_aload_n X dX12_named_25 rfl 1 rfl ?_
                refine z_bipush (v := (56 : Int32)) X dX12_named_26 (by decide) ?_
                refine z_bipush (v := (6 : Int32)) X dX12_named_28 (by decide) ?_
                refine z_iload_n X dX12_named_30 rfl 2 rfl ?_
                refine z_imul X dX12_named_31 ?_
                refine z_iadd X dX12_named_32 ?_
                refine z_iload X dX12_named_33 4 rfl ?_
                refine z_iadd X dX12_named_35 ?_
                obtain ⟨g66, hF⟩ := gi_e hF
                refine z_iald X 1 rfl g66 dX12_named_36 ?_
                refine z_iload X dX12_named_37 4 rfl ?_
                refine z_aload_n X dX12_named_39 rfl 0 rfl ?_
                refine z_get (v := .int (o_t 16 0)) X k_X12_named_123 0 rfl rfl dX12_named_40 ?_
                obtain ⟨K70, eK70, hF⟩ := nx_e hF
                have K70_l : ∀ (j69 : Int32), K70 j69 = some zz65 → ZW p l e R s m args below meth c D A 5 0 0 Q (w_X12_four cA h_t a_t o_t) [(0, .ref h_t), (1, .ref (a_t 0)), (2, .int k40), (4, .int k60)] 57 [.int j69, .int (o_t 0 (Int32.toNatClampNeg (((56 : Int32) + ((6 : Int32) * k40)) + k60)))] := by
                  intro j69 hF
                  rw [eK70] at hF
                  have hF := if_e hF
                  refine z_icmp_ne (tgt := 64) X dX12_named_57 (by decide) (fun c73 => ?_) (fun c73 => ?_)
                  · have hF := hF.2 c73
                    refine z_iconst (v := (0 : Int32)) X dX12_named_64 (by decide) ?_
                    refine z_istore_n (lv' := [(3, .int (0 : Int32)), (0, .ref h_t), (1, .ref (a_t 0)), (2, .int k40), (4, .int k60)]) X dX12_named_65 rfl (by decide) rfl ?_
                    obtain ⟨x71, ex71, hF⟩ := nx_e hF
                    refine z_iinc (v := x71) (lv' := [(4, .int x71), (3, .int (0 : Int32)), (0, .ref h_t), (1, .ref (a_t 0)), (2, .int k40)]) (j := 4) X dX12_named_66 rfl (by rw [ex71]; rfl) (by decide) rfl ?_
                    refine z_goto (tgt := 14) X dX12_named_69 (by decide) ?_
                    cases hF
                    refine z_lv (lv' := [(0, .ref h_t), (1, .ref (a_t 0)), (2, .int k40), (3, .int (0 : Int32)), (4, .int x71)]) [2, 3, 4, 1, 0] rfl ?_
                    exact ih (0 : Int32) x71 hL
                  · have hF := hF.1 c73
                    refine z_iconst (v := (1 : Int32)) X dX12_named_60 (by decide) ?_
                    refine z_goto (tgt := 65) X dX12_named_61 (by decide) ?_
                    refine z_istore_n (lv' := [(3, .int (1 : Int32)), (0, .ref h_t), (1, .ref (a_t 0)), (2, .int k40), (4, .int k60)]) X dX12_named_65 rfl (by decide) rfl ?_
                    obtain ⟨x72, ex72, hF⟩ := nx_e hF
                    refine z_iinc (v := x72) (lv' := [(4, .int x72), (3, .int (1 : Int32)), (0, .ref h_t), (1, .ref (a_t 0)), (2, .int k40)]) (j := 4) X dX12_named_66 rfl (by rw [ex72]; rfl) (by decide) rfl ?_
                    refine z_goto (tgt := 14) X dX12_named_69 (by decide) ?_
                    cases hF
                    refine z_lv (lv' := [(0, .ref h_t), (1, .ref (a_t 0)), (2, .int k40), (3, .int (1 : Int32)), (4, .int x72)]) [2, 3, 4, 1, 0] rfl ?_
                    exact ih (1 : Int32) x72 hL
                have hF := if_e hF
                refine z_icmp_ge (tgt := 56) X dX12_named_43 (by decide) (fun c75 => ?_) (fun c75 => ?_)
                · have hF := hF.1 c75
                  refine z_iconst (v := (0 : Int32)) X dX12_named_56 (by decide) ?_
                  refine z_lv (lv' := [(0, .ref h_t), (1, .ref (a_t 0)), (2, .int k40), (4, .int k60)]) [0, 1, 2, 4] rfl ?_
                  exact K70_l (0 : Int32) hF
                · have hF := hF.2 c75
                  refine z_aload_n X dX12_named_46 rfl 0 rfl ?_
                  refine z_get (v := .ref (a_t 15)) X k_X12_named_30 0 rfl rfl dX12_named_47 ?_
                  refine z_iload X dX12_named_50 4 rfl ?_
                  obtain ⟨g74, hF⟩ := gi_e hF
                  refine z_bald X 7 rfl g74 dX12_named_52 ?_
                  refine z_goto (tgt := 57) X dX12_named_53 (by decide) ?_
                  refine z_lv (lv' := [(0, .ref h_t), (1, .ref (a_t 0)), (2, .int k40), (4, .int k60)]) [0, 1, 2, 4] rfl ?_
                  exact K70_l (o_t 15 (Int32.toNatClampNeg k60)) hF
        refine z_lv (lv' := [(0, .ref h_t), (1, .ref (a_t 0)), (2, .int k40), (3, .int (1 : Int32)), (4, .int (0 : Int32))]) [2, 3, 4, 1, 0] rfl ?_
        exact L64 FU (1 : Int32) (0 : Int32) hL
  refine z_lv (lv' := [(0, .ref h_t), (1, .ref (a_t 0)), (2, .int (0 : Int32))]) [1, 2, 0] rfl ?_
  exact L41 FU (0 : Int32) hL
set_option maxHeartbeats 8000000 in
set_option maxRecDepth 100000 in
theorem c_X12_named__spare (l : Launch) (D : va_G) (cA : Nat → ClassId) (g : Nat → Nat) (sz : Nat) (h_t : Nat) (a_t : Nat → Nat) (o_t : Ob)  (rv : Int32) (hF : f_X12_named__spare o_t = some rv) : Met l yX12_named wsX12_named ({ frames := 0, cells := 0, slots := 0, locals := 0 }) (va_Pc [.ref h_t, .ref (a_t 3)] (PreW D cA g sz (w_X12_four cA h_t a_t o_t))) (va_Qi (fun (r : Int32) (_ : Unit) => r = rv) (PostW D cA sz (w_X12_four cA h_t a_t o_t) (w_X12_four cA h_t a_t o_t)) (va_A (w_X12_four cA h_t a_t o_t) sz)) 0 0 (va_A (w_X12_four cA h_t a_t o_t) sz) := by
  refine z_start (cc := cX12_named) (maxL := 5) (ret := (some .int)) (lv0 := [(0, .ref h_t), (1, .ref (a_t 3))]) (Qc := fun sz => va_Qi (fun (r : Int32) (_ : Unit) => r = rv) (PostW D cA sz (w_X12_four cA h_t a_t o_t) (w_X12_four cA h_t a_t o_t)) (va_A (w_X12_four cA h_t a_t o_t) sz)) (free := fun sz => va_A (w_X12_four cA h_t a_t o_t) sz) (by decide +kernel) rfl rfl (Nat.le_of_ble_eq_true rfl) ?_
  intro p e R s m args below meth c A Q hR hA hQ X hr hin
  unfold f_X12_named__spare at hF
  refine z_iconst (v := (0 : Int32)) X dX12_named_0 (by decide) ?_
  refine z_istore_n (lv' := [(2, .int (0 : Int32)), (0, .ref h_t), (1, .ref (a_t 3))]) X dX12_named_1 rfl (by decide) rfl ?_
  obtain ⟨z80, hL, hFx, L41_r⟩ := ze0_e hF
  have L41_x : ∀ (_ : True), z80 = .inl () → ZW p l e R s m args below meth c D A 5 0 0 Q (w_X12_four cA h_t a_t o_t) [] 84 [] := by
    intro _ hz
    have hF := hFx  hz
    refine z_iconst (v := (-1 : Int32)) X dX12_named_84 (by decide) ?_
    cases hF
    exact z_iret X hA hQ hr rfl dX12_named_85 (Nat.le_refl _) (Nat.le_refl _)
  obtain ⟨B81, hBB81, hL⟩ := zl1_b hL
  have L41 : ∀ (n : Nat) (k40 : Int32), zl1 B81 n k40 = some z80 → ZW p l e R s m args below meth c D A 5 0 0 Q (w_X12_four cA h_t a_t o_t) [(0, .ref h_t), (1, .ref (a_t 3)), (2, .int k40)] 2 [] := by
    intro n
    induction n with
    | zero => intro k40 hL; cases hL
    | succ n ih =>
      intro k40 hL
      obtain ⟨zz42, hF, hL⟩ := zl1_e hL
      rw [hBB81] at hF
      refine z_iload_n X dX12_named_2 rfl 2 rfl ?_
      refine z_aload_n X dX12_named_3 rfl 1 rfl ?_
      refine z_iconst (v := (2 : Int32)) X dX12_named_4 (by decide) ?_
      obtain ⟨g43, hF⟩ := gi_e hF
      refine z_iald X 4 rfl g43 dX12_named_5 ?_
      have hF := if_e hF
      refine z_icmp_ge (tgt := 84) X dX12_named_6 (by decide) (fun c79 => ?_) (fun c79 => ?_)
      · have hF := hF.1 c79
        cases hF
        have hL := Option.some.inj hL
        refine z_lv (lv' := []) [] rfl ?_
        exact L41_x trivial hL.symm
      · have hF := hF.2 c79
        refine z_iconst (v := (1 : Int32)) X dX12_named_9 (by decide) ?_
        refine z_istore_n (lv' := [(3, .int (1 : Int32)), (0, .ref h_t), (1, .ref (a_t 3)), (2, .int k40)]) X dX12_named_10 rfl (by decide) rfl ?_
        refine z_iconst (v := (0 : Int32)) X dX12_named_11 (by decide) ?_
        refine z_istore (lv' := [(4, .int (0 : Int32)), (3, .int (1 : Int32)), (0, .ref h_t), (1, .ref (a_t 3)), (2, .int k40)]) X dX12_named_12 (by decide) rfl ?_
        obtain ⟨k61, hL, hF⟩ := zb1_e hF
        have L64_x : ∀ (k61' : Int32), k61' = k61 → ZW p l e R s m args below meth c D A 5 0 0 Q (w_X12_four cA h_t a_t o_t) [(0, .ref h_t), (1, .ref (a_t 3)), (2, .int k40), (3, .int k61')] 72 [] := by
          intro k61' hz
          cases hz
          refine z_iload_n X dX12_named_72 rfl 3 rfl ?_
          have hF := if_e hF
          refine z_if_eq (tgt := 78) X dX12_named_73 (by decide) (fun c63 => ?_) (fun c63 => ?_)
          · have hF := hF.1 c63
            obtain ⟨x62, ex62, hF⟩ := nx_e hF
            refine z_iinc (v := x62) (lv' := [(2, .int x62), (0, .ref h_t), (1, .ref (a_t 3)), (3, .int k61)]) (j := 2) X dX12_named_78 rfl (by rw [ex62]; rfl) (by decide) rfl ?_
            refine z_goto (tgt := 2) X dX12_named_81 (by decide) ?_
            cases hF
            refine z_lv (lv' := [(0, .ref h_t), (1, .ref (a_t 3)), (2, .int x62)]) [1, 2, 0] rfl ?_
            exact ih x62 hL
          · have hF := hF.2 c63
            refine z_iload_n X dX12_named_76 rfl 2 rfl ?_
            cases hF
            have hL := (Option.some.inj hL).symm
            have hF := L41_r _ hL
            cases hF
            exact z_iret X hA hQ hr rfl dX12_named_77 (Nat.le_refl _) (Nat.le_refl _)
        obtain ⟨B78, hBB78, hL⟩ := zl2_b hL
        have L64 : ∀ (n : Nat) (k59 : Int32) (k60 : Int32), zl2 B78 n k59 k60 = some k61 → ZW p l e R s m args below meth c D A 5 0 0 Q (w_X12_four cA h_t a_t o_t) [(0, .ref h_t), (1, .ref (a_t 3)), (2, .int k40), (3, .int k59), (4, .int k60)] 14 [] := by
          intro n
          induction n with
          | zero => intro k59 k60 hL; cases hL
          | succ n ih =>
            intro k59 k60 hL
            obtain ⟨zz65, hF, hL⟩ := zl2_e hL
            rw [hBB78] at hF
            refine z_iload X dX12_named_14 4 rfl ?_
            refine z_bipush (v := (6 : Int32)) X dX12_named_16 (by decide) ?_
            have hF := if_e hF
            refine z_icmp_ge (tgt := 72) X dX12_named_18 (by decide) (fun c77 => ?_) (fun c77 => ?_)
            · have hF := hF.1 c77
              cases hF
              have hL := Option.some.inj hL
              refine z_lv (lv' := [(0, .ref h_t), (1, .ref (a_t 3)), (2, .int k40), (3, .int k59)]) [0, 1, 2, 3] rfl ?_
              exact L64_x k59 hL
            · have hF := hF.2 c77
              refine z_iload_n X dX12_named_21 rfl 3 rfl ?_
              have hF := if_e hF
              refine z_if_eq (tgt := 72) X dX12_named_22 (by decide) (fun c76 => ?_) (fun c76 => ?_)
              · have hF := hF.1 c76
                cases hF
                have hL := Option.some.inj hL
                refine z_lv (lv' := [(0, .ref h_t), (1, .ref (a_t 3)), (2, .int k40), (3, .int k59)]) [0, 1, 2, 3] rfl ?_
                exact L64_x k59 hL
              · have hF := hF.2 c76
                refine z_aload_n X dX12_named_25 rfl 1 rfl ?_
                refine z_bipush (v := (56 : Int32)) X dX12_named_26 (by decide) ?_
                refine z_bipush (v := (6 : Int32)) X dX12_named_28 (by decide) ?_
                refine z_iload_n X dX12_named_30 rfl 2 rfl ?_
                refine z_imul X dX12_named_31 ?_
                refine z_iadd X dX12_named_32 ?_
                refine z_iload X dX12_named_33 4 rfl ?_
                refine z_iadd X dX12_named_35 ?_
                obtain ⟨g66, hF⟩ := gi_e hF
                refine z_iald X 4 rfl g66 dX12_named_36 ?_
                refine z_iload X dX12_named_37 4 rfl ?_
                refine z_aload_n X dX12_named_39 rfl 0 rfl ?_
                refine z_get (v := .int (o_t 16 0)) X k_X12_named_123 0 rfl rfl dX12_named_40 ?_
                obtain ⟨K70, eK70, hF⟩ := nx_e hF
                have K70_l : ∀ (j69 : Int32), K70 j69 = some zz65 → ZW p l e R s m args below meth c D A 5 0 0 Q (w_X12_four cA h_t a_t o_t) [(0, .ref h_t), (1, .ref (a_t 3)), (2, .int k40), (4, .int k60)] 57 [.int j69, .int (o_t 3 (Int32.toNatClampNeg (((56 : Int32) + ((6 : Int32) * k40)) + k60)))] := by
                  intro j69 hF
                  rw [eK70] at hF
                  have hF := if_e hF
                  refine z_icmp_ne (tgt := 64) X dX12_named_57 (by decide) (fun c73 => ?_) (fun c73 => ?_)
                  · have hF := hF.2 c73
                    refine z_iconst (v := (0 : Int32)) X dX12_named_64 (by decide) ?_
                    refine z_istore_n (lv' := [(3, .int (0 : Int32)), (0, .ref h_t), (1, .ref (a_t 3)), (2, .int k40), (4, .int k60)]) X dX12_named_65 rfl (by decide) rfl ?_
                    obtain ⟨x71, ex71, hF⟩ := nx_e hF
                    refine z_iinc (v := x71) (lv' := [(4, .int x71), (3, .int (0 : Int32)), (0, .ref h_t), (1, .ref (a_t 3)), (2, .int k40)]) (j := 4) X dX12_named_66 rfl (by rw [ex71]; rfl) (by decide) rfl ?_
                    refine z_goto (tgt := 14) X dX12_named_69 (by decide) ?_
                    cases hF
                    refine z_lv (lv' := [(0, .ref h_t), (1, .ref (a_t 3)), (2, .int k40), (3, .int (0 : Int32)), (4, .int x71)]) [2, 3, 4, 1, 0] rfl ?_
                    exact ih (0 : Int32) x71 hL
                  · have hF := hF.1 c73
                    refine z_iconst (v := (1 : Int32)) X dX12_named_60 (by decide) ?_
                    refine z_goto (tgt := 65) X dX12_named_61 (by decide) ?_
                    refine z_istore_n (lv' := [(3, .int (1 : Int32)), (0, .ref h_t), (1, .ref (a_t 3)), (2, .int k40), (4, .int k60)]) X dX12_named_65 rfl (by decide) rfl ?_
                    obtain ⟨x72, ex72, hF⟩ := nx_e hF
                    refine z_iinc (v := x72) (lv' := [(4, .int x72), (3, .int (1 : Int32)), (0, .ref h_t), (1, .ref (a_t 3)), (2, .int k40)]) (j := 4) X dX12_named_66 rfl (by rw [ex72]; rfl) (by decide) rfl ?_
                    refine z_goto (tgt := 14) X dX12_named_69 (by decide) ?_
                    cases hF
                    refine z_lv (lv' := [(0, .ref h_t), (1, .ref (a_t 3)), (2, .int k40), (3, .int (1 : Int32)), (4, .int x72)]) [2, 3, 4, 1, 0] rfl ?_
                    exact ih (1 : Int32) x72 hL
                have hF := if_e hF
                refine z_icmp_ge (tgt := 56) X dX12_named_43 (by decide) (fun c75 => ?_) (fun c75 => ?_)
                · have hF := hF.1 c75
                  refine z_iconst (v := (0 : Int32)) X dX12_named_56 (by decide) ?_
                  refine z_lv (lv' := [(0, .ref h_t), (1, .ref (a_t 3)), (2, .int k40), (4, .int k60)]) [0, 1, 2, 4] rfl ?_
                  exact K70_l (0 : Int32) hF
                · have hF := hF.2 c75
                  refine z_aload_n X dX12_named_46 rfl 0 rfl ?_
                  refine z_get (v := .ref (a_t 15)) X k_X12_named_30 0 rfl rfl dX12_named_47 ?_
                  refine z_iload X dX12_named_50 4 rfl ?_
                  obtain ⟨g74, hF⟩ := gi_e hF
                  refine z_bald X 7 rfl g74 dX12_named_52 ?_
                  refine z_goto (tgt := 57) X dX12_named_53 (by decide) ?_
                  refine z_lv (lv' := [(0, .ref h_t), (1, .ref (a_t 3)), (2, .int k40), (4, .int k60)]) [0, 1, 2, 4] rfl ?_
                  exact K70_l (o_t 15 (Int32.toNatClampNeg k60)) hF
        refine z_lv (lv' := [(0, .ref h_t), (1, .ref (a_t 3)), (2, .int k40), (3, .int (1 : Int32)), (4, .int (0 : Int32))]) [2, 3, 4, 1, 0] rfl ?_
        exact L64 FU (1 : Int32) (0 : Int32) hL
  refine z_lv (lv' := [(0, .ref h_t), (1, .ref (a_t 3)), (2, .int (0 : Int32))]) [1, 2, 0] rfl ?_
  exact L41 FU (0 : Int32) hL
