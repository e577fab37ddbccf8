abbrev w_X8_lower (cA : Nat → ClassId) (h_t : Nat) (a_t : Nat → Nat) (o_t : Ob) (h_p1 : Nat) (a_p1 : Nat → Nat) (o_p1 : Ob) (h_p3 : Nat) (a_p3 : Nat → Nat) (o_p3 : Ob) : va_W := [(h_t, .inr (8, [.int (o_t 0 0), .int (o_t 1 0), .int (o_t 2 0), .int (o_t 3 0), .ref (a_t 4), .ref (a_t 5), .ref (a_t 6)])), (a_t 4, .inl (cA 0, 8, .inl (o_t 4))), (a_t 5, .inl (cA 0, 8, .inl (o_t 5))), (a_t 6, .inl (cA 1, 8, .inr (.inr (.inl (fun j => (o_t 6 j).toUInt32))))), (h_p1, .inr (10, [.int (o_p1 0 0), .ref (a_p1 1), .ref (a_p1 2), .ref (a_p1 3), .ref (a_p1 4)])), (a_p1 1, .inl (cA 0, 8, .inl (o_p1 1))), (a_p1 2, .inl (cA 0, 8, .inl (o_p1 2))), (a_p1 3, .inl (cA 0, 8, .inl (o_p1 3))), (a_p1 4, .inl (cA 0, 8, .inl (o_p1 4))), (h_p3, .inr (1, [.int (o_p3 0 0), .ref (a_p3 1), .ref (a_p3 2), .ref (a_p3 3)])), (a_p3 1, .inl (cA 0, 9, .inl (o_p3 1))), (a_p3 2, .inl (cA 0, 9, .inl (o_p3 2))), (a_p3 3, .inl (cA 0, 9, .inl (o_p3 3)))]
set_option maxRecDepth 20000 in
theorem h_X8_lower_X8 : ∀ w ∈ wsX80, w ∈ wsX8_lower := by decide +kernel
set_option maxRecDepth 20000 in
theorem k_X8_lower_18 : ZF wsX8_lower RX8 18 8 4 RX8 TX8 7 := ⟨rfl, by decide, h_X8_lower_X8, by decide +kernel⟩
set_option maxRecDepth 20000 in
theorem k_X8_lower_29 : ZF wsX8_lower RX8 29 8 2 RX8 TX8 7 := ⟨rfl, by decide, h_X8_lower_X8, by decide +kernel⟩
set_option maxRecDepth 20000 in
theorem k_X8_lower_32 : ZF wsX8_lower RX8 32 8 3 RX8 TX8 7 := ⟨rfl, by decide, h_X8_lower_X8, by decide +kernel⟩
set_option maxRecDepth 20000 in
theorem h_X8_lower_X10 : ∀ w ∈ wsX100, w ∈ wsX8_lower := by decide +kernel
set_option maxRecDepth 20000 in
theorem k_X8_lower_61 : ZF wsX8_lower RX8 61 10 1 RX10 TX10 5 := ⟨rfl, by decide, h_X8_lower_X10, by decide +kernel⟩
set_option maxHeartbeats 8000000 in
set_option maxRecDepth 100000 in
theorem c_X8_lower (l : Launch) (D : va_G) (cA : Nat → ClassId) (g : Nat → Nat) (sz : Nat) (h_t : Nat) (a_t : Nat → Nat) (o_t : Ob) (h_p1 : Nat) (a_p1 : Nat → Nat) (o_p1 : Ob) (h_p3 : Nat) (a_p3 : Nat → Nat) (o_p3 : Ob) (v2 : Int32) (o_t' : Ob) (o_p3' : Ob) (hF : f_X8_lower o_t o_p1 o_p3 v2 = some (o_t', o_p3')) : Met l yX8_lower wsX8_lower ({ frames := 1, cells := 0, slots := 0, locals := 23 }) (va_Pc [.ref h_t, .ref h_p1, .int v2, .ref h_p3] (PreW D cA g sz (w_X8_lower cA h_t a_t o_t h_p1 a_p1 o_p1 h_p3 a_p3 o_p3))) (va_Qv (fun (_ : Unit) => True) (PostW D cA sz (w_X8_lower cA h_t a_t o_t h_p1 a_p1 o_p1 h_p3 a_p3 o_p3) (w_X8_lower cA h_t a_t o_t' h_p1 a_p1 o_p1 h_p3 a_p3 o_p3')) (va_A (w_X8_lower cA h_t a_t o_t h_p1 a_p1 o_p1 h_p3 a_p3 o_p3) sz)) 0 0 (va_A (w_X8_lower cA h_t a_t o_t h_p1 a_p1 o_p1 h_p3 a_p3 o_p3) sz) := by
  refine z_start (cc := cX8_lower) (maxL := 4) (ret := none) (lv0 := [(0, .ref h_t), (1, .ref h_p1), (2, .int v2), (3, .ref h_p3)]) (Qc := fun sz => va_Qv (fun (_ : Unit) => True) (PostW D cA sz (w_X8_lower cA h_t a_t o_t h_p1 a_p1 o_p1 h_p3 a_p3 o_p3) (w_X8_lower cA h_t a_t o_t' h_p1 a_p1 o_p1 h_p3 a_p3 o_p3')) (va_A (w_X8_lower cA h_t a_t o_t h_p1 a_p1 o_p1 h_p3 a_p3 o_p3) sz)) (free := fun sz => va_A (w_X8_lower cA h_t a_t o_t h_p1 a_p1 o_p1 h_p3 a_p3 o_p3) sz) (by decide +kernel) rfl rfl (Nat.le_of_ble_eq_true rfl) ?_
  intro p e R s m args below meth c A Q hR hA hQ X hr hin
  unfold f_X8_lower at hF
  refine z_aload_n X dX8_lower_0 rfl 0 rfl ?_
  refine z_dup X dX8_lower_1 rfl ?_
  refine z_get (v := .int (o_t 2 0)) X k_X8_lower_29 0 rfl rfl dX8_lower_2 ?_
  refine z_iconst (v := (1 : Int32)) X dX8_lower_5 (by decide) ?_
  refine z_iload_n X dX8_lower_6 rfl 2 rfl ?_
  refine z_ishl X dX8_lower_7 ?_
  refine z_iconst (v := (-1 : Int32)) X dX8_lower_8 (by decide) ?_
  refine z_ixor X dX8_lower_9 ?_
  refine z_iand X dX8_lower_10 ?_
  obtain ⟨o1, eo1, hF⟩ := nx_e hF
  refine z_put (ws' := (w_X8_lower cA h_t a_t o1 h_p1 a_p1 o_p1 h_p3 a_p3 o_p3)) X k_X8_lower_29 tyX8 tyX8_ok nmX8 rfl rfl 0 rfl (Nat.le_of_ble_eq_true rfl) (by rw [eo1]; rfl) dX8_lower_11 ?_
  refine z_aload_n X dX8_lower_14 rfl 0 rfl ?_
  refine z_dup X dX8_lower_15 rfl ?_
  refine z_get (v := .int (o1 3 0)) X k_X8_lower_32 0 rfl rfl dX8_lower_16 ?_
  refine z_aload_n X dX8_lower_19 rfl 1 rfl ?_
  refine z_get (v := .ref (a_p1 1)) X k_X8_lower_61 4 rfl rfl dX8_lower_20 ?_
  refine z_iload_n X dX8_lower_23 rfl 2 rfl ?_
  obtain ⟨g2, hF⟩ := gi_e hF
  refine z_iald X 5 rfl g2 dX8_lower_24 ?_
  refine z_isub X dX8_lower_25 ?_
  obtain ⟨o3, eo3, hF⟩ := nx_e hF
  refine z_put (ws' := (w_X8_lower cA h_t a_t o3 h_p1 a_p1 o_p1 h_p3 a_p3 o_p3)) X k_X8_lower_32 tyX8 tyX8_ok nmX8 rfl rfl 0 rfl (Nat.le_of_ble_eq_true rfl) (by rw [eo3]; rfl) dX8_lower_26 ?_
  refine z_aload_n X dX8_lower_29 rfl 0 rfl ?_
  refine z_get (v := .ref (a_t 4)) X k_X8_lower_18 0 rfl rfl dX8_lower_30 ?_
  refine z_iload_n X dX8_lower_33 rfl 2 rfl ?_
  refine z_iconst (v := (0 : Int32)) X dX8_lower_34 (by decide) ?_
  obtain ⟨g4, hF⟩ := gi_e hF
  obtain ⟨o5, eo5, hF⟩ := nx_e hF
  refine z_iast (ws' := (w_X8_lower cA h_t a_t o5 h_p1 a_p1 o_p1 h_p3 a_p3 o_p3)) X 1 rfl g4 (by rw [eo5]; rfl) dX8_lower_35 ?_
  refine z_aload_n X dX8_lower_36 rfl 3 rfl ?_
  refine z_iconst (v := (2 : Int32)) X dX8_lower_37 (by decide) ?_
  refine z_iload_n X dX8_lower_38 rfl 2 rfl ?_
  refine z_aload_n X dX8_lower_39 rfl 1 rfl ?_
  refine z_get (v := .ref (a_p1 1)) X k_X8_lower_61 4 rfl rfl dX8_lower_40 ?_
  refine z_iload_n X dX8_lower_43 rfl 2 rfl ?_
  obtain ⟨g6, hF⟩ := gi_e hF
  refine z_iald X 5 rfl g6 dX8_lower_44 ?_
  obtain ⟨o7, hc8, hF⟩ := zb1_e hF
  refine z_Vv (As := [.int (2 : Int32), .int v2, .int (o_p1 1 (Int32.toNatClampNeg v2))]) (rest := []) (wc := (w_X1_add cA h_p3 a_p3 o_p3)) (wc' := (w_X1_add cA h_p3 a_p3 o7)) (ws' := (w_X8_lower cA h_t a_t o5 h_p1 a_p1 o_p1 h_p3 a_p3 o7)) X (cwV 3 X.2.2.2.2.1 gX8_lower_X1_add rfl rfl rfl (by decide +kernel) (by rw [hR]; exact ⟨Nat.le_of_ble_eq_true rfl, Nat.le_of_ble_eq_true rfl⟩)) (fun sz => c_X1_add l D cA g sz h_p3 a_p3 o_p3 (2 : Int32) v2 (o_p1 1 (Int32.toNatClampNeg v2)) o7 hc8) [9, 10, 11, 12] [0, 1, 2, 3, 4, 5, 6, 7, 8, 1000, 1001, 1002, 1003] rfl (by decide) rfl (by decide) rfl rfl rfl rfl rfl rfl (Nat.le_of_ble_eq_true rfl) dX8_lower_45 ⟨Nat.zero_le _, Nat.zero_le _⟩ ?_
  cases hF
  exact z_vret X hA hQ hr dX8_lower_48 (Nat.le_refl _) (Nat.le_refl _)
set_option maxRecDepth 20000 in
theorem h_X8_sinkAll_X8 : ∀ w ∈ wsX80, w ∈ wsX8_sinkAll := by decide +kernel
set_option maxRecDepth 20000 in
theorem k_X8_sinkAll_18 : ZF wsX8_sinkAll RX8 18 8 4 RX8 TX8 7 := ⟨rfl, by decide, h_X8_sinkAll_X8, by decide +kernel⟩
set_option maxRecDepth 20000 in
theorem h_X8_sinkAll_X10 : ∀ w ∈ wsX100, w ∈ wsX8_sinkAll := by decide +kernel
set_option maxRecDepth 20000 in
theorem k_X8_sinkAll_97 : ZF wsX8_sinkAll RX8 97 10 0 RX10 TX10 5 := ⟨rfl, by decide, h_X8_sinkAll_X10, by decide +kernel⟩
set_option maxHeartbeats 8000000 in
set_option maxRecDepth 100000 in
theorem c_X8_sinkAll (l : Launch) (D : va_G) (cA : Nat → ClassId) (g : Nat → Nat) (sz : Nat) (h_t : Nat) (a_t : Nat → Nat) (o_t : Ob) (h_p1 : Nat) (a_p1 : Nat → Nat) (o_p1 : Ob) (v2 : Int32) (o_t' : Ob) (hF : f_X8_sinkAll o_t o_p1 v2 = some o_t') : Met l yX8_sinkAll wsX8_sinkAll ({ frames := 1, cells := 0, slots := 0, locals := 21 }) (va_Pc [.ref h_t, .ref h_p1, .int v2] (PreW D cA g sz (w_X8_isRipe cA h_t a_t o_t h_p1 a_p1 o_p1))) (va_Qv (fun (_ : Unit) => True) (PostW D cA sz (w_X8_isRipe cA h_t a_t o_t h_p1 a_p1 o_p1) (w_X8_isRipe cA h_t a_t o_t' h_p1 a_p1 o_p1)) (va_A (w_X8_isRipe cA h_t a_t o_t h_p1 a_p1 o_p1) sz)) 0 0 (va_A (w_X8_isRipe cA h_t a_t o_t h_p1 a_p1 o_p1) sz) := by
  refine z_start (cc := cX8_sinkAll) (maxL := 4) (ret := none) (lv0 := [(0, .ref h_t), (1, .ref h_p1), (2, .int v2)]) (Qc := fun sz => va_Qv (fun (_ : Unit) => True) (PostW D cA sz (w_X8_isRipe cA h_t a_t o_t h_p1 a_p1 o_p1) (w_X8_isRipe cA h_t a_t o_t' h_p1 a_p1 o_p1)) (va_A (w_X8_isRipe cA h_t a_t o_t h_p1 a_p1 o_p1) sz)) (free := fun sz => va_A (w_X8_isRipe cA h_t a_t o_t h_p1 a_p1 o_p1) sz) (by decide +kernel) rfl rfl (Nat.le_of_ble_eq_true rfl) ?_
  intro p e R s m args below meth c A Q hR hA hQ X hr hin
  unfold f_X8_sinkAll at hF
  refine z_iconst (v := (0 : Int32)) X dX8_sinkAll_0 (by decide) ?_
  refine z_istore_n (lv' := [(3, .int (0 : Int32)), (0, .ref h_t), (1, .ref h_p1), (2, .int v2)]) X dX8_sinkAll_1 rfl (by decide) rfl ?_
  obtain ⟨o15, hL, hF⟩ := zb1_e hF
  have L16_x : ∀ (o15' : Ob), o15' = o15 → ZW p l e R s m args below meth c D A 4 0 0 Q (w_X8_isRipe cA h_t a_t o15' h_p1 a_p1 o_p1) [] 34 [] := by
    intro o15' hz
    cases hz
    cases hF
    exact z_vret X hA hQ hr dX8_sinkAll_34 (Nat.le_refl _) (Nat.le_refl _)
  obtain ⟨B27, hBB27, hL⟩ := zl2_b hL
  have L16 : ∀ (n : Nat) (o13 : Ob) (k14 : Int32), zl2 B27 n o13 k14 = some o15 → ZW p l e R s m args below meth c D A 4 0 0 Q (w_X8_isRipe cA h_t a_t o13 h_p1 a_p1 o_p1) [(0, .ref h_t), (1, .ref h_p1), (2, .int v2), (3, .int k14)] 2 [] := by
    intro n
    induction n with
    | zero => intro o13 k14 hL; cases hL
    | succ n ih =>
      intro o13 k14 hL
      obtain ⟨zz17, hF, hL⟩ := zl2_e hL
      rw [hBB27] at hF
      refine z_iload_n X dX8_sinkAll_2 rfl 3 rfl ?_
      refine z_aload_n X dX8_sinkAll_3 rfl 1 rfl ?_
      refine z_get (v := .int (o_p1 0 0)) X k_X8_sinkAll_97 4 rfl rfl dX8_sinkAll_4 ?_
      have hF := if_e hF
      refine z_icmp_ge (tgt := 34) X dX8_sinkAll_7 (by decide) (fun c26 => ?_) (fun c26 => ?_)
      · have hF := hF.1 c26
        cases hF
        have hL := Option.some.inj hL
        refine z_lv (lv' := []) [] rfl ?_
        exact L16_x o13 hL
      · have hF := hF.2 c26
        refine z_aload_n X dX8_sinkAll_10 rfl 0 rfl ?_
        refine z_iload_n X dX8_sinkAll_11 rfl 3 rfl ?_
        obtain ⟨r18, hc19, hF⟩ := zb1_e hF
        refine z_Vi (As := [.int k14]) (rest := []) (wc := (w_X8_begin cA h_t a_t o13)) (wc' := (w_X8_begin cA h_t a_t o13)) (ws' := (w_X8_isRipe cA h_t a_t o13 h_p1 a_p1 o_p1)) (rv := r18) X (cwV 1 X.2.2.2.2.1 gX8_sinkAll_X8_holds rfl rfl rfl (by decide +kernel) (by rw [hR]; exact ⟨Nat.le_of_ble_eq_true rfl, Nat.le_of_ble_eq_true rfl⟩)) (fun sz => c_X8_holds l D cA g sz h_t a_t o13 k14 r18 hc19) [0, 1, 2, 3] [1000, 1001, 1002, 1003, 4, 5, 6, 7, 8] rfl (by decide) rfl (by decide) rfl rfl rfl rfl rfl rfl (Nat.le_of_ble_eq_true rfl) dX8_sinkAll_12 ⟨Nat.zero_le _, Nat.zero_le _⟩ ?_
        have hF := if_e hF
        refine z_if_eq (tgt := 28) X dX8_sinkAll_15 (by decide) (fun c25 => ?_) (fun c25 => ?_)
        · have hF := hF.1 c25
          obtain ⟨x20, ex20, hF⟩ := nx_e hF
          refine z_iinc (v := x20) (lv' := [(3, .int x20), (0, .ref h_t), (1, .ref h_p1), (2, .int v2)]) (j := 3) X dX8_sinkAll_28 rfl (by rw [ex20]; rfl) (by decide) rfl ?_
          refine z_goto (tgt := 2) X dX8_sinkAll_31 (by decide) ?_
          cases hF
          refine z_lv (lv' := [(0, .ref h_t), (1, .ref h_p1), (2, .int v2), (3, .int x20)]) [1, 2, 3, 0] rfl ?_
          exact ih o13 x20 hL
        · have hF := hF.2 c25
          refine z_aload_n X dX8_sinkAll_18 rfl 0 rfl ?_
          refine z_get (v := .ref (a_t 4)) X k_X8_sinkAll_18 0 rfl rfl dX8_sinkAll_19 ?_
          refine z_iload_n X dX8_sinkAll_22 rfl 3 rfl ?_
          refine z_dup2 X dX8_sinkAll_23 rfl rfl ?_
          obtain ⟨g21, hF⟩ := gi_e hF
          refine z_iald X 1 rfl g21 dX8_sinkAll_24 ?_
          refine z_iload_n X dX8_sinkAll_25 rfl 2 rfl ?_
          refine z_isub X dX8_sinkAll_26 ?_
          obtain ⟨g22, hF⟩ := gi_e hF
          obtain ⟨o23, eo23, hF⟩ := nx_e hF
          refine z_iast (ws' := (w_X8_isRipe cA h_t a_t o23 h_p1 a_p1 o_p1)) X 1 rfl g22 (by rw [eo23]; rfl) dX8_sinkAll_27 ?_
          obtain ⟨x24, ex24, hF⟩ := nx_e hF
          refine z_iinc (v := x24) (lv' := [(3, .int x24), (0, .ref h_t), (1, .ref h_p1), (2, .int v2)]) (j := 3) X dX8_sinkAll_28 rfl (by rw [ex24]; rfl) (by decide) rfl ?_
          refine z_goto (tgt := 2) X dX8_sinkAll_31 (by decide) ?_
          cases hF
          refine z_lv (lv' := [(0, .ref h_t), (1, .ref h_p1), (2, .int v2), (3, .int x24)]) [1, 2, 3, 0] rfl ?_
          exact ih o23 x24 hL
  refine z_lv (lv' := [(0, .ref h_t), (1, .ref h_p1), (2, .int v2), (3, .int (0 : Int32))]) [1, 2, 3, 0] rfl ?_
  exact L16 FU o_t (0 : Int32) hL
set_option maxRecDepth 20000 in
theorem h_X8_makeWay_X8 : ∀ w ∈ wsX80, w ∈ wsX8_makeWay := by decide +kernel
set_option maxRecDepth 20000 in
theorem k_X8_makeWay_18 : ZF wsX8_makeWay RX8 18 8 4 RX8 TX8 7 := ⟨rfl, by decide, h_X8_makeWay_X8, by decide +kernel⟩
set_option maxHeartbeats 8000000 in
set_option maxRecDepth 100000 in
theorem c_X8_makeWay (l : Launch) (D : va_G) (cA : Nat → ClassId) (g : Nat → Nat) (sz : Nat) (h_t : Nat) (a_t : Nat → Nat) (o_t : Ob) (h_p1 : Nat) (a_p1 : Nat → Nat) (o_p1 : Ob) (h_p3 : Nat) (a_p3 : Nat → Nat) (o_p3 : Ob) (v2 : Int32) (o_t' : Ob) (o_p3' : Ob) (hF : f_X8_makeWay o_t o_p1 o_p3 v2 = some (o_t', o_p3')) : Met l yX8_makeWay wsX8_makeWay ({ frames := 2, cells := 0, slots := 0, locals := 46 }) (va_Pc [.ref h_t, .ref h_p1, .int v2, .ref h_p3] (PreW D cA g sz (w_X8_lower cA h_t a_t o_t h_p1 a_p1 o_p1 h_p3 a_p3 o_p3))) (va_Qv (fun (_ : Unit) => True) (PostW D cA sz (w_X8_lower cA h_t a_t o_t h_p1 a_p1 o_p1 h_p3 a_p3 o_p3) (w_X8_lower cA h_t a_t o_t' h_p1 a_p1 o_p1 h_p3 a_p3 o_p3')) (va_A (w_X8_lower cA h_t a_t o_t h_p1 a_p1 o_p1 h_p3 a_p3 o_p3) sz)) 0 0 (va_A (w_X8_lower cA h_t a_t o_t h_p1 a_p1 o_p1 h_p3 a_p3 o_p3) sz) := by
  refine z_start (cc := cX8_makeWay) (maxL := 6) (ret := none) (lv0 := [(0, .ref h_t), (1, .ref h_p1), (2, .int v2), (3, .ref h_p3)]) (Qc := fun sz => va_Qv (fun (_ : Unit) => True) (PostW D cA sz (w_X8_lower cA h_t a_t o_t h_p1 a_p1 o_p1 h_p3 a_p3 o_p3) (w_X8_lower cA h_t a_t o_t' h_p1 a_p1 o_p1 h_p3 a_p3 o_p3')) (va_A (w_X8_lower cA h_t a_t o_t h_p1 a_p1 o_p1 h_p3 a_p3 o_p3) sz)) (free := fun sz => va_A (w_X8_lower cA h_t a_t o_t h_p1 a_p1 o_p1 h_p3 a_p3 o_p3) sz) (by decide +kernel) rfl rfl (Nat.le_of_ble_eq_true rfl) ?_
  intro p e R s m args below meth c A Q hR hA hQ X hr hin
  unfold f_X8_makeWay at hF
  refine z_iconst (v := (0 : Int32)) X dX8_makeWay_0 (by decide) ?_
  refine z_istore (lv' := [(4, .int (0 : Int32)), (0, .ref h_t), (1, .ref h_p1), (2, .int v2), (3, .ref h_p3)]) X dX8_makeWay_1 (by decide) rfl ?_
  obtain ⟨z46, hL, hFx, L27_r⟩ := ze2_e hF
  have L27_x : ∀ (o25 : Ob) (o26 : Ob), z46 = .inl (o25, o26) → ZW p l e R s m args below meth c D A 6 0 0 Q (w_X8_lower cA h_t a_t o25 h_p1 a_p1 o_p1 h_p3 a_p3 o26) [] 71 [] := by
    intro o25 o26 hz
    have hF := hFx o25 o26 hz
    cases hF
    exact z_vret X hA hQ hr dX8_makeWay_71 (Nat.le_refl _) (Nat.le_refl _)
  obtain ⟨B47, hBB47, hL⟩ := zl3_b hL
  have L27 : ∀ (n : Nat) (o22 : Ob) (o23 : Ob) (k24 : Int32), zl3 B47 n o22 o23 k24 = some z46 → ZW p l e R s m args below meth c D A 6 0 0 Q (w_X8_lower cA h_t a_t o22 h_p1 a_p1 o_p1 h_p3 a_p3 o23) [(0, .ref h_t), (1, .ref h_p1), (2, .int v2), (3, .ref h_p3), (4, .int k24)] 3 [] := by
    intro n
    induction n with
    | zero => intro o22 o23 k24 hL; cases hL
    | succ n ih =>
      intro o22 o23 k24 hL
      obtain ⟨zz28, hF, hL⟩ := zl3_e hL
      rw [hBB47] at hF
      refine z_iload X dX8_makeWay_3 4 rfl ?_
      refine z_bipush (v := (16 : Int32)) X dX8_makeWay_5 (by decide) ?_
      have hF := if_e hF
      refine z_icmp_ge (tgt := 71) X dX8_makeWay_7 (by decide) (fun c45 => ?_) (fun c45 => ?_)
      · have hF := hF.1 c45
        cases hF
        have hL := Option.some.inj hL
        refine z_lv (lv' := []) [] rfl ?_
        exact L27_x o22 o23 hL.symm
      · have hF := hF.2 c45
        refine z_aload_n X dX8_makeWay_10 rfl 0 rfl ?_
        obtain ⟨r29, hc30, hF⟩ := zb1_e hF
        refine z_Vi (As := []) (rest := []) (wc := (w_X8_begin cA h_t a_t o22)) (wc' := (w_X8_begin cA h_t a_t o22)) (ws' := (w_X8_lower cA h_t a_t o22 h_p1 a_p1 o_p1 h_p3 a_p3 o23)) (rv := r29) X (cwV 0 X.2.2.2.2.1 gX8_makeWay_X8_free rfl rfl rfl (by decide +kernel) (by rw [hR]; exact ⟨Nat.le_of_ble_eq_true rfl, Nat.le_of_ble_eq_true rfl⟩)) (fun sz => c_X8_free l D cA g sz h_t a_t o22 r29 hc30) [0, 1, 2, 3] [1000, 1001, 1002, 1003, 4, 5, 6, 7, 8, 9, 10, 11, 12] rfl (by decide) rfl (by decide) rfl rfl rfl rfl rfl rfl (Nat.le_of_ble_eq_true rfl) dX8_makeWay_11 ⟨Nat.zero_le _, Nat.zero_le _⟩ ?_
        refine z_iload_n X dX8_makeWay_14 rfl 2 rfl ?_
        have hF := if_e hF
        refine z_icmp_ge (tgt := 71) X dX8_makeWay_15 (by decide) (fun c44 => ?_) (fun c44 => ?_)
        · have hF := hF.1 c44
          cases hF
          have hL := Option.some.inj hL
          refine z_lv (lv' := []) [] rfl ?_
          exact L27_x o22 o23 hL.symm
        · have hF := hF.2 c44
          refine z_aload_n X dX8_makeWay_18 rfl 0 rfl ?_
          refine z_aload_n X dX8_makeWay_19 rfl 1 rfl ?_
          obtain ⟨r31, hc32, hF⟩ := zb1_e hF
          refine z_Vi (As := [.ref h_p1]) (rest := []) (wc := (w_X8_isRipe cA h_t a_t o22 h_p1 a_p1 o_p1)) (wc' := (w_X8_isRipe cA h_t a_t o22 h_p1 a_p1 o_p1)) (ws' := (w_X8_lower cA h_t a_t o22 h_p1 a_p1 o_p1 h_p3 a_p3 o23)) (rv := r31) X (cwV 1 X.2.2.2.2.1 gX8_makeWay_X8_poorestOnFast rfl rfl rfl (by decide +kernel) (by rw [hR]; exact ⟨Nat.le_of_ble_eq_true rfl, Nat.le_of_ble_eq_true rfl⟩)) (fun sz => c_X8_poorestOnFast l D cA g sz h_t a_t o22 h_p1 a_p1 o_p1 r31 hc32) [0, 1, 2, 3, 4, 5, 6, 7, 8] [1000, 1001, 1002, 1003, 1004, 1005, 1006, 1007, 1008, 9, 10, 11, 12] rfl (by decide) rfl (by decide) rfl rfl rfl rfl rfl rfl (Nat.le_of_ble_eq_true rfl) dX8_makeWay_20 ⟨Nat.zero_le _, Nat.zero_le _⟩ ?_
          refine z_istore (lv' := [(5, .int r31), (0, .ref h_t), (1, .ref h_p1), (2, .int v2), (3, .ref h_p3), (4, .int k24)]) X dX8_makeWay_23 (by decide) rfl ?_
          refine z_iload X dX8_makeWay_25 0 rfl ?_
          refine z_iconst (v := (-1 : Int32)) X dX8_makeWay_27 (by decide) ?_
          have hF := if_e hF
          refine z_icmp_ne (tgt := 32) X dX8_makeWay_28 (by decide) (fun c43 => ?_) (fun c43 => ?_)
          · have hF := hF.2 c43
            refine z_aload_n X dX8_makeWay_32 rfl 1 rfl ?_
            refine z_get (v := .ref (a_t 4)) X k_X8_makeWay_18 0 rfl rfl dX8_makeWay_33 ?_
            refine z_iload X dX8_makeWay_36 0 rfl ?_
            obtain ⟨g33, hF⟩ := gi_e hF
            refine z_iald X 1 rfl g33 dX8_makeWay_38 ?_
            have hF := if_e hF
            refine z_if_ne (tgt := 53) X dX8_makeWay_39 (by decide) (fun c42 => ?_) (fun c42 => ?_)
            · have hF := hF.2 c42
              refine z_aload_n X dX8_makeWay_53 rfl 1 rfl ?_
              refine z_aload_n X dX8_makeWay_54 rfl 2 rfl ?_
              refine z_aload_n X dX8_makeWay_55 rfl 1 rfl ?_
              refine z_get (v := .ref (a_t 4)) X k_X8_makeWay_18 0 rfl rfl dX8_makeWay_56 ?_
              refine z_iload X dX8_makeWay_59 0 rfl ?_
              obtain ⟨g34, hF⟩ := gi_e hF
              refine z_iald X 1 rfl g34 dX8_makeWay_61 ?_
              obtain ⟨o35, hc36, hF⟩ := zb1_e hF
              refine z_Vv (As := [.ref h_p1, .int (o22 4 (Int32.toNatClampNeg r31))]) (rest := []) (wc := (w_X8_isRipe cA h_t a_t o22 h_p1 a_p1 o_p1)) (wc' := (w_X8_isRipe cA h_t a_t o35 h_p1 a_p1 o_p1)) (ws' := (w_X8_lower cA h_t a_t o35 h_p1 a_p1 o_p1 h_p3 a_p3 o23)) X (cwV 2 X.2.2.2.2.1 gX8_makeWay_X8_sinkAll rfl rfl rfl (by decide +kernel) (by rw [hR]; exact ⟨Nat.le_of_ble_eq_true rfl, Nat.le_of_ble_eq_true rfl⟩)) (fun sz => c_X8_sinkAll l D cA g sz h_t a_t o22 h_p1 a_p1 o_p1 (o22 4 (Int32.toNatClampNeg r31)) o35 hc36) [0, 1, 2, 3, 4, 5, 6, 7, 8] [1000, 1001, 1002, 1003, 1004, 1005, 1006, 1007, 1008, 9, 10, 11, 12] rfl (by decide) rfl (by decide) rfl rfl rfl rfl rfl rfl (Nat.le_of_ble_eq_true rfl) dX8_makeWay_62 ⟨Nat.zero_le _, Nat.zero_le _⟩ ?_
              obtain ⟨x37, ex37, hF⟩ := nx_e hF
              refine z_iinc (v := x37) (lv' := [(4, .int x37), (5, .int r31), (0, .ref h_t), (1, .ref h_p1), (2, .int v2), (3, .ref h_p3)]) (j := 5) X dX8_makeWay_65 rfl (by rw [ex37]; rfl) (by decide) rfl ?_
              refine z_goto (tgt := 3) X dX8_makeWay_68 (by decide) ?_
              cases hF
              refine z_lv (lv' := [(0, .ref h_t), (1, .ref h_p1), (2, .int v2), (3, .ref h_p3), (4, .int x37)]) [2, 3, 4, 5, 0] rfl ?_
              exact ih o35 o23 x37 hL
            · have hF := hF.1 c42
              refine z_aload_n X dX8_makeWay_42 rfl 1 rfl ?_
              refine z_aload_n X dX8_makeWay_43 rfl 2 rfl ?_
              refine z_iload X dX8_makeWay_44 0 rfl ?_
              refine z_aload_n X dX8_makeWay_46 rfl 4 rfl ?_
              obtain ⟨o38, o39, hc40, hF⟩ := zb2_e hF
              refine z_Vv (As := [.ref h_p1, .int r31, .ref h_p3]) (rest := []) (wc := (w_X8_lower cA h_t a_t o22 h_p1 a_p1 o_p1 h_p3 a_p3 o23)) (wc' := (w_X8_lower cA h_t a_t o38 h_p1 a_p1 o_p1 h_p3 a_p3 o39)) (ws' := (w_X8_lower cA h_t a_t o38 h_p1 a_p1 o_p1 h_p3 a_p3 o39)) X (cwV 3 X.2.2.2.2.1 gX8_makeWay_X8_lower rfl rfl rfl (by decide +kernel) (by rw [hR]; exact ⟨Nat.le_of_ble_eq_true rfl, Nat.le_of_ble_eq_true rfl⟩)) (fun sz => c_X8_lower l D cA g sz h_t a_t o22 h_p1 a_p1 o_p1 h_p3 a_p3 o23 r31 o38 o39 hc40) [0, 1, 2, 3, 4, 5, 6, 7, 8, 9, 10, 11, 12] [1000, 1001, 1002, 1003, 1004, 1005, 1006, 1007, 1008, 1009, 1010, 1011, 1012] rfl (by decide) rfl (by decide) rfl rfl rfl rfl rfl rfl (Nat.le_of_ble_eq_true rfl) dX8_makeWay_47 ⟨Nat.zero_le _, Nat.zero_le _⟩ ?_
              refine z_goto (tgt := 65) X dX8_makeWay_50 (by decide) ?_
              obtain ⟨x41, ex41, hF⟩ := nx_e hF
              refine z_iinc (v := x41) (lv' := [(4, .int x41), (5, .int r31), (0, .ref h_t), (1, .ref h_p1), (2, .int v2), (3, .ref h_p3)]) (j := 5) X dX8_makeWay_65 rfl (by rw [ex41]; rfl) (by decide) rfl ?_
              refine z_goto (tgt := 3) X dX8_makeWay_68 (by decide) ?_
              cases hF
              refine z_lv (lv' := [(0, .ref h_t), (1, .ref h_p1), (2, .int v2), (3, .ref h_p3), (4, .int x41)]) [2, 3, 4, 5, 0] rfl ?_
              exact ih o38 o39 x41 hL
          · have hF := hF.1 c43
            cases hF
            have hL := (Option.some.inj hL).symm
            have hF := L27_r _ hL
            cases hF
            exact z_vret X hA hQ hr dX8_makeWay_31 (Nat.le_refl _) (Nat.le_refl _)
  refine z_lv (lv' := [(0, .ref h_t), (1, .ref h_p1), (2, .int v2), (3, .ref h_p3), (4, .int (0 : Int32))]) [1, 2, 3, 4, 0] rfl ?_
  exact L27 FU o_t o_p3 (0 : Int32) hL
set_option maxRecDepth 20000 in
theorem h_X8_raise_X8 : ∀ w ∈ wsX80, w ∈ wsX8_raise := by decide +kernel
set_option maxRecDepth 20000 in
theorem k_X8_raise_18 : ZF wsX8_raise RX8 18 8 4 RX8 TX8 7 := ⟨rfl, by decide, h_X8_raise_X8, by decide +kernel⟩
set_option maxRecDepth 20000 in
theorem k_X8_raise_22 : ZF wsX8_raise RX8 22 8 5 RX8 TX8 7 := ⟨rfl, by decide, h_X8_raise_X8, by decide +kernel⟩
set_option maxRecDepth 20000 in
theorem k_X8_raise_29 : ZF wsX8_raise RX8 29 8 2 RX8 TX8 7 := ⟨rfl, by decide, h_X8_raise_X8, by decide +kernel⟩
set_option maxRecDepth 20000 in
theorem k_X8_raise_32 : ZF wsX8_raise RX8 32 8 3 RX8 TX8 7 := ⟨rfl, by decide, h_X8_raise_X8, by decide +kernel⟩
set_option maxRecDepth 20000 in
theorem h_X8_raise_X10 : ∀ w ∈ wsX100, w ∈ wsX8_raise := by decide +kernel
set_option maxRecDepth 20000 in
theorem k_X8_raise_61 : ZF wsX8_raise RX8 61 10 1 RX10 TX10 5 := ⟨rfl, by decide, h_X8_raise_X10, by decide +kernel⟩
set_option maxRecDepth 20000 in
theorem k_X8_raise_78 : ZF wsX8_raise RX8 78 10 2 RX10 TX10 5 := ⟨rfl, by decide, h_X8_raise_X10, by decide +kernel⟩
set_option maxHeartbeats 8000000 in
set_option maxRecDepth 100000 in
theorem c_X8_raise (l : Launch) (D : va_G) (cA : Nat → ClassId) (g : Nat → Nat) (sz : Nat) (h_t : Nat) (a_t : Nat → Nat) (o_t : Ob) (h_p1 : Nat) (a_p1 : Nat → Nat) (o_p1 : Ob) (h_p3 : Nat) (a_p3 : Nat → Nat) (o_p3 : Ob) (v2 : Int32) (o_t' : Ob) (o_p3' : Ob) (hF : f_X8_raise o_t o_p1 o_p3 v2 = some (o_t', o_p3')) : Met l yX8_raise wsX8_raise ({ frames := 1, cells := 0, slots := 0, locals := 23 }) (va_Pc [.ref h_t, .ref h_p1, .int v2, .ref h_p3] (PreW D cA g sz (w_X8_lower cA h_t a_t o_t h_p1 a_p1 o_p1 h_p3 a_p3 o_p3))) (va_Qv (fun (_ : Unit) => True) (PostW D cA sz (w_X8_lower cA h_t a_t o_t h_p1 a_p1 o_p1 h_p3 a_p3 o_p3) (w_X8_lower cA h_t a_t o_t' h_p1 a_p1 o_p1 h_p3 a_p3 o_p3')) (va_A (w_X8_lower cA h_t a_t o_t h_p1 a_p1 o_p1 h_p3 a_p3 o_p3) sz)) 0 0 (va_A (w_X8_lower cA h_t a_t o_t h_p1 a_p1 o_p1 h_p3 a_p3 o_p3) sz) := by
  refine z_start (cc := cX8_raise) (maxL := 4) (ret := none) (lv0 := [(0, .ref h_t), (1, .ref h_p1), (2, .int v2), (3, .ref h_p3)]) (Qc := fun sz => va_Qv (fun (_ : Unit) => True) (PostW D cA sz (w_X8_lower cA h_t a_t o_t h_p1 a_p1 o_p1 h_p3 a_p3 o_p3) (w_X8_lower cA h_t a_t o_t' h_p1 a_p1 o_p1 h_p3 a_p3 o_p3')) (va_A (w_X8_lower cA h_t a_t o_t h_p1 a_p1 o_p1 h_p3 a_p3 o_p3) sz)) (free := fun sz => va_A (w_X8_lower cA h_t a_t o_t h_p1 a_p1 o_p1 h_p3 a_p3 o_p3) sz) (by decide +kernel) rfl rfl (Nat.le_of_ble_eq_true rfl) ?_
  intro p e R s m args below meth c A Q hR hA hQ X hr hin
  unfold f_X8_raise at hF
  refine z_aload_n X dX8_raise_0 rfl 0 rfl ?_
  refine z_dup X dX8_raise_1 rfl ?_
  refine z_get (v := .int (o_t 2 0)) X k_X8_raise_29 0 rfl rfl dX8_raise_2 ?_
  refine z_iconst (v := (1 : Int32)) X dX8_raise_5 (by decide) ?_
  refine z_iload_n X dX8_raise_6 rfl 2 rfl ?_
  refine z_ishl X dX8_raise_7 ?_
  refine z_ior X dX8_raise_8 ?_
  obtain ⟨o1, eo1, hF⟩ := nx_e hF
  refine z_put (ws' := (w_X8_lower cA h_t a_t o1 h_p1 a_p1 o_p1 h_p3 a_p3 o_p3)) X k_X8_raise_29 tyX8 tyX8_ok nmX8 rfl rfl 0 rfl (Nat.le_of_ble_eq_true rfl) (by rw [eo1]; rfl) dX8_raise_9 ?_
  refine z_aload_n X dX8_raise_12 rfl 0 rfl ?_
  refine z_dup X dX8_raise_13 rfl ?_
  refine z_get (v := .int (o1 3 0)) X k_X8_raise_32 0 rfl rfl dX8_raise_14 ?_
  refine z_aload_n X dX8_raise_17 rfl 1 rfl ?_
  refine z_get (v := .ref (a_p1 1)) X k_X8_raise_61 4 rfl rfl dX8_raise_18 ?_
  refine z_iload_n X dX8_raise_21 rfl 2 rfl ?_
  obtain ⟨g2, hF⟩ := gi_e hF
  refine z_iald X 5 rfl g2 dX8_raise_22 ?_
  refine z_iadd X dX8_raise_23 ?_
  obtain ⟨o3, eo3, hF⟩ := nx_e hF
  refine z_put (ws' := (w_X8_lower cA h_t a_t o3 h_p1 a_p1 o_p1 h_p3 a_p3 o_p3)) X k_X8_raise_32 tyX8 tyX8_ok nmX8 rfl rfl 0 rfl (Nat.le_of_ble_eq_true rfl) (by rw [eo3]; rfl) dX8_raise_24 ?_
  refine z_aload_n X dX8_raise_27 rfl 0 rfl ?_
  refine z_get (v := .ref (a_t 4)) X k_X8_raise_18 0 rfl rfl dX8_raise_28 ?_
  refine z_iload_n X dX8_raise_31 rfl 2 rfl ?_
  refine z_aload_n X dX8_raise_32 rfl 1 rfl ?_
  refine z_iload_n X dX8_raise_33 rfl 2 rfl ?_
  obtain ⟨r4, hc5, hF⟩ := zb1_e hF
  refine z_Vi (As := [.int v2]) (rest := [.int v2, .ref (a_t 4)]) (wc := (w_X10_numberOf cA h_p1 a_p1 o_p1)) (wc' := (w_X10_numberOf cA h_p1 a_p1 o_p1)) (ws' := (w_X8_lower cA h_t a_t o3 h_p1 a_p1 o_p1 h_p3 a_p3 o_p3)) (rv := r4) X (cwV 1 X.2.2.2.2.1 gX8_raise_X10_fullDensity rfl rfl rfl (by decide +kernel) (by rw [hR]; exact ⟨Nat.le_of_ble_eq_true rfl, Nat.le_of_ble_eq_true rfl⟩)) (fun sz => c_X10_fullDensity l D cA g sz h_p1 a_p1 o_p1 v2 r4 hc5) [4, 5, 6, 7, 8] [0, 1, 2, 3, 1000, 1001, 1002, 1003, 1004, 9, 10, 11, 12] rfl (by decide) rfl (by decide) rfl rfl rfl rfl rfl rfl (Nat.le_of_ble_eq_true rfl) dX8_raise_34 ⟨Nat.zero_le _, Nat.zero_le _⟩ ?_
  obtain ⟨g6, hF⟩ := gi_e hF
  obtain ⟨o7, eo7, hF⟩ := nx_e hF
  refine z_iast (ws' := (w_X8_lower cA h_t a_t o7 h_p1 a_p1 o_p1 h_p3 a_p3 o_p3)) X 1 rfl g6 (by rw [eo7]; rfl) dX8_raise_37 ?_
  refine z_aload_n X dX8_raise_38 rfl 0 rfl ?_
  refine z_get (v := .ref (a_t 5)) X k_X8_raise_22 0 rfl rfl dX8_raise_39 ?_
  refine z_iload_n X dX8_raise_42 rfl 2 rfl ?_
  refine z_iconst (v := (0 : Int32)) X dX8_raise_43 (by decide) ?_
  obtain ⟨g8, hF⟩ := gi_e hF
  obtain ⟨o9, eo9, hF⟩ := nx_e hF
  refine z_iast (ws' := (w_X8_lower cA h_t a_t o9 h_p1 a_p1 o_p1 h_p3 a_p3 o_p3)) X 2 rfl g8 (by rw [eo9]; rfl) dX8_raise_44 ?_
  refine z_aload_n X dX8_raise_45 rfl 3 rfl ?_
  refine z_iconst (v := (3 : Int32)) X dX8_raise_46 (by decide) ?_
  refine z_iload_n X dX8_raise_47 rfl 2 rfl ?_
  refine z_aload_n X dX8_raise_48 rfl 1 rfl ?_
  refine z_get (v := .ref (a_p1 2)) X k_X8_raise_78 4 rfl rfl dX8_raise_49 ?_
  refine z_iload_n X dX8_raise_52 rfl 2 rfl ?_
  obtain ⟨g10, hF⟩ := gi_e hF
  refine z_iald X 6 rfl g10 dX8_raise_53 ?_
  obtain ⟨o11, hc12, hF⟩ := zb1_e hF
  refine z_Vv (As := [.int (3 : Int32), .int v2, .int (o_p1 2 (Int32.toNatClampNeg v2))]) (rest := []) (wc := (w_X1_add cA h_p3 a_p3 o_p3)) (wc' := (w_X1_add cA h_p3 a_p3 o11)) (ws' := (w_X8_lower cA h_t a_t o9 h_p1 a_p1 o_p1 h_p3 a_p3 o11)) X (cwV 3 X.2.2.2.2.1 gX8_raise_X1_add rfl rfl rfl (by decide +kernel) (by rw [hR]; exact ⟨Nat.le_of_ble_eq_true rfl, Nat.le_of_ble_eq_true rfl⟩)) (fun sz => c_X1_add l D cA g sz h_p3 a_p3 o_p3 (3 : Int32) v2 (o_p1 2 (Int32.toNatClampNeg v2)) o11 hc12) [9, 10, 11, 12] [0, 1, 2, 3, 4, 5, 6, 7, 8, 1000, 1001, 1002, 1003] rfl (by decide) rfl (by decide) rfl rfl rfl rfl rfl rfl (Nat.le_of_ble_eq_true rfl) dX8_raise_54 ⟨Nat.zero_le _, Nat.zero_le _⟩ ?_
  cases hF
  exact z_vret X hA hQ hr dX8_raise_57 (Nat.le_refl _) (Nat.le_refl _)
set_option maxRecDepth 20000 in
theorem h_X8_serve_X8 : ∀ w ∈ wsX80, w ∈ wsX8_serve := by decide +kernel
set_option maxRecDepth 20000 in
theorem k_X8_serve_9 : ZF wsX8_serve RX8 9 8 0 RX8 TX8 7 := ⟨rfl, by decide, h_X8_serve_X8, by decide +kernel⟩
set_option maxRecDepth 20000 in
theorem k_X8_serve_15 : ZF wsX8_serve RX8 15 8 1 RX8 TX8 7 := ⟨rfl, by decide, h_X8_serve_X8, by decide +kernel⟩
set_option maxRecDepth 20000 in
theorem k_X8_serve_18 : ZF wsX8_serve RX8 18 8 4 RX8 TX8 7 := ⟨rfl, by decide, h_X8_serve_X8, by decide +kernel⟩
set_option maxRecDepth 20000 in
theorem h_X8_serve_X10 : ∀ w ∈ wsX100, w ∈ wsX8_serve := by decide +kernel
set_option maxRecDepth 20000 in
theorem k_X8_serve_61 : ZF wsX8_serve RX8 61 10 1 RX10 TX10 5 := ⟨rfl, by decide, h_X8_serve_X10, by decide +kernel⟩
set_option maxRecDepth 20000 in
theorem k_X8_serve_64 : ZF wsX8_serve RX8 64 10 3 RX10 TX10 5 := ⟨rfl, by decide, h_X8_serve_X10, by decide +kernel⟩
set_option maxRecDepth 20000 in
theorem k_X8_serve_78 : ZF wsX8_serve RX8 78 10 2 RX10 TX10 5 := ⟨rfl, by decide, h_X8_serve_X10, by decide +kernel⟩
set_option maxHeartbeats 8000000 in
set_option maxRecDepth 100000 in
theorem c_X8_serve (l : Launch) (D : va_G) (cA : Nat → ClassId) (g : Nat → Nat) (sz : Nat) (h_t : Nat) (a_t : Nat → Nat) (o_t : Ob) (h_p1 : Nat) (a_p1 : Nat → Nat) (o_p1 : Ob) (h_p3 : Nat) (a_p3 : Nat → Nat) (o_p3 : Ob) (v2 : Int32) (o_t' : Ob) (o_p3' : Ob) (rv : Int32) (hF : f_X8_serve o_t o_p1 o_p3 v2 = some (o_t', o_p3', rv)) : Met l yX8_serve wsX8_serve ({ frames := 3, cells := 0, slots := 0, locals := 71 }) (va_Pc [.ref h_t, .ref h_p1, .int v2, .ref h_p3] (PreW D cA g sz (w_X8_lower cA h_t a_t o_t h_p1 a_p1 o_p1 h_p3 a_p3 o_p3))) (va_Qi (fun (r : Int32) (_ : Unit) => r = rv) (PostW D cA sz (w_X8_lower cA h_t a_t o_t h_p1 a_p1 o_p1 h_p3 a_p3 o_p3) (w_X8_lower cA h_t a_t o_t' h_p1 a_p1 o_p1 h_p3 a_p3 o_p3')) (va_A (w_X8_lower cA h_t a_t o_t h_p1 a_p1 o_p1 h_p3 a_p3 o_p3) sz)) 0 0 (va_A (w_X8_lower cA h_t a_t o_t h_p1 a_p1 o_p1 h_p3 a_p3 o_p3) sz) := by
  refine z_start (cc := cX8_serve) (maxL := 6) (ret := (some .int)) (lv0 := [(0, .ref h_t), (1, .ref h_p1), (2, .int v2), (3, .ref h_p3)]) (Qc := fun sz => va_Qi (fun (r : Int32) (_ : Unit) => r = rv) (PostW D cA sz (w_X8_lower cA h_t a_t o_t h_p1 a_p1 o_p1 h_p3 a_p3 o_p3) (w_X8_lower cA h_t a_t o_t' h_p1 a_p1 o_p1 h_p3 a_p3 o_p3')) (va_A (w_X8_lower cA h_t a_t o_t h_p1 a_p1 o_p1 h_p3 a_p3 o_p3) sz)) (free := fun sz => va_A (w_X8_lower cA h_t a_t o_t h_p1 a_p1 o_p1 h_p3 a_p3 o_p3) sz) (by decide +kernel) rfl rfl (Nat.le_of_ble_eq_true rfl) ?_
  intro p e R s m args below meth c A Q hR hA hQ X hr hin
  unfold f_X8_serve at hF
  refine z_aload_n X dX8_serve_0 rfl 0 rfl ?_
  refine z_iload_n X dX8_serve_1 rfl 2 rfl ?_
  obtain ⟨o1, hc2, hF⟩ := zb1_e hF
  refine z_Vv (As := [.int v2]) (rest := []) (wc := (w_X8_begin cA h_t a_t o_t)) (wc' := (w_X8_begin cA h_t a_t o1)) (ws' := (w_X8_lower cA h_t a_t o1 h_p1 a_p1 o_p1 h_p3 a_p3 o_p3)) X (cwV 1 X.2.2.2.2.1 gX8_serve_X8_warm rfl rfl rfl (by decide +kernel) (by rw [hR]; exact ⟨Nat.le_of_ble_eq_true rfl, Nat.le_of_ble_eq_true rfl⟩)) (fun sz => c_X8_warm l D cA g sz h_t a_t o_t v2 o1 hc2) [0, 1, 2, 3] [1000, 1001, 1002, 1003, 4, 5, 6, 7, 8, 9, 10, 11, 12] rfl (by decide) rfl (by decide) rfl rfl rfl rfl rfl rfl (Nat.le_of_ble_eq_true rfl) dX8_serve_2 ⟨Nat.zero_le _, Nat.zero_le _⟩ ?_
  refine z_aload_n X dX8_serve_5 rfl 0 rfl ?_
  refine z_iload_n X dX8_serve_6 rfl 2 rfl ?_
  obtain ⟨r3, hc4, hF⟩ := zb1_e hF
  refine z_Vi (As := [.int v2]) (rest := []) (wc := (w_X8_begin cA h_t a_t o1)) (wc' := (w_X8_begin cA h_t a_t o1)) (ws' := (w_X8_lower cA h_t a_t o1 h_p1 a_p1 o_p1 h_p3 a_p3 o_p3)) (rv := r3) X (cwV 1 X.2.2.2.2.1 gX8_serve_X8_holds rfl rfl rfl (by decide +kernel) (by rw [hR]; exact ⟨Nat.le_of_ble_eq_true rfl, Nat.le_of_ble_eq_true rfl⟩)) (fun sz => c_X8_holds l D cA g sz h_t a_t o1 v2 r3 hc4) [0, 1, 2, 3] [1000, 1001, 1002, 1003, 4, 5, 6, 7, 8, 9, 10, 11, 12] rfl (by decide) rfl (by decide) rfl rfl rfl rfl rfl rfl (Nat.le_of_ble_eq_true rfl) dX8_serve_7 ⟨Nat.zero_le _, Nat.zero_le _⟩ ?_
  have hF := if_e hF
  refine z_if_eq (tgt := 33) X dX8_serve_10 (by decide) (fun c48 => ?_) (fun c48 => ?_)
  · have hF := hF.1 c48
    refine z_aload_n X dX8_serve_33 rfl 1 rfl ?_
    refine z_get (v := .ref (a_p1 1)) X k_X8_serve_61 4 rfl rfl dX8_serve_34 ?_
    refine z_iload_n X dX8_serve_37 rfl 2 rfl ?_
    obtain ⟨g5, hF⟩ := gi_e hF
    refine z_iald X 5 rfl g5 dX8_serve_38 ?_
    refine z_aload_n X dX8_serve_39 rfl 0 rfl ?_
    refine z_get (v := .int (o1 0 0)) X k_X8_serve_9 0 rfl rfl dX8_serve_40 ?_
    obtain ⟨K8, eK8, hF⟩ := nx_e hF
    have K8_l : ∀ (j7 : Int32), K8 j7 = some (o_t', o_p3', rv) → ZW p l e R s m args below meth c D A 6 0 0 Q (w_X8_lower cA h_t a_t o1 h_p1 a_p1 o_p1 h_p3 a_p3 o_p3) [(0, .ref h_t), (1, .ref h_p1), (2, .int v2), (3, .ref h_p3)] 51 [.int j7] := by
      intro j7 hF
      rw [eK8] at hF
      refine z_istore (lv' := [(4, .int j7), (0, .ref h_t), (1, .ref h_p1), (2, .int v2), (3, .ref h_p3)]) X dX8_serve_51 (by decide) rfl ?_
      refine z_iconst (v := (0 : Int32)) X dX8_serve_53 (by decide) ?_
      refine z_istore (lv' := [(5, .int (0 : Int32)), (4, .int j7), (0, .ref h_t), (1, .ref h_p1), (2, .int v2), (3, .ref h_p3)]) X dX8_serve_54 (by decide) rfl ?_
      refine z_iload X dX8_serve_56 1 rfl ?_
      obtain ⟨K20, eK20, hF⟩ := nx_e hF
      have K20_l : ∀ (j18 : Int32) (q19 : Ob), K20 j18 q19 = some (o_t', o_p3', rv) → ZW p l e R s m args below meth c D A 6 0 0 Q (w_X8_lower cA h_t a_t o1 h_p1 a_p1 o_p1 h_p3 a_p3 q19) [(0, .ref h_t), (1, .ref h_p1), (2, .int v2), (3, .ref h_p3), (4, .int j7), (5, .int j18)] 84 [] := by
        intro j18 q19 hF
        rw [eK20] at hF
        refine z_iload X dX8_serve_84 4 rfl ?_
        have hF := if_e hF
        refine z_if_ne (tgt := 128) X dX8_serve_86 (by decide) (fun c34 => ?_) (fun c34 => ?_)
        · have hF := hF.2 c34
          refine z_iload X dX8_serve_128 5 rfl ?_
          cases hF
          exact z_iret X hA hQ hr rfl dX8_serve_130 (Nat.le_refl _) (Nat.le_refl _)
        · have hF := hF.1 c34
          refine z_aload_n X dX8_serve_89 rfl 0 rfl ?_
          refine z_aload_n X dX8_serve_90 rfl 1 rfl ?_
          refine z_iload_n X dX8_serve_91 rfl 2 rfl ?_
          obtain ⟨o21, r22, hc23, hF⟩ := zb2_e hF
          refine z_Vi (As := [.ref h_p1, .int v2]) (rest := []) (wc := (w_X8_isRipe cA h_t a_t o1 h_p1 a_p1 o_p1)) (wc' := (w_X8_isRipe cA h_t a_t o21 h_p1 a_p1 o_p1)) (ws' := (w_X8_lower cA h_t a_t o21 h_p1 a_p1 o_p1 h_p3 a_p3 q19)) (rv := r22) X (cwV 2 X.2.2.2.2.1 gX8_serve_X8_isRipe rfl rfl rfl (by decide +kernel) (by rw [hR]; exact ⟨Nat.le_of_ble_eq_true rfl, Nat.le_of_ble_eq_true rfl⟩)) (fun sz => c_X8_isRipe l D cA g sz h_t a_t o1 h_p1 a_p1 o_p1 v2 o21 r22 hc23) [0, 1, 2, 3, 4, 5, 6, 7, 8] [1000, 1001, 1002, 1003, 1004, 1005, 1006, 1007, 1008, 9, 10, 11, 12] rfl (by decide) rfl (by decide) rfl rfl rfl rfl rfl rfl (Nat.le_of_ble_eq_true rfl) dX8_serve_92 ⟨Nat.zero_le _, Nat.zero_le _⟩ ?_
          have hF := if_e hF
          refine z_if_eq (tgt := 128) X dX8_serve_95 (by decide) (fun c33 => ?_) (fun c33 => ?_)
          · have hF := hF.1 c33
            refine z_iload X dX8_serve_128 5 rfl ?_
            cases hF
            exact z_iret X hA hQ hr rfl dX8_serve_130 (Nat.le_refl _) (Nat.le_refl _)
          · have hF := hF.2 c33
            refine z_aload_n X dX8_serve_98 rfl 0 rfl ?_
            refine z_aload_n X dX8_serve_99 rfl 1 rfl ?_
            refine z_aload_n X dX8_serve_100 rfl 1 rfl ?_
            refine z_get (v := .ref (a_p1 1)) X k_X8_serve_61 4 rfl rfl dX8_serve_101 ?_
            refine z_iload_n X dX8_serve_104 rfl 2 rfl ?_
            obtain ⟨g24, hF⟩ := gi_e hF
            refine z_iald X 5 rfl g24 dX8_serve_105 ?_
            refine z_aload_n X dX8_serve_106 rfl 3 rfl ?_
            obtain ⟨o25, o26, hc27, hF⟩ := zb2_e hF
            refine z_Vv (As := [.ref h_p1, .int (o_p1 1 (Int32.toNatClampNeg v2)), .ref h_p3]) (rest := []) (wc := (w_X8_lower cA h_t a_t o21 h_p1 a_p1 o_p1 h_p3 a_p3 q19)) (wc' := (w_X8_lower cA h_t a_t o25 h_p1 a_p1 o_p1 h_p3 a_p3 o26)) (ws' := (w_X8_lower cA h_t a_t o25 h_p1 a_p1 o_p1 h_p3 a_p3 o26)) X (cwV 3 X.2.2.2.2.1 gX8_serve_X8_makeWay rfl rfl rfl (by decide +kernel) (by rw [hR]; exact ⟨Nat.le_of_ble_eq_true rfl, Nat.le_of_ble_eq_true rfl⟩)) (fun sz => c_X8_makeWay l D cA g sz h_t a_t o21 h_p1 a_p1 o_p1 h_p3 a_p3 q19 (o_p1 1 (Int32.toNatClampNeg v2)) o25 o26 hc27) [0, 1, 2, 3, 4, 5, 6, 7, 8, 9, 10, 11, 12] [1000, 1001, 1002, 1003, 1004, 1005, 1006, 1007, 1008, 1009, 1010, 1011, 1012] rfl (by decide) rfl (by decide) rfl rfl rfl rfl rfl rfl (Nat.le_of_ble_eq_true rfl) dX8_serve_107 ⟨Nat.zero_le _, Nat.zero_le _⟩ ?_
            refine z_aload_n X dX8_serve_110 rfl 0 rfl ?_
            refine z_aload_n X dX8_serve_111 rfl 1 rfl ?_
            refine z_iload_n X dX8_serve_112 rfl 2 rfl ?_
            refine z_aload_n X dX8_serve_113 rfl 3 rfl ?_
            obtain ⟨o28, o29, hc30, hF⟩ := zb2_e hF
            refine z_Vv (As := [.ref h_p1, .int v2, .ref h_p3]) (rest := []) (wc := (w_X8_lower cA h_t a_t o25 h_p1 a_p1 o_p1 h_p3 a_p3 o26)) (wc' := (w_X8_lower cA h_t a_t o28 h_p1 a_p1 o_p1 h_p3 a_p3 o29)) (ws' := (w_X8_lower cA h_t a_t o28 h_p1 a_p1 o_p1 h_p3 a_p3 o29)) X (cwV 3 X.2.2.2.2.1 gX8_serve_X8_raise rfl rfl rfl (by decide +kernel) (by rw [hR]; exact ⟨Nat.le_of_ble_eq_true rfl, Nat.le_of_ble_eq_true rfl⟩)) (fun sz => c_X8_raise l D cA g sz h_t a_t o25 h_p1 a_p1 o_p1 h_p3 a_p3 o26 v2 o28 o29 hc30) [0, 1, 2, 3, 4, 5, 6, 7, 8, 9, 10, 11, 12] [1000, 1001, 1002, 1003, 1004, 1005, 1006, 1007, 1008, 1009, 1010, 1011, 1012] rfl (by decide) rfl (by decide) rfl rfl rfl rfl rfl rfl (Nat.le_of_ble_eq_true rfl) dX8_serve_114 ⟨Nat.zero_le _, Nat.zero_le _⟩ ?_
            refine z_iload X dX8_serve_117 5 rfl ?_
            refine z_aload_n X dX8_serve_119 rfl 1 rfl ?_
            refine z_get (v := .ref (a_p1 2)) X k_X8_serve_78 4 rfl rfl dX8_serve_120 ?_
            refine z_iload_n X dX8_serve_123 rfl 2 rfl ?_
            obtain ⟨g31, hF⟩ := gi_e hF
            refine z_iald X 6 rfl g31 dX8_serve_124 ?_
            refine z_iadd X dX8_serve_125 ?_
            obtain ⟨x32, ex32, hF⟩ := nx_e hF
            refine z_nm ex32 ?_
            refine z_istore (lv' := [(5, .int x32), (0, .ref h_t), (1, .ref h_p1), (2, .int v2), (3, .ref h_p3), (4, .int j7)]) X dX8_serve_126 (by decide) rfl ?_
            refine z_iload X dX8_serve_128 0 rfl ?_
            cases hF
            exact z_iret X hA hQ hr rfl dX8_serve_130 (Nat.le_refl _) (Nat.le_refl _)
      obtain ⟨K11, eK11, hF⟩ := nx_e hF
      have K11_l : ∀ (_ : Unit), K11 () = some (o_t', o_p3', rv) → ZW p l e R s m args below meth c D A 6 0 0 Q (w_X8_lower cA h_t a_t o1 h_p1 a_p1 o_p1 h_p3 a_p3 o_p3) [(0, .ref h_t), (1, .ref h_p1), (2, .int v2), (3, .ref h_p3), (4, .int j7)] 68 [] := by
        intro _ hF
        rw [eK11] at hF
        refine z_aload_n X dX8_serve_68 rfl 1 rfl ?_
        refine z_get (v := .ref (a_p1 3)) X k_X8_serve_64 4 rfl rfl dX8_serve_69 ?_
        refine z_iload_n X dX8_serve_72 rfl 2 rfl ?_
        obtain ⟨g35, hF⟩ := gi_e hF
        refine z_iald X 7 rfl g35 dX8_serve_73 ?_
        obtain ⟨x36, ex36, hF⟩ := nx_e hF
        refine z_nm ex36 ?_
        refine z_istore (lv' := [(5, .int x36), (0, .ref h_t), (1, .ref h_p1), (2, .int v2), (3, .ref h_p3), (4, .int j7)]) X dX8_serve_74 (by decide) rfl ?_
        refine z_aload_n X dX8_serve_76 rfl 4 rfl ?_
        refine z_iconst (v := (1 : Int32)) X dX8_serve_77 (by decide) ?_
        refine z_iload_n X dX8_serve_78 rfl 3 rfl ?_
        refine z_iload X dX8_serve_79 0 rfl ?_
        obtain ⟨o37, hc38, hF⟩ := zb1_e hF
        refine z_Vv (As := [.int (1 : Int32), .int v2, .int x36]) (rest := []) (wc := (w_X1_add cA h_p3 a_p3 o_p3)) (wc' := (w_X1_add cA h_p3 a_p3 o37)) (ws' := (w_X8_lower cA h_t a_t o1 h_p1 a_p1 o_p1 h_p3 a_p3 o37)) X (cwV 3 X.2.2.2.2.1 gX8_serve_X1_add rfl rfl rfl (by decide +kernel) (by rw [hR]; exact ⟨Nat.le_of_ble_eq_true rfl, Nat.le_of_ble_eq_true rfl⟩)) (fun sz => c_X1_add l D cA g sz h_p3 a_p3 o_p3 (1 : Int32) v2 x36 o37 hc38) [9, 10, 11, 12] [0, 1, 2, 3, 4, 5, 6, 7, 8, 1000, 1001, 1002, 1003] rfl (by decide) rfl (by decide) rfl rfl rfl rfl rfl rfl (Nat.le_of_ble_eq_true rfl) dX8_serve_81 ⟨Nat.zero_le _, Nat.zero_le _⟩ ?_
        refine z_lv (lv' := [(0, .ref h_t), (1, .ref h_p1), (2, .int v2), (3, .ref h_p3), (4, .int j7), (5, .int x36)]) [1, 2, 3, 4, 5, 0] rfl ?_
        exact K20_l x36 o37 hF
      have hF := if_e hF
      refine z_if_ne (tgt := 68) X dX8_serve_58 (by decide) (fun c40 => ?_) (fun c40 => ?_)
      · have hF := hF.2 c40
        refine z_lv (lv' := [(0, .ref h_t), (1, .ref h_p1), (2, .int v2), (3, .ref h_p3), (4, .int j7)]) [2, 3, 4, 5, 1] rfl ?_
        exact K11_l () hF
      · have hF := hF.1 c40
        refine z_aload_n X dX8_serve_61 rfl 2 rfl ?_
        refine z_get (v := .int (o1 1 0)) X k_X8_serve_15 0 rfl rfl dX8_serve_62 ?_
        have hF := if_e hF
        refine z_if_eq (tgt := 84) X dX8_serve_65 (by decide) (fun c39 => ?_) (fun c39 => ?_)
        · have hF := hF.1 c39
          refine z_lv (lv' := [(0, .ref h_t), (1, .ref h_p1), (2, .int v2), (3, .ref h_p3), (4, .int j7), (5, .int (0 : Int32))]) [2, 3, 4, 5, 1, 0] rfl ?_
          exact K20_l (0 : Int32) o_p3 hF
        · have hF := hF.2 c39
          refine z_lv (lv' := [(0, .ref h_t), (1, .ref h_p1), (2, .int v2), (3, .ref h_p3), (4, .int j7)]) [2, 3, 4, 5, 1] rfl ?_
          exact K11_l () hF
    have hF := if_e hF
    refine z_icmp_le (tgt := 50) X dX8_serve_43 (by decide) (fun c41 => ?_) (fun c41 => ?_)
    · have hF := hF.1 c41
      refine z_iconst (v := (0 : Int32)) X dX8_serve_50 (by decide) ?_
      refine z_lv (lv' := [(0, .ref h_t), (1, .ref h_p1), (2, .int v2), (3, .ref h_p3)]) [0, 1, 2, 3] rfl ?_
      exact K8_l (0 : Int32) hF
    · have hF := hF.2 c41
      refine z_iconst (v := (1 : Int32)) X dX8_serve_46 (by decide) ?_
      refine z_goto (tgt := 51) X dX8_serve_47 (by decide) ?_
      refine z_lv (lv' := [(0, .ref h_t), (1, .ref h_p1), (2, .int v2), (3, .ref h_p3)]) [0, 1, 2, 3] rfl ?_
      exact K8_l (1 : Int32) hF
  · have hF := hF.2 c48
    refine z_aload_n X dX8_serve_13 rfl 0 rfl ?_
    refine z_get (v := .ref (a_t 4)) X k_X8_serve_18 0 rfl rfl dX8_serve_14 ?_
    refine z_iload_n X dX8_serve_17 rfl 2 rfl ?_
    refine z_aload_n X dX8_serve_18 rfl 1 rfl ?_
    refine z_iload_n X dX8_serve_19 rfl 2 rfl ?_
    obtain ⟨r42, hc43, hF⟩ := zb1_e hF
    refine z_Vi (As := [.int v2]) (rest := [.int v2, .ref (a_t 4)]) (wc := (w_X10_numberOf cA h_p1 a_p1 o_p1)) (wc' := (w_X10_numberOf cA h_p1 a_p1 o_p1)) (ws' := (w_X8_lower cA h_t a_t o1 h_p1 a_p1 o_p1 h_p3 a_p3 o_p3)) (rv := r42) X (cwV 1 X.2.2.2.2.1 gX8_serve_X10_fullDensity rfl rfl rfl (by decide +kernel) (by rw [hR]; exact ⟨Nat.le_of_ble_eq_true rfl, Nat.le_of_ble_eq_true rfl⟩)) (fun sz => c_X10_fullDensity l D cA g sz h_p1 a_p1 o_p1 v2 r42 hc43) [4, 5, 6, 7, 8] [0, 1, 2, 3, 1000, 1001, 1002, 1003, 1004, 9, 10, 11, 12] rfl (by decide) rfl (by decide) rfl rfl rfl rfl rfl rfl (Nat.le_of_ble_eq_true rfl) dX8_serve_20 ⟨Nat.zero_le _, Nat.zero_le _⟩ ?_
    obtain ⟨g44, hF⟩ := gi_e hF
    obtain ⟨o45, eo45, hF⟩ := nx_e hF
    refine z_iast (ws' := (w_X8_lower cA h_t a_t o45 h_p1 a_p1 o_p1 h_p3 a_p3 o_p3)) X 1 rfl g44 (by rw [eo45]; rfl) dX8_serve_23 ?_
    refine z_aload_n X dX8_serve_24 rfl 3 rfl ?_
    refine z_iconst (v := (0 : Int32)) X dX8_serve_25 (by decide) ?_
    refine z_iload_n X dX8_serve_26 rfl 2 rfl ?_
    refine z_iconst (v := (0 : Int32)) X dX8_serve_27 (by decide) ?_
    obtain ⟨o46, hc47, hF⟩ := zb1_e hF
    refine z_Vv (As := [.int (0 : Int32), .int v2, .int (0 : Int32)]) (rest := []) (wc := (w_X1_add cA h_p3 a_p3 o_p3)) (wc' := (w_X1_add cA h_p3 a_p3 o46)) (ws' := (w_X8_lower cA h_t a_t o45 h_p1 a_p1 o_p1 h_p3 a_p3 o46)) X (cwV 3 X.2.2.2.2.1 gX8_serve_X1_add rfl rfl rfl (by decide +kernel) (by rw [hR]; exact ⟨Nat.le_of_ble_eq_true rfl, Nat.le_of_ble_eq_true rfl⟩)) (fun sz => c_X1_add l D cA g sz h_p3 a_p3 o_p3 (0 : Int32) v2 (0 : Int32) o46 hc47) [9, 10, 11, 12] [0, 1, 2, 3, 4, 5, 6, 7, 8, 1000, 1001, 1002, 1003] rfl (by decide) rfl (by decide) rfl rfl rfl rfl rfl rfl (Nat.le_of_ble_eq_true rfl) dX8_serve_28 ⟨Nat.zero_le _, Nat.zero_le _⟩ ?_
    refine z_iconst (v := (0 : Int32)) X dX8_serve_31 (by decide) ?_
    cases hF
    exact z_iret X hA hQ hr rfl dX8_serve_32 (Nat.le_refl _) (Nat.le_refl _)
abbrev w_X9_begin (cA : Nat → ClassId) (h_t : Nat) (a_t : Nat → Nat) (o_t : Ob) (a_t_wares : Nat → Nat) (o_t_wares : Ob) (a_t_shelf : Nat → Nat) (o_t_shelf : Ob) (a_t_log : Nat → Nat) (o_t_log : Ob) (a_t_b0 : Nat → Nat) (o_t_b0 : Ob) (a_t_b1 : Nat → Nat) (o_t_b1 : Ob) (a_t_b2 : Nat → Nat) (o_t_b2 : Ob) (h_p1 : Nat) (a_p1 : Nat → Nat) (o_p1 : Ob) : va_W := [(h_t, .inr (9, [.ref (a_t 0), .ref (a_t 1), .ref (a_t 2), .ref (a_t 3), .int (o_t 4 0), .int (o_t 5 0), .int (o_t 6 0)])), (a_t 3, .inl (cA 4, 3, .inr (.inr (.inr (.inr (bk (a_t 20) (a_t 21) (a_t 22))))))), ((a_t 0), .inr (10, [.int (o_t_wares 0 0), .ref (a_t_wares 1), .ref (a_t_wares 2), .ref (a_t_wares 3), .ref (a_t_wares 4)])), (a_t_wares 1, .inl (cA 0, 8, .inl (o_t_wares 1))), (a_t_wares 2, .inl (cA 0, 8, .inl (o_t_wares 2))), (a_t_wares 3, .inl (cA 0, 8, .inl (o_t_wares 3))), (a_t_wares 4, .inl (cA 0, 8, .inl (o_t_wares 4))), ((a_t 1), .inr (8, [.int (o_t_shelf 0 0), .int (o_t_shelf 1 0), .int (o_t_shelf 2 0), .int (o_t_shelf 3 0), .ref (a_t_shelf 4), .ref (a_t_shelf 5), .ref (a_t_shelf 6)])), (a_t_shelf 4, .inl (cA 0, 8, .inl (o_t_shelf 4))), (a_t_shelf 5, .inl (cA 0, 8, .inl (o_t_shelf 5))), (a_t_shelf 6, .inl (cA 1, 8, .inr (.inr (.inl (fun j => (o_t_shelf 6 j).toUInt32))))), ((a_t 2), .inr (4, [.int (o_t_log 0 0), .ref (a_t_log 1), .ref (a_t_log 2), .ref (a_t_log 3), .ref (a_t_log 4)])), (a_t_log 1, .inl (cA 0, 40, .inl (o_t_log 1))), (a_t_log 2, .inl (cA 0, 40, .inl (o_t_log 2))), (a_t_log 3, .inl (cA 0, 40, .inl (o_t_log 3))), (a_t_log 4, .inl (cA 0, 320, .inl (o_t_log 4))), ((a_t 20), .inr (0, [.int (o_t_b0 0 0), .int (o_t_b0 1 0), .int (o_t_b0 2 0), .int (o_t_b0 3 0), .int (o_t_b0 4 0), .int (o_t_b0 5 0), .int (o_t_b0 6 0), .ref (a_t_b0 7), .ref (a_t_b0 8), .ref (a_t_b0 9)])), (a_t_b0 7, .inl (cA 0, 30, .inl (o_t_b0 7))), (a_t_b0 8, .inl (cA 0, 30, .inl (o_t_b0 8))), (a_t_b0 9, .inl (cA 0, 30, .inl (o_t_b0 9))), ((a_t 21), .inr (0, [.int (o_t_b1 0 0), .int (o_t_b1 1 0), .int (o_t_b1 2 0), .int (o_t_b1 3 0), .int (o_t_b1 4 0), .int (o_t_b1 5 0), .int (o_t_b1 6 0), .ref (a_t_b1 7), .ref (a_t_b1 8), .ref (a_t_b1 9)])), (a_t_b1 7, .inl (cA 0, 30, .inl (o_t_b1 7))), (a_t_b1 8, .inl (cA 0, 30, .inl (o_t_b1 8))), (a_t_b1 9, .inl (cA 0, 30, .inl (o_t_b1 9))), ((a_t 22), .inr (0, [.int (o_t_b2 0 0), .int (o_t_b2 1 0), .int (o_t_b2 2 0), .int (o_t_b2 3 0), .int (o_t_b2 4 0), .int (o_t_b2 5 0), .int (o_t_b2 6 0), .ref (a_t_b2 7), .ref (a_t_b2 8), .ref (a_t_b2 9)])), (a_t_b2 7, .inl (cA 0, 30, .inl (o_t_b2 7))), (a_t_b2 8, .inl (cA 0, 30, .inl (o_t_b2 8))), (a_t_b2 9, .inl (cA 0, 30, .inl (o_t_b2 9))), (h_p1, .inr (10, [.int (o_p1 0 0), .ref (a_p1 1), .ref (a_p1 2), .ref (a_p1 3), .ref (a_p1 4)])), (a_p1 1, .inl (cA 0, 8, .inl (o_p1 1))), (a_p1 2, .inl (cA 0, 8, .inl (o_p1 2))), (a_p1 3, .inl (cA 0, 8, .inl (o_p1 3))), (a_p1 4, .inl (cA 0, 8, .inl (o_p1 4)))]
set_option maxRecDepth 20000 in
theorem h_X9_begin_X9 : ∀ w ∈ wsX90, w ∈ wsX9_begin := by decide +kernel
set_option maxRecDepth 20000 in
theorem k_X9_begin_12 : ZF wsX9_begin RX9 12 9 0 RX9 TX9 7 := ⟨rfl, by decide, h_X9_begin_X9, by decide +kernel⟩
set_option maxRecDepth 20000 in
theorem k_X9_begin_21 : ZF wsX9_begin RX9 21 9 1 RX9 TX9 7 := ⟨rfl, by decide, h_X9_begin_X9, by decide +kernel⟩
set_option maxRecDepth 20000 in
theorem k_X9_begin_28 : ZF wsX9_begin RX9 28 9 2 RX9 TX9 7 := ⟨rfl, by decide, h_X9_begin_X9, by decide +kernel⟩
set_option maxRecDepth 20000 in
theorem k_X9_begin_34 : ZF wsX9_begin RX9 34 9 3 RX9 TX9 7 := ⟨rfl, by decide, h_X9_begin_X9, by decide +kernel⟩
set_option maxRecDepth 20000 in
theorem h_X9_begin_X4 : ∀ w ∈ wsX40, w ∈ wsX9_begin := by decide +kernel
set_option maxRecDepth 20000 in
theorem k_X9_begin_47 : ZF wsX9_begin RX9 47 4 0 RX4 TX4 5 := ⟨rfl, by decide, h_X9_begin_X4, by decide +kernel⟩
set_option maxRecDepth 20000 in
theorem k_X9_begin_51 : ZF wsX9_begin RX9 51 9 4 RX9 TX9 7 := ⟨rfl, by decide, h_X9_begin_X9, by decide +kernel⟩
set_option maxRecDepth 20000 in
theorem k_X9_begin_54 : ZF wsX9_begin RX9 54 9 5 RX9 TX9 7 := ⟨rfl, by decide, h_X9_begin_X9, by decide +kernel⟩
set_option maxRecDepth 20000 in
theorem k_X9_begin_57 : ZF wsX9_begin RX9 57 9 6 RX9 TX9 7 := ⟨rfl, by decide, h_X9_begin_X9, by decide +kernel⟩
set_option maxHeartbeats 8000000 in
set_option maxRecDepth 100000 in
theorem c_X9_begin (l : Launch) (D : va_G) (cA : Nat → ClassId) (g : Nat → Nat) (sz : Nat) (h_t : Nat) (a_t : Nat → Nat) (o_t : Ob) (a_t_wares : Nat → Nat) (o_t_wares : Ob) (a_t_shelf : Nat → Nat) (o_t_shelf : Ob) (a_t_log : Nat → Nat) (o_t_log : Ob) (a_t_b0 : Nat → Nat) (o_t_b0 : Ob) (a_t_b1 : Nat → Nat) (o_t_b1 : Ob) (a_t_b2 : Nat → Nat) (o_t_b2 : Ob) (h_p1 : Nat) (a_p1 : Nat → Nat) (o_p1 : Ob) (v2 : Int32) (v3 : Int32) (o_t' : Ob) (o_t_wares' : Ob) (o_t_shelf' : Ob) (o_t_log' : Ob) (o_t_b0' : Ob) (o_t_b1' : Ob) (o_t_b2' : Ob) (hF : f_X9_begin o_t o_t_wares o_t_shelf o_t_log o_t_b0 o_t_b1 o_t_b2 o_p1 v2 v3 = some (o_t', o_t_wares', o_t_shelf', o_t_log', o_t_b0', o_t_b1', o_t_b2')) : Met l yX9_begin wsX9_begin ({ frames := 2, cells := 0, slots := 0, locals := 69 }) (va_Pc [.ref h_t, .ref h_p1, .int v2, .int v3] (PreW D cA g sz (w_X9_begin cA h_t a_t o_t a_t_wares o_t_wares a_t_shelf o_t_shelf a_t_log o_t_log a_t_b0 o_t_b0 a_t_b1 o_t_b1 a_t_b2 o_t_b2 h_p1 a_p1 o_p1))) (va_Qv (fun (_ : Unit) => True) (PostW D cA sz (w_X9_begin cA h_t a_t o_t a_t_wares o_t_wares a_t_shelf o_t_shelf a_t_log o_t_log a_t_b0 o_t_b0 a_t_b1 o_t_b1 a_t_b2 o_t_b2 h_p1 a_p1 o_p1) (w_X9_begin cA h_t a_t o_t' a_t_wares o_t_wares' a_t_shelf o_t_shelf' a_t_log o_t_log' a_t_b0 o_t_b0' a_t_b1 o_t_b1' a_t_b2 o_t_b2' h_p1 a_p1 o_p1)) (va_A (w_X9_begin cA h_t a_t o_t a_t_wares o_t_wares a_t_shelf o_t_shelf a_t_log o_t_log a_t_b0 o_t_b0 a_t_b1 o_t_b1 a_t_b2 o_t_b2 h_p1 a_p1 o_p1) sz)) 0 0 (va_A (w_X9_begin cA h_t a_t o_t a_t_wares o_t_wares a_t_shelf o_t_shelf a_t_log o_t_log a_t_b0 o_t_b0 a_t_b1 o_t_b1 a_t_b2 o_t_b2 h_p1 a_p1 o_p1) sz) := by
  refine z_start (cc := cX9_begin) (maxL := 5) (ret := none) (lv0 := [(0, .ref h_t), (1, .ref h_p1), (2, .int v2), (3, .int v3)]) (Qc := fun sz => va_Qv (fun (_ : Unit) => True) (PostW D cA sz (w_X9_begin cA h_t a_t o_t a_t_wares o_t_wares a_t_shelf o_t_shelf a_t_log o_t_log a_t_b0 o_t_b0 a_t_b1 o_t_b1 a_t_b2 o_t_b2 h_p1 a_p1 o_p1) (w_X9_begin cA h_t a_t o_t' a_t_wares o_t_wares' a_t_shelf o_t_shelf' a_t_log o_t_log' a_t_b0 o_t_b0' a_t_b1 o_t_b1' a_t_b2 o_t_b2' h_p1 a_p1 o_p1)) (va_A (w_X9_begin cA h_t a_t o_t a_t_wares o_t_wares a_t_shelf o_t_shelf a_t_log o_t_log a_t_b0 o_t_b0 a_t_b1 o_t_b1 a_t_b2 o_t_b2 h_p1 a_p1 o_p1) sz)) (free := fun sz => va_A (w_X9_begin cA h_t a_t o_t a_t_wares o_t_wares a_t_shelf o_t_shelf a_t_log o_t_log a_t_b0 o_t_b0 a_t_b1 o_t_b1 a_t_b2 o_t_b2 h_p1 a_p1 o_p1) sz) (by decide +kernel) rfl rfl (Nat.le_of_ble_eq_true rfl) ?_
  intro p e R s m args below meth c A Q hR hA hQ X hr hin
  unfold f_X9_begin at hF
  refine z_aload_n X dX9_begin_0 rfl 0 rfl ?_
  refine z_get (v := .ref (a_t 0)) X k_X9_begin_12 0 rfl rfl dX9_begin_1 ?_
  refine z_aload_n X dX9_begin_4 rfl 1 rfl ?_
  obtain ⟨o1, hc2, hF⟩ := zb1_e hF
  refine z_Vv (As := [.ref h_p1]) (rest := []) (wc := (w_X10_copyFrom cA (a_t 0) a_t_wares o_t_wares h_p1 a_p1 o_p1)) (wc' := (w_X10_copyFrom cA (a_t 0) a_t_wares o1 h_p1 a_p1 o_p1)) (ws' := (w_X9_begin cA h_t a_t o_t a_t_wares o1 a_t_shelf o_t_shelf a_t_log o_t_log a_t_b0 o_t_b0 a_t_b1 o_t_b1 a_t_b2 o_t_b2 h_p1 a_p1 o_p1)) X (cwV 1 X.2.2.2.2.1 gX9_begin_X10_copyFrom rfl rfl rfl (by decide +kernel) (by rw [hR]; exact ⟨Nat.le_of_ble_eq_true rfl, Nat.le_of_ble_eq_true rfl⟩)) (fun sz => c_X10_copyFrom l D cA g sz (a_t 0) a_t_wares o_t_wares h_p1 a_p1 o_p1 o1 hc2) [2, 3, 4, 5, 6, 28, 29, 30, 31, 32] [0, 1, 1000, 1001, 1002, 1003, 1004, 7, 8, 9, 10, 11, 12, 13, 14, 15, 16, 17, 18, 19, 20, 21, 22, 23, 24, 25, 26, 27, 1005, 1006, 1007, 1008, 1009] rfl (by decide) rfl (by decide) rfl rfl rfl rfl rfl rfl (Nat.le_of_ble_eq_true rfl) dX9_begin_5 ⟨Nat.zero_le _, Nat.zero_le _⟩ ?_
  refine z_aload_n X dX9_begin_8 rfl 0 rfl ?_
  refine z_get (v := .ref (a_t 1)) X k_X9_begin_21 0 rfl rfl dX9_begin_9 ?_
  refine z_iload_n X dX9_begin_12 rfl 2 rfl ?_
  refine z_iload_n X dX9_begin_13 rfl 3 rfl ?_
  obtain ⟨o3, hc4, hF⟩ := zb1_e hF
  refine z_Vv (As := [.int v2, .int v3]) (rest := []) (wc := (w_X8_begin cA (a_t 1) a_t_shelf o_t_shelf)) (wc' := (w_X8_begin cA (a_t 1) a_t_shelf o3)) (ws' := (w_X9_begin cA h_t a_t o_t a_t_wares o1 a_t_shelf o3 a_t_log o_t_log a_t_b0 o_t_b0 a_t_b1 o_t_b1 a_t_b2 o_t_b2 h_p1 a_p1 o_p1)) X (cwV 2 X.2.2.2.2.1 gX9_begin_X8_begin rfl rfl rfl (by decide +kernel) (by rw [hR]; exact ⟨Nat.le_of_ble_eq_true rfl, Nat.le_of_ble_eq_true rfl⟩)) (fun sz => c_X8_begin l D cA g sz (a_t 1) a_t_shelf o_t_shelf v2 v3 o3 hc4) [7, 8, 9, 10] [0, 1, 2, 3, 4, 5, 6, 1000, 1001, 1002, 1003, 11, 12, 13, 14, 15, 16, 17, 18, 19, 20, 21, 22, 23, 24, 25, 26, 27, 28, 29, 30, 31, 32] rfl (by decide) rfl (by decide) rfl rfl rfl rfl rfl rfl (Nat.le_of_ble_eq_true rfl) dX9_begin_14 ⟨Nat.zero_le _, Nat.zero_le _⟩ ?_
  refine z_aload_n X dX9_begin_17 rfl 0 rfl ?_
  refine z_get (v := .ref (a_t 2)) X k_X9_begin_28 0 rfl rfl dX9_begin_18 ?_
  refine z_iconst (v := (0 : Int32)) X dX9_begin_21 (by decide) ?_
  obtain ⟨o5, eo5, hF⟩ := nx_e hF
  refine z_put (ws' := (w_X9_begin cA h_t a_t o_t a_t_wares o1 a_t_shelf o3 a_t_log o5 a_t_b0 o_t_b0 a_t_b1 o_t_b1 a_t_b2 o_t_b2 h_p1 a_p1 o_p1)) X k_X9_begin_47 tyX4 tyX4_ok nmX4 rfl rfl 11 rfl (Nat.le_of_ble_eq_true rfl) (by rw [eo5]; rfl) dX9_begin_22 ?_
  refine z_aload_n X dX9_begin_25 rfl 0 rfl ?_
  refine z_iconst (v := (0 : Int32)) X dX9_begin_26 (by decide) ?_
  obtain ⟨o6, eo6, hF⟩ := nx_e hF
  refine z_put (ws' := (w_X9_begin cA h_t a_t o6 a_t_wares o1 a_t_shelf o3 a_t_log o5 a_t_b0 o_t_b0 a_t_b1 o_t_b1 a_t_b2 o_t_b2 h_p1 a_p1 o_p1)) X k_X9_begin_51 tyX9 tyX9_ok nmX9 rfl rfl 0 rfl (Nat.le_of_ble_eq_true rfl) (by rw [eo6]; rfl) dX9_begin_27 ?_
  refine z_aload_n X dX9_begin_30 rfl 0 rfl ?_
  refine z_iconst (v := (0 : Int32)) X dX9_begin_31 (by decide) ?_
  obtain ⟨o7, eo7, hF⟩ := nx_e hF
  refine z_put (ws' := (w_X9_begin cA h_t a_t o7 a_t_wares o1 a_t_shelf o3 a_t_log o5 a_t_b0 o_t_b0 a_t_b1 o_t_b1 a_t_b2 o_t_b2 h_p1 a_p1 o_p1)) X k_X9_begin_54 tyX9 tyX9_ok nmX9 rfl rfl 0 rfl (Nat.le_of_ble_eq_true rfl) (by rw [eo7]; rfl) dX9_begin_32 ?_
  refine z_aload_n X dX9_begin_35 rfl 0 rfl ?_
  refine z_iconst (v := (0 : Int32)) X dX9_begin_36 (by decide) ?_
  obtain ⟨o8, eo8, hF⟩ := nx_e hF
  refine z_put (ws' := (w_X9_begin cA h_t a_t o8 a_t_wares o1 a_t_shelf o3 a_t_log o5 a_t_b0 o_t_b0 a_t_b1 o_t_b1 a_t_b2 o_t_b2 h_p1 a_p1 o_p1)) X k_X9_begin_57 tyX9 tyX9_ok nmX9 rfl rfl 0 rfl (Nat.le_of_ble_eq_true rfl) (by rw [eo8]; rfl) dX9_begin_37 ?_
  refine z_iconst (v := (0 : Int32)) X dX9_begin_40 (by decide) ?_
  refine z_istore (lv' := [(4, .int (0 : Int32)), (0, .ref h_t), (1, .ref h_p1), (2, .int v2), (3, .int v3)]) X dX9_begin_41 (by decide) rfl ?_
  obtain ⟨o34, o35, o36, hL, hF⟩ := zb3_e hF
  have L37_x : ∀ (o34' : Ob) (o35' : Ob) (o36' : Ob), (o34', o35', o36') = (o34, o35, o36) → ZW p l e R s m args below meth c D A 5 0 0 Q (w_X9_begin cA h_t a_t o8 a_t_wares o1 a_t_shelf o3 a_t_log o5 a_t_b0 o34' a_t_b1 o35' a_t_b2 o36' h_p1 a_p1 o_p1) [] 65 [] := by
    intro o34' o35' o36' hz
    cases hz
    cases hF
    exact z_vret X hA hQ hr dX9_begin_65 (Nat.le_refl _) (Nat.le_refl _)
  obtain ⟨B51, hBB51, hL⟩ := zl4_b hL
  have L37 : ∀ (n : Nat) (o30 : Ob) (o31 : Ob) (o32 : Ob) (k33 : Int32), zl4 B51 n o30 o31 o32 k33 = some (o34, o35, o36) → ZW p l e R s m args below meth c D A 5 0 0 Q (w_X9_begin cA h_t a_t o8 a_t_wares o1 a_t_shelf o3 a_t_log o5 a_t_b0 o30 a_t_b1 o31 a_t_b2 o32 h_p1 a_p1 o_p1) [(0, .ref h_t), (4, .int k33)] 43 [] := by
    intro n
    induction n with
    | zero => intro o30 o31 o32 k33 hL; cases hL
    | succ n ih =>
      intro o30 o31 o32 k33 hL
      obtain ⟨zz38, hF, hL⟩ := zl4_e hL
      rw [hBB51] at hF
      refine z_iload X dX9_begin_43 1 rfl ?_
      refine z_iconst (v := (3 : Int32)) X dX9_begin_45 (by decide) ?_
      have hF := if_e hF
      refine z_icmp_ge (tgt := 65) X dX9_begin_46 (by decide) (fun c50 => ?_) (fun c50 => ?_)
      · have hF := hF.1 c50
        cases hF
        have hL := Option.some.inj hL
        refine z_lv (lv' := []) [] rfl ?_
        exact L37_x o30 o31 o32 hL
      · have hF := hF.2 c50
        refine z_aload_n X dX9_begin_49 rfl 0 rfl ?_
        refine z_get (v := .ref (a_t 3)) X k_X9_begin_34 0 rfl rfl dX9_begin_50 ?_
        refine z_iload X dX9_begin_53 1 rfl ?_
        obtain ⟨g39, hF⟩ := gi_e hF
        have hF := if_e hF
        refine z_bk X 1 rfl g39 dX9_begin_55 (fun c0c49 => ?_) (fun c0c49 c1c49 => ?_) (fun c0c49 c1c49 c2c49 => ?_)
        · have hF := hF.1 c0c49
          obtain ⟨o40, hc41, hF⟩ := zb1_e hF
          refine z_Vv (As := []) (rest := []) (wc := (w_X0_close cA (a_t 20) a_t_b0 o30)) (wc' := (w_X0_close cA (a_t 20) a_t_b0 o40)) (ws' := (w_X9_begin cA h_t a_t o8 a_t_wares o1 a_t_shelf o3 a_t_log o5 a_t_b0 o40 a_t_b1 o31 a_t_b2 o32 h_p1 a_p1 o_p1)) X (cwV 0 X.2.2.2.2.1 gX9_begin_X0_close rfl rfl rfl (by decide +kernel) (by rw [hR]; exact ⟨Nat.le_of_ble_eq_true rfl, Nat.le_of_ble_eq_true rfl⟩)) (fun sz => c_X0_close l D cA g sz (a_t 20) a_t_b0 o30 o40 hc41) [16, 17, 18, 19] [0, 1, 2, 3, 4, 5, 6, 7, 8, 9, 10, 11, 12, 13, 14, 15, 1000, 1001, 1002, 1003, 20, 21, 22, 23, 24, 25, 26, 27, 28, 29, 30, 31, 32] rfl (by decide) rfl (by decide) rfl rfl rfl rfl rfl rfl (Nat.le_of_ble_eq_true rfl) dX9_begin_56 ⟨Nat.zero_le _, Nat.zero_le _⟩ ?_
          obtain ⟨x42, ex42, hF⟩ := nx_e hF
          refine z_iinc (v := x42) (lv' := [(4, .int x42), (0, .ref h_t)]) (j := 1) X dX9_begin_59 rfl (by rw [ex42]; rfl) (by decide) rfl ?_
          refine z_goto (tgt := 43) X dX9_begin_62 (by decide) ?_
          cases hF
          refine z_lv (lv' := [(0, .ref h_t), (4, .int x42)]) [1, 0] rfl ?_
          exact ih o40 o31 o32 x42 hL
        · have hF := (if_e (hF.2 c0c49)).1 c1c49
          obtain ⟨o43, hc44, hF⟩ := zb1_e hF
          refine z_Vv (As := []) (rest := []) (wc := (w_X0_close cA (a_t 21) a_t_b1 o31)) (wc' := (w_X0_close cA (a_t 21) a_t_b1 o43)) (ws' := (w_X9_begin cA h_t a_t o8 a_t_wares o1 a_t_shelf o3 a_t_log o5 a_t_b0 o30 a_t_b1 o43 a_t_b2 o32 h_p1 a_p1 o_p1)) X (cwV 0 X.2.2.2.2.1 gX9_begin_X0_close rfl rfl rfl (by decide +kernel) (by rw [hR]; exact ⟨Nat.le_of_ble_eq_true rfl, Nat.le_of_ble_eq_true rfl⟩)) (fun sz => c_X0_close l D cA g sz (a_t 21) a_t_b1 o31 o43 hc44) [20, 21, 22, 23] [0, 1, 2, 3, 4, 5, 6, 7, 8, 9, 10, 11, 12, 13, 14, 15, 16, 17, 18, 19, 1000, 1001, 1002, 1003, 24, 25, 26, 27, 28, 29, 30, 31, 32] rfl (by decide) rfl (by decide) rfl rfl rfl rfl rfl rfl (Nat.le_of_ble_eq_true rfl) dX9_begin_56 ⟨Nat.zero_le _, Nat.zero_le _⟩ ?_
          obtain ⟨x45, ex45, hF⟩ := nx_e hF
          refine z_iinc (v := x45) (lv' := [(4, .int x45), (0, .ref h_t)]) (j := 1) X dX9_begin_59 rfl (by rw [ex45]; rfl) (by decide) rfl ?_
          refine z_goto (tgt := 43) X dX9_begin_62 (by decide) ?_
          cases hF
          refine z_lv (lv' := [(0, .ref h_t), (4, .int x45)]) [1, 0] rfl ?_
          exact ih o30 o43 o32 x45 hL
        · have hF := (if_e (hF.2 c0c49)).2 c1c49
          obtain ⟨o46, hc47, hF⟩ := zb1_e hF
          refine z_Vv (As := []) (rest := []) (wc := (w_X0_close cA (a_t 22) a_t_b2 o32)) (wc' := (w_X0_close cA (a_t 22) a_t_b2 o46)) (ws' := (w_X9_begin cA h_t a_t o8 a_t_wares o1 a_t_shelf o3 a_t_log o5 a_t_b0 o30 a_t_b1 o31 a_t_b2 o46 h_p1 a_p1 o_p1)) X (cwV 0 X.2.2.2.2.1 gX9_begin_X0_close rfl rfl rfl (by decide +kernel) (by rw [hR]; exact ⟨Nat.le_of_ble_eq_true rfl, Nat.le_of_ble_eq_true rfl⟩)) (fun sz => c_X0_close l D cA g sz (a_t 22) a_t_b2 o32 o46 hc47) [24, 25, 26, 27] [0, 1, 2, 3, 4, 5, 6, 7, 8, 9, 10, 11, 12, 13, 14, 15, 16, 17, 18, 19, 20, 21, 22, 23, 1000, 1001, 1002, 1003, 28, 29, 30, 31, 32] rfl (by decide) rfl (by decide) rfl rfl rfl rfl rfl rfl (Nat.le_of_ble_eq_true rfl) dX9_begin_56 ⟨Nat.zero_le _, Nat.zero_le _⟩ ?_
          obtain ⟨x48, ex48, hF⟩ := nx_e hF
          refine z_iinc (v := x48) (lv' := [(4, .int x48), (0, .ref h_t)]) (j := 1) X dX9_begin_59 rfl (by rw [ex48]; rfl) (by decide) rfl ?_
          refine z_goto (tgt := 43) X dX9_begin_62 (by decide) ?_
          cases hF
          refine z_lv (lv' := [(0, .ref h_t), (4, .int x48)]) [1, 0] rfl ?_
          exact ih o30 o31 o46 x48 hL
  refine z_lv (lv' := [(0, .ref h_t), (4, .int (0 : Int32))]) [1, 0] rfl ?_
  exact L37 FU o_t_b0 o_t_b1 o_t_b2 (0 : Int32) hL
abbrev w_X9_post (cA : Nat → ClassId) (h_t : Nat) (a_t : Nat → Nat) (o_t : Ob) (a_t_b0 : Nat → Nat) (o_t_b0 : Ob) (a_t_b1 : Nat → Nat) (o_t_b1 : Ob) (a_t_b2 : Nat → Nat) (o_t_b2 : Ob) (h_p1 : Nat) (a_p1 : Nat → Nat) (o_p1 : Ob) (h_p2 : Nat) (a_p2 : Nat → Nat) (o_p2 : Ob) : va_W := [(h_t, .inr (9, [.ref (a_t 0), .ref (a_t 1), .ref (a_t 2), .ref (a_t 3), .int (o_t 4 0), .int (o_t 5 0), .int (o_t 6 0)])), (a_t 3, .inl (cA 4, 3, .inr (.inr (.inr (.inr (bk (a_t 20) (a_t 21) (a_t 22))))))), ((a_t 20), .inr (0, [.int (o_t_b0 0 0), .int (o_t_b0 1 0), .int (o_t_b0 2 0), .int (o_t_b0 3 0), .int (o_t_b0 4 0), .int (o_t_b0 5 0), .int (o_t_b0 6 0), .ref (a_t_b0 7), .ref (a_t_b0 8), .ref (a_t_b0 9)])), (a_t_b0 7, .inl (cA 0, 30, .inl (o_t_b0 7))), (a_t_b0 8, .inl (cA 0, 30, .inl (o_t_b0 8))), (a_t_b0 9, .inl (cA 0, 30, .inl (o_t_b0 9))), ((a_t 21), .inr (0, [.int (o_t_b1 0 0), .int (o_t_b1 1 0), .int (o_t_b1 2 0), .int (o_t_b1 3 0), .int (o_t_b1 4 0), .int (o_t_b1 5 0), .int (o_t_b1 6 0), .ref (a_t_b1 7), .ref (a_t_b1 8), .ref (a_t_b1 9)])), (a_t_b1 7, .inl (cA 0, 30, .inl (o_t_b1 7))), (a_t_b1 8, .inl (cA 0, 30, .inl (o_t_b1 8))), (a_t_b1 9, .inl (cA 0, 30, .inl (o_t_b1 9))), ((a_t 22), .inr (0, [.int (o_t_b2 0 0), .int (o_t_b2 1 0), .int (o_t_b2 2 0), .int (o_t_b2 3 0), .int (o_t_b2 4 0), .int (o_t_b2 5 0), .int (o_t_b2 6 0), .ref (a_t_b2 7), .ref (a_t_b2 8), .ref (a_t_b2 9)])), (a_t_b2 7, .inl (cA 0, 30, .inl (o_t_b2 7))), (a_t_b2 8, .inl (cA 0, 30, .inl (o_t_b2 8))), (a_t_b2 9, .inl (cA 0, 30, .inl (o_t_b2 9))), (h_p1, .inr (1, [.int (o_p1 0 0), .ref (a_p1 1), .ref (a_p1 2), .ref (a_p1 3)])), (a_p1 1, .inl (cA 0, 9, .inl (o_p1 1))), (a_p1 2, .inl (cA 0, 9, .inl (o_p1 2))), (a_p1 3, .inl (cA 0, 9, .inl (o_p1 3))), (h_p2, .inr (2, [.ref (a_p2 0), .int (o_p2 1 0), .int (o_p2 2 0)])), (a_p2 0, .inl (cA 0, 60, .inl (o_p2 0)))]
set_option maxRecDepth 20000 in
theorem h_X9_post_X9 : ∀ w ∈ wsX90, w ∈ wsX9_post := by decide +kernel
set_option maxRecDepth 20000 in
theorem k_X9_post_34 : ZF wsX9_post RX9 34 9 3 RX9 TX9 7 := ⟨rfl, by decide, h_X9_post_X9, by decide +kernel⟩
set_option maxRecDepth 20000 in
theorem k_X9_post_54 : ZF wsX9_post RX9 54 9 5 RX9 TX9 7 := ⟨rfl, by decide, h_X9_post_X9, by decide +kernel⟩
set_option maxRecDepth 20000 in
theorem k_X9_post_57 : ZF wsX9_post RX9 57 9 6 RX9 TX9 7 := ⟨rfl, by decide, h_X9_post_X9, by decide +kernel⟩
set_option maxRecDepth 20000 in
theorem h_X9_post_X1 : ∀ w ∈ wsX10, w ∈ wsX9_post := by decide +kernel
set_option maxRecDepth 20000 in
theorem k_X9_post_72 : ZF wsX9_post RX9 72 1 0 RX1 TX1 4 := ⟨rfl, by decide, h_X9_post_X1, by decide +kernel⟩
set_option maxRecDepth 20000 in
theorem k_X9_post_102 : ZF wsX9_post RX9 102 1 1 RX1 TX1 4 := ⟨rfl, by decide, h_X9_post_X1, by decide +kernel⟩
set_option maxRecDepth 20000 in
theorem k_X9_post_110 : ZF wsX9_post RX9 110 1 2 RX1 TX1 4 := ⟨rfl, by decide, h_X9_post_X1, by decide +kernel⟩
set_option maxRecDepth 20000 in
theorem k_X9_post_113 : ZF wsX9_post RX9 113 1 3 RX1 TX1 4 := ⟨rfl, by decide, h_X9_post_X1, by decide +kernel⟩
set_option maxHeartbeats 8000000 in
set_option maxRecDepth 100000 in
theorem c_X9_post (l : Launch) (D : va_G) (cA : Nat → ClassId) (g : Nat → Nat) (sz : Nat) (h_t : Nat) (a_t : Nat → Nat) (o_t : Ob) (a_t_b0 : Nat → Nat) (o_t_b0 : Ob) (a_t_b1 : Nat → Nat) (o_t_b1 : Ob) (a_t_b2 : Nat → Nat) (o_t_b2 : Ob) (h_p1 : Nat) (a_p1 : Nat → Nat) (o_p1 : Ob) (h_p2 : Nat) (a_p2 : Nat → Nat) (o_p2 : Ob)  (o_t' : Ob) (o_t_b0' : Ob) (o_t_b1' : Ob) (o_t_b2' : Ob) (o_p2' : Ob) (hF : f_X9_post o_t o_t_b0 o_t_b1 o_t_b2 o_p1 o_p2 = some (o_t', o_t_b0', o_t_b1', o_t_b2', o_p2')) : Met l yX9_post wsX9_post ({ frames := 2, cells := 0, slots := 0, locals := 44 }) (va_Pc [.ref h_t, .ref h_p1, .ref h_p2] (PreW D cA g sz (w_X9_post cA h_t a_t o_t a_t_b0 o_t_b0 a_t_b1 o_t_b1 a_t_b2 o_t_b2 h_p1 a_p1 o_p1 h_p2 a_p2 o_p2))) (va_Qv (fun (_ : Unit) => True) (PostW D cA sz (w_X9_post cA h_t a_t o_t a_t_b0 o_t_b0 a_t_b1 o_t_b1 a_t_b2 o_t_b2 h_p1 a_p1 o_p1 h_p2 a_p2 o_p2) (w_X9_post cA h_t a_t o_t' a_t_b0 o_t_b0' a_t_b1 o_t_b1' a_t_b2 o_t_b2' h_p1 a_p1 o_p1 h_p2 a_p2 o_p2')) (va_A (w_X9_post cA h_t a_t o_t a_t_b0 o_t_b0 a_t_b1 o_t_b1 a_t_b2 o_t_b2 h_p1 a_p1 o_p1 h_p2 a_p2 o_p2) sz)) 0 0 (va_A (w_X9_post cA h_t a_t o_t a_t_b0 o_t_b0 a_t_b1 o_t_b1 a_t_b2 o_t_b2 h_p1 a_p1 o_p1 h_p2 a_p2 o_p2) sz) := by
  refine z_start (cc := cX9_post) (maxL := 6) (ret := none) (lv0 := [(0, .ref h_t), (1, .ref h_p1), (2, .ref h_p2)]) (Qc := fun sz => va_Qv (fun (_ : Unit) => True) (PostW D cA sz (w_X9_post cA h_t a_t o_t a_t_b0 o_t_b0 a_t_b1 o_t_b1 a_t_b2 o_t_b2 h_p1 a_p1 o_p1 h_p2 a_p2 o_p2) (w_X9_post cA h_t a_t o_t' a_t_b0 o_t_b0' a_t_b1 o_t_b1' a_t_b2 o_t_b2' h_p1 a_p1 o_p1 h_p2 a_p2 o_p2')) (va_A (w_X9_post cA h_t a_t o_t a_t_b0 o_t_b0 a_t_b1 o_t_b1 a_t_b2 o_t_b2 h_p1 a_p1 o_p1 h_p2 a_p2 o_p2) sz)) (free := fun sz => va_A (w_X9_post cA h_t a_t o_t a_t_b0 o_t_b0 a_t_b1 o_t_b1 a_t_b2 o_t_b2 h_p1 a_p1 o_p1 h_p2 a_p2 o_p2) sz) (by decide +kernel) rfl rfl (Nat.le_of_ble_eq_true rfl) ?_
  intro p e R s m args below meth c A Q hR hA hQ X hr hin
  unfold f_X9_post at hF
  refine z_iconst (v := (0 : Int32)) X dX9_post_0 (by decide) ?_
  refine z_istore_n (lv' := [(3, .int (0 : Int32)), (0, .ref h_t), (1, .ref h_p1), (2, .ref h_p2)]) X dX9_post_1 rfl (by decide) rfl ?_
  obtain ⟨o100, o101, o102, o103, o104, hL, hF⟩ := zb5_e hF
  have L105_x : ∀ (o100' : Ob) (o101' : Ob) (o102' : Ob) (o103' : Ob) (o104' : Ob), (o100', o101', o102', o103', o104') = (o100, o101, o102, o103, o104) → ZW p l e R s m args below meth c D A 6 0 0 Q (w_X9_post cA h_t a_t o100' a_t_b0 o101' a_t_b1 o102' a_t_b2 o103' h_p1 a_p1 o_p1 h_p2 a_p2 o104') [] 119 [] := by
    intro o100' o101' o102' o103' o104' hz
    cases hz
    cases hF
    exact z_vret X hA hQ hr dX9_post_119 (Nat.le_refl _) (Nat.le_refl _)
  obtain ⟨B190, hBB190, hL⟩ := zl6_b hL
  have L105 : ∀ (n : Nat) (o94 : Ob) (o95 : Ob) (o96 : Ob) (o97 : Ob) (o98 : Ob) (k99 : Int32), zl6 B190 n o94 o95 o96 o97 o98 k99 = some (o100, o101, o102, o103, o104) → ZW p l e R s m args below meth c D A 6 0 0 Q (w_X9_post cA h_t a_t o94 a_t_b0 o95 a_t_b1 o96 a_t_b2 o97 h_p1 a_p1 o_p1 h_p2 a_p2 o98) [(0, .ref h_t), (1, .ref h_p1), (2, .ref h_p2), (3, .int k99)] 2 [] := by
    intro n
    induction n with
    | zero => intro o94 o95 o96 o97 o98 k99 hL; cases hL
    | succ n ih =>
      intro o94 o95 o96 o97 o98 k99 hL
      obtain ⟨zz106, hF, hL⟩ := zl6_e hL
      rw [hBB190] at hF
      refine z_iload_n X dX9_post_2 rfl 3 rfl ?_
      refine z_aload_n X dX9_post_3 rfl 1 rfl ?_
      refine z_get (v := .int (o_p1 0 0)) X k_X9_post_72 14 rfl rfl dX9_post_4 ?_
      have hF := if_e hF
      refine z_icmp_ge (tgt := 119) X dX9_post_7 (by decide) (fun c189 => ?_) (fun c189 => ?_)
      · have hF := hF.1 c189
        cases hF
        have hL := Option.some.inj hL
        refine z_lv (lv' := []) [] rfl ?_
        exact L105_x o94 o95 o96 o97 o98 hL
      · have hF := hF.2 c189
        refine z_aload_n X dX9_post_10 rfl 1 rfl ?_
        refine z_get (v := .ref (a_p1 1)) X k_X9_post_102 14 rfl rfl dX9_post_11 ?_
        refine z_iload_n X dX9_post_14 rfl 3 rfl ?_
        obtain ⟨g107, hF⟩ := gi_e hF
        refine z_iald X 15 rfl g107 dX9_post_15 ?_
        obtain ⟨x108, ex108, hF⟩ := nx_e hF
        refine z_nm ex108 ?_
        refine z_istore (lv' := [(4, .int x108), (0, .ref h_t), (1, .ref h_p1), (2, .ref h_p2), (3, .int k99)]) X dX9_post_16 (by decide) rfl ?_
        refine z_aload_n X dX9_post_18 rfl 1 rfl ?_
        refine z_dup X dX9_post_19 rfl ?_
        refine z_get (v := .int (o94 5 0)) X k_X9_post_54 0 rfl rfl dX9_post_20 ?_
        refine z_iload X dX9_post_23 0 rfl ?_
        refine z_iconst (v := (2 : Int32)) X dX9_post_25 (by decide) ?_
        obtain ⟨K111, eK111, hF⟩ := nx_e hF
        have K111_l : ∀ (j110 : Int32), K111 j110 = some zz106 → ZW p l e R s m args below meth c D A 6 0 0 Q (w_X9_post cA h_t a_t o94 a_t_b0 o95 a_t_b1 o96 a_t_b2 o97 h_p1 a_p1 o_p1 h_p2 a_p2 o98) [(0, .ref h_t), (1, .ref h_p1), (2, .ref h_p2), (3, .int k99), (4, .int x108)] 34 [.int j110, .int (o94 5 0), .ref h_t] := by
          intro j110 hF
          rw [eK111] at hF
          refine z_iadd X dX9_post_34 ?_
          obtain ⟨o112, eo112, hF⟩ := nx_e hF
          refine z_put (ws' := (w_X9_post cA h_t a_t o112 a_t_b0 o95 a_t_b1 o96 a_t_b2 o97 h_p1 a_p1 o_p1 h_p2 a_p2 o98)) X k_X9_post_54 tyX9 tyX9_ok nmX9 rfl rfl 0 rfl (Nat.le_of_ble_eq_true rfl) (by rw [eo112]; rfl) dX9_post_35 ?_
          refine z_aload_n X dX9_post_38 rfl 0 rfl ?_
          refine z_dup X dX9_post_39 rfl ?_
          refine z_get (v := .int (o112 6 0)) X k_X9_post_57 0 rfl rfl dX9_post_40 ?_
          refine z_iload X dX9_post_43 4 rfl ?_
          refine z_iconst (v := (3 : Int32)) X dX9_post_45 (by decide) ?_
          obtain ⟨K115, eK115, hF⟩ := nx_e hF
          have K115_l : ∀ (j114 : Int32), K115 j114 = some zz106 → ZW p l e R s m args below meth c D A 6 0 0 Q (w_X9_post cA h_t a_t o112 a_t_b0 o95 a_t_b1 o96 a_t_b2 o97 h_p1 a_p1 o_p1 h_p2 a_p2 o98) [(0, .ref h_t), (1, .ref h_p1), (2, .ref h_p2), (3, .int k99), (4, .int x108)] 54 [.int j114, .int (o112 6 0), .ref h_t] := by
            intro j114 hF
            rw [eK115] at hF
            refine z_iadd X dX9_post_54 ?_
            obtain ⟨o116, eo116, hF⟩ := nx_e hF
            refine z_put (ws' := (w_X9_post cA h_t a_t o116 a_t_b0 o95 a_t_b1 o96 a_t_b2 o97 h_p1 a_p1 o_p1 h_p2 a_p2 o98)) X k_X9_post_57 tyX9 tyX9_ok nmX9 rfl rfl 0 rfl (Nat.le_of_ble_eq_true rfl) (by rw [eo116]; rfl) dX9_post_55 ?_
            refine z_iload X dX9_post_58 4 rfl ?_
            refine z_iconst (v := (2 : Int32)) X dX9_post_60 (by decide) ?_
            obtain ⟨K125, eK125, hF⟩ := nx_e hF
            have K125_l : ∀ (q124 : Ob), K125 q124 = some zz106 → ZW p l e R s m args below meth c D A 6 0 0 Q (w_X9_post cA h_t a_t o116 a_t_b0 o95 a_t_b1 o96 a_t_b2 o97 h_p1 a_p1 o_p1 h_p2 a_p2 q124) [(0, .ref h_t), (1, .ref h_p1), (2, .ref h_p2), (3, .int k99), (4, .int x108)] 74 [] := by
              intro q124 hF
              rw [eK125] at hF
              refine z_iconst (v := (0 : Int32)) X dX9_post_74 (by decide) ?_
              refine z_istore (lv' := [(5, .int (0 : Int32)), (0, .ref h_t), (1, .ref h_p1), (2, .ref h_p2), (3, .int k99), (4, .int x108)]) X dX9_post_75 (by decide) rfl ?_
              obtain ⟨o158, o159, o160, hL, hF⟩ := zb3_e hF
              have L162_x : ∀ (o158' : Ob) (o159' : Ob) (o160' : Ob), (o158', o159', o160') = (o158, o159, o160) → ZW p l e R s m args below meth c D A 6 0 0 Q (w_X9_post cA h_t a_t o116 a_t_b0 o158' a_t_b1 o159' a_t_b2 o160' h_p1 a_p1 o_p1 h_p2 a_p2 q124) [(0, .ref h_t), (1, .ref h_p1), (2, .ref h_p2), (3, .int k99)] 113 [] := by
                intro o158' o159' o160' hz
                cases hz
                obtain ⟨x161, ex161, hF⟩ := nx_e hF
                refine z_iinc (v := x161) (lv' := [(3, .int x161), (0, .ref h_t), (1, .ref h_p1), (2, .ref h_p2)]) (j := 3) X dX9_post_113 rfl (by rw [ex161]; rfl) (by decide) rfl ?_
                refine z_goto (tgt := 2) X dX9_post_116 (by decide) ?_
                cases hF
                refine z_lv (lv' := [(0, .ref h_t), (1, .ref h_p1), (2, .ref h_p2), (3, .int x161)]) [1, 2, 3, 0] rfl ?_
                exact ih o116 o158 o159 o160 q124 x161 hL
              obtain ⟨B182, hBB182, hL⟩ := zl4_b hL
              have L162 : ∀ (n : Nat) (o154 : Ob) (o155 : Ob) (o156 : Ob) (k157 : Int32), zl4 B182 n o154 o155 o156 k157 = some (o158, o159, o160) → ZW p l e R s m args below meth c D A 6 0 0 Q (w_X9_post cA h_t a_t o116 a_t_b0 o154 a_t_b1 o155 a_t_b2 o156 h_p1 a_p1 o_p1 h_p2 a_p2 q124) [(0, .ref h_t), (1, .ref h_p1), (2, .ref h_p2), (3, .int k99), (4, .int x108), (5, .int k157)] 77 [] := by
                intro n
                induction n with
                | zero => intro o154 o155 o156 k157 hL; cases hL
                | succ n ih =>
                  intro o154 o155 o156 k157 hL
                  obtain ⟨zz163, hF, hL⟩ := zl4_e hL
                  rw [hBB182] at hF
                  refine z_iload X dX9_post_77 5 rfl ?_
                  refine z_iconst (v := (3 : Int32)) X dX9_post_79 (by decide) ?_
                  have hF := if_e hF
                  refine z_icmp_ge (tgt := 113) X dX9_post_80 (by decide) (fun c181 => ?_) (fun c181 => ?_)
                  · have hF := hF.1 c181
                    cases hF
                    have hL := Option.some.inj hL
                    refine z_lv (lv' := [(0, .ref h_t), (1, .ref h_p1), (2, .ref h_p2), (3, .int k99)]) [0, 1, 2, 3] rfl ?_
                    exact L162_x o154 o155 o156 hL
                  · have hF := hF.2 c181
                    refine z_aload_n X dX9_post_83 rfl 0 rfl ?_
                    refine z_get (v := .ref (a_t 3)) X k_X9_post_34 0 rfl rfl dX9_post_84 ?_
                    refine z_iload X dX9_post_87 5 rfl ?_
                    obtain ⟨g164, hF⟩ := gi_e hF
                    have hF := if_e hF
                    refine z_bk X 1 rfl g164 dX9_post_89 (fun c0c180 => ?_) (fun c0c180 c1c180 => ?_) (fun c0c180 c1c180 c2c180 => ?_)
                    · have hF := hF.1 c0c180
                      refine z_iload X dX9_post_90 4 rfl ?_
                      refine z_aload_n X dX9_post_92 rfl 1 rfl ?_
                      refine z_get (v := .ref (a_p1 2)) X k_X9_post_110 14 rfl rfl dX9_post_93 ?_
                      refine z_iload_n X dX9_post_96 rfl 3 rfl ?_
                      obtain ⟨g165, hF⟩ := gi_e hF
                      refine z_iald X 16 rfl g165 dX9_post_97 ?_
                      refine z_aload_n X dX9_post_98 rfl 1 rfl ?_
                      refine z_get (v := .ref (a_p1 3)) X k_X9_post_113 14 rfl rfl dX9_post_99 ?_
                      refine z_iload_n X dX9_post_102 rfl 3 rfl ?_
                      obtain ⟨g166, hF⟩ := gi_e hF
                      refine z_iald X 17 rfl g166 dX9_post_103 ?_
                      obtain ⟨o167, hc168, hF⟩ := zb1_e hF
                      refine z_Vv (As := [.int x108, .int (o_p1 2 (Int32.toNatClampNeg k99)), .int (o_p1 3 (Int32.toNatClampNeg k99))]) (rest := []) (wc := (w_X0_close cA (a_t 20) a_t_b0 o154)) (wc' := (w_X0_close cA (a_t 20) a_t_b0 o167)) (ws' := (w_X9_post cA h_t a_t o116 a_t_b0 o167 a_t_b1 o155 a_t_b2 o156 h_p1 a_p1 o_p1 h_p2 a_p2 q124)) X (cwV 3 X.2.2.2.2.1 gX9_post_X0_write rfl rfl rfl (by decide +kernel) (by rw [hR]; exact ⟨Nat.le_of_ble_eq_true rfl, Nat.le_of_ble_eq_true rfl⟩)) (fun sz => c_X0_write l D cA g sz (a_t 20) a_t_b0 o154 x108 (o_p1 2 (Int32.toNatClampNeg k99)) (o_p1 3 (Int32.toNatClampNeg k99)) o167 hc168) [2, 3, 4, 5] [0, 1, 1000, 1001, 1002, 1003, 6, 7, 8, 9, 10, 11, 12, 13, 14, 15, 16, 17, 18, 19] rfl (by decide) rfl (by decide) rfl rfl rfl rfl rfl rfl (Nat.le_of_ble_eq_true rfl) dX9_post_104 ⟨Nat.zero_le _, Nat.zero_le _⟩ ?_
                      obtain ⟨x169, ex169, hF⟩ := nx_e hF
                      refine z_iinc (v := x169) (lv' := [(5, .int x169), (0, .ref h_t), (1, .ref h_p1), (2, .ref h_p2), (3, .int k99), (4, .int x108)]) (j := 5) X dX9_post_107 rfl (by rw [ex169]; rfl) (by decide) rfl ?_
                      refine z_goto (tgt := 77) X dX9_post_110 (by decide) ?_
                      cases hF
                      refine z_lv (lv' := [(0, .ref h_t), (1, .ref h_p1), (2, .ref h_p2), (3, .int k99), (4, .int x108), (5, .int x169)]) [1, 2, 3, 4, 5, 0] rfl ?_
                      exact ih o167 o155 o156 x169 hL
                    · have hF := (if_e (hF.2 c0c180)).1 c1c180
                      refine z_iload X dX9_post_90 4 rfl ?_
                      refine z_aload_n X dX9_post_92 rfl 1 rfl ?_
                      refine z_get (v := .ref (a_p1 2)) X k_X9_post_110 14 rfl rfl dX9_post_93 ?_
                      refine z_iload_n X dX9_post_96 rfl 3 rfl ?_
                      obtain ⟨g170, hF⟩ := gi_e hF
                      refine z_iald X 16 rfl g170 dX9_post_97 ?_
                      refine z_aload_n X dX9_post_98 rfl 1 rfl ?_
                      refine z_get (v := .ref (a_p1 3)) X k_X9_post_113 14 rfl rfl dX9_post_99 ?_
                      refine z_iload_n X dX9_post_102 rfl 3 rfl ?_
                      obtain ⟨g171, hF⟩ := gi_e hF
                      refine z_iald X 17 rfl g171 dX9_post_103 ?_
                      obtain ⟨o172, hc173, hF⟩ := zb1_e hF
                      refine z_Vv (As := [.int x108, .int (o_p1 2 (Int32.toNatClampNeg k99)), .int (o_p1 3 (Int32.toNatClampNeg k99))]) (rest := []) (wc := (w_X0_close cA (a_t 21) a_t_b1 o155)) (wc' := (w_X0_close cA (a_t 21) a_t_b1 o172)) (ws' := (w_X9_post cA h_t a_t o116 a_t_b0 o154 a_t_b1 o172 a_t_b2 o156 h_p1 a_p1 o_p1 h_p2 a_p2 q124)) X (cwV 3 X.2.2.2.2.1 gX9_post_X0_write rfl rfl rfl (by decide +kernel) (by rw [hR]; exact ⟨Nat.le_of_ble_eq_true rfl, Nat.le_of_ble_eq_true rfl⟩)) (fun sz => c_X0_write l D cA g sz (a_t 21) a_t_b1 o155 x108 (o_p1 2 (Int32.toNatClampNeg k99)) (o_p1 3 (Int32.toNatClampNeg k99)) o172 hc173) [6, 7, 8, 9] [0, 1, 2, 3, 4, 5, 1000, 1001, 1002, 1003, 10, 11, 12, 13, 14, 15, 16, 17, 18, 19] rfl (by decide) rfl (by decide) rfl rfl rfl rfl rfl rfl (Nat.le_of_ble_eq_true rfl) dX9_post_104 ⟨Nat.zero_le _, Nat.zero_le _⟩ ?_
                      obtain ⟨x174, ex174, hF⟩ := nx_e hF
                      refine z_iinc (v := x174) (lv' := [(5, .int x174), (0, .ref h_t), (1, .ref h_p1), (2, .ref h_p2), (3, .int k99), (4, .int x108)]) (j := 5) X dX9_post_107 rfl (by rw [ex174]; rfl) (by decide) rfl ?_
                      refine z_goto (tgt := 77) X dX9_post_110 (by decide) ?_
                      cases hF
                      refine z_lv (lv' := [(0, .ref h_t), (1, .ref h_p1), (2, .ref h_p2), (3, .int k99), (4, .int x108), (5, .int x174)]) [1, 2, 3, 4, 5, 0] rfl ?_
                      exact ih o154 o172 o156 x174 hL
                    · have hF := (if_e (hF.2 c0c180)).2 c1c180
                      refine z_iload X dX9_post_90 4 rfl ?_
                      refine z_aload_n X dX9_post_92 rfl 1 rfl ?_
                      refine z_get (v := .ref (a_p1 2)) X k_X9_post_110 14 rfl rfl dX9_post_93 ?_
                      refine z_iload_n X dX9_post_96 rfl 3 rfl ?_
                      obtain ⟨g175, hF⟩ := gi_e hF
                      refine z_iald X 16 rfl g175 dX9_post_97 ?_
                      refine z_aload_n X dX9_post_98 rfl 1 rfl ?_
                      refine z_get (v := .ref (a_p1 3)) X k_X9_post_113 14 rfl rfl dX9_post_99 ?_
                      refine z_iload_n X dX9_post_102 rfl 3 rfl ?_
                      obtain ⟨g176, hF⟩ := gi_e hF
                      refine z_iald X 17 rfl g176 dX9_post_103 ?_
                      obtain ⟨o177, hc178, hF⟩ := zb1_e hF
                      refine z_Vv (As := [.int x108, .int (o_p1 2 (Int32.toNatClampNeg k99)), .int (o_p1 3 (Int32.toNatClampNeg k99))]) (rest := []) (wc := (w_X0_close cA (a_t 22) a_t_b2 o156)) (wc' := (w_X0_close cA (a_t 22) a_t_b2 o177)) (ws' := (w_X9_post cA h_t a_t o116 a_t_b0 o154 a_t_b1 o155 a_t_b2 o177 h_p1 a_p1 o_p1 h_p2 a_p2 q124)) X (cwV 3 X.2.2.2.2.1 gX9_post_X0_write rfl rfl rfl (by decide +kernel) (by rw [hR]; exact ⟨Nat.le_of_ble_eq_true rfl, Nat.le_of_ble_eq_true rfl⟩)) (fun sz => c_X0_write l D cA g sz (a_t 22) a_t_b2 o156 x108 (o_p1 2 (Int32.toNatClampNeg k99)) (o_p1 3 (Int32.toNatClampNeg k99)) o177 hc178) [10, 11, 12, 13] [0, 1, 2, 3, 4, 5, 6, 7, 8, 9, 1000, 1001, 1002, 1003, 14, 15, 16, 17, 18, 19] rfl (by decide) rfl (by decide) rfl rfl rfl rfl rfl rfl (Nat.le_of_ble_eq_true rfl) dX9_post_104 ⟨Nat.zero_le _, Nat.zero_le _⟩ ?_
                      obtain ⟨x179, ex179, hF⟩ := nx_e hF
                      refine z_iinc (v := x179) (lv' := [(5, .int x179), (0, .ref h_t), (1, .ref h_p1), (2, .ref h_p2), (3, .int k99), (4, .int x108)]) (j := 5) X dX9_post_107 rfl (by rw [ex179]; rfl) (by decide) rfl ?_
                      refine z_goto (tgt := 77) X dX9_post_110 (by decide) ?_
                      cases hF
                      refine z_lv (lv' := [(0, .ref h_t), (1, .ref h_p1), (2, .ref h_p2), (3, .int k99), (4, .int x108), (5, .int x179)]) [1, 2, 3, 4, 5, 0] rfl ?_
                      exact ih o154 o155 o177 x179 hL
              refine z_lv (lv' := [(0, .ref h_t), (1, .ref h_p1), (2, .ref h_p2), (3, .int k99), (4, .int x108), (5, .int (0 : Int32))]) [1, 2, 3, 4, 5, 0] rfl ?_
              exact L162 FU o95 o96 o97 (0 : Int32) hL
            obtain ⟨K119, eK119, hF⟩ := nx_e hF
            have K119_l : ∀ (_ : Unit), K119 () = some zz106 → ZW p l e R s m args below meth c D A 6 0 0 Q (w_X9_post cA h_t a_t o116 a_t_b0 o95 a_t_b1 o96 a_t_b2 o97 h_p1 a_p1 o_p1 h_p2 a_p2 o98) [(0, .ref h_t), (1, .ref h_p1), (2, .ref h_p2), (3, .int k99), (4, .int x108)] 70 [] := by
              intro _ hF
              rw [eK119] at hF
              refine z_aload_n X dX9_post_70 rfl 2 rfl ?_
              obtain ⟨o183, hc184, hF⟩ := zb1_e hF
              refine z_Vv (As := []) (rest := []) (wc := (w_X2_newCall cA h_p2 a_p2 o98)) (wc' := (w_X2_newCall cA h_p2 a_p2 o183)) (ws' := (w_X9_post cA h_t a_t o116 a_t_b0 o95 a_t_b1 o96 a_t_b2 o97 h_p1 a_p1 o_p1 h_p2 a_p2 o183)) X (cwV 0 X.2.2.2.2.1 gX9_post_X2_pass rfl rfl rfl (by decide +kernel) (by rw [hR]; exact ⟨Nat.le_of_ble_eq_true rfl, Nat.le_of_ble_eq_true rfl⟩)) (fun sz => c_X2_pass l D cA g sz h_p2 a_p2 o98 o183 hc184) [18, 19] [0, 1, 2, 3, 4, 5, 6, 7, 8, 9, 10, 11, 12, 13, 14, 15, 16, 17, 1000, 1001] rfl (by decide) rfl (by decide) rfl rfl rfl rfl rfl rfl (Nat.le_of_ble_eq_true rfl) dX9_post_71 ⟨Nat.zero_le _, Nat.zero_le _⟩ ?_
              refine z_lv (lv' := [(0, .ref h_t), (1, .ref h_p1), (2, .ref h_p2), (3, .int k99), (4, .int x108)]) [0, 1, 2, 3, 4] rfl ?_
              exact K125_l o183 hF
            have hF := if_e hF
            refine z_icmp_eq (tgt := 70) X dX9_post_61 (by decide) (fun c186 => ?_) (fun c186 => ?_)
            · have hF := hF.1 c186
              refine z_lv (lv' := [(0, .ref h_t), (1, .ref h_p1), (2, .ref h_p2), (3, .int k99), (4, .int x108)]) [0, 1, 2, 3, 4] rfl ?_
              exact K119_l () hF
            · have hF := hF.2 c186
              refine z_iload X dX9_post_64 4 rfl ?_
              refine z_iconst (v := (3 : Int32)) X dX9_post_66 (by decide) ?_
              have hF := if_e hF
              refine z_icmp_ne (tgt := 74) X dX9_post_67 (by decide) (fun c185 => ?_) (fun c185 => ?_)
              · have hF := hF.2 c185
                refine z_lv (lv' := [(0, .ref h_t), (1, .ref h_p1), (2, .ref h_p2), (3, .int k99), (4, .int x108)]) [0, 1, 2, 3, 4] rfl ?_
                exact K125_l o98 hF
              · have hF := hF.1 c185
                refine z_lv (lv' := [(0, .ref h_t), (1, .ref h_p1), (2, .ref h_p2), (3, .int k99), (4, .int x108)]) [0, 1, 2, 3, 4] rfl ?_
                exact K119_l () hF
          have hF := if_e hF
          refine z_icmp_ne (tgt := 53) X dX9_post_46 (by decide) (fun c187 => ?_) (fun c187 => ?_)
          · have hF := hF.2 c187
            refine z_iconst (v := (0 : Int32)) X dX9_post_53 (by decide) ?_
            refine z_lv (lv' := [(0, .ref h_t), (1, .ref h_p1), (2, .ref h_p2), (3, .int k99), (4, .int x108)]) [0, 1, 2, 3, 4] rfl ?_
            exact K115_l (0 : Int32) hF
          · have hF := hF.1 c187
            refine z_iconst (v := (1 : Int32)) X dX9_post_49 (by decide) ?_
            refine z_goto (tgt := 54) X dX9_post_50 (by decide) ?_
            refine z_lv (lv' := [(0, .ref h_t), (1, .ref h_p1), (2, .ref h_p2), (3, .int k99), (4, .int x108)]) [0, 1, 2, 3, 4] rfl ?_
            exact K115_l (1 : Int32) hF
        have hF := if_e hF
        refine z_icmp_ne (tgt := 33) X dX9_post_26 (by decide) (fun c188 => ?_) (fun c188 => ?_)
        · have hF := hF.2 c188
          refine z_iconst (v := (0 : Int32)) X dX9_post_33 (by decide) ?_
          refine z_lv (lv' := [(0, .ref h_t), (1, .ref h_p1), (2, .ref h_p2), (3, .int k99), (4, .int x108)]) [1, 2, 3, 4, 0] rfl ?_
          exact K111_l (0 : Int32) hF
        · have hF := hF.1 c188
          refine z_iconst (v := (1 : Int32)) X dX9_post_29 (by decide) ?_
          refine z_goto (tgt := 34) X dX9_post_30 (by decide) ?_
          refine z_lv (lv' := [(0, .ref h_t), (1, .ref h_p1), (2, .ref h_p2), (3, .int k99), (4, .int x108)]) [1, 2, 3, 4, 0] rfl ?_
          exact K111_l (1 : Int32) hF
  refine z_lv (lv' := [(0, .ref h_t), (1, .ref h_p1), (2, .ref h_p2), (3, .int (0 : Int32))]) [1, 2, 3, 0] rfl ?_
  exact L105 FU o_t o_t_b0 o_t_b1 o_t_b2 o_p2 (0 : Int32) hL
abbrev w_X9_ask (cA : Nat → ClassId) (h_t : Nat) (a_t : Nat → Nat) (o_t : Ob) (a_t_wares : Nat → Nat) (o_t_wares : Ob) (a_t_shelf : Nat → Nat) (o_t_shelf : Ob) (a_t_log : Nat → Nat) (o_t_log : Ob) (a_t_b0 : Nat → Nat) (o_t_b0 : Ob) (a_t_b1 : Nat → Nat) (o_t_b1 : Ob) (a_t_b2 : Nat → Nat) (o_t_b2 : Ob) (h_p2 : Nat) (a_p2 : Nat → Nat) (o_p2 : Ob) (h_p3 : Nat) (a_p3 : Nat → Nat) (o_p3 : Ob) : va_W := [(h_t, .inr (9, [.ref (a_t 0), .ref (a_t 1), .ref (a_t 2), .ref (a_t 3), .int (o_t 4 0), .int (o_t 5 0), .int (o_t 6 0)])), (a_t 3, .inl (cA 4, 3, .inr (.inr (.inr (.inr (bk (a_t 20) (a_t 21) (a_t 22))))))), ((a_t 0), .inr (10, [.int (o_t_wares 0 0), .ref (a_t_wares 1), .ref (a_t_wares 2), .ref (a_t_wares 3), .ref (a_t_wares 4)])), (a_t_wares 1, .inl (cA 0, 8, .inl (o_t_wares 1))), (a_t_wares 2, .inl (cA 0, 8, .inl (o_t_wares 2))), (a_t_wares 3, .inl (cA 0, 8, .inl (o_t_wares 3))), (a_t_wares 4, .inl (cA 0, 8, .inl (o_t_wares 4))), ((a_t 1), .inr (8, [.int (o_t_shelf 0 0), .int (o_t_shelf 1 0), .int (o_t_shelf 2 0), .int (o_t_shelf 3 0), .ref (a_t_shelf 4), .ref (a_t_shelf 5), .ref (a_t_shelf 6)])), (a_t_shelf 4, .inl (cA 0, 8, .inl (o_t_shelf 4))), (a_t_shelf 5, .inl (cA 0, 8, .inl (o_t_shelf 5))), (a_t_shelf 6, .inl (cA 1, 8, .inr (.inr (.inl (fun j => (o_t_shelf 6 j).toUInt32))))), ((a_t 2), .inr (4, [.int (o_t_log 0 0), .ref (a_t_log 1), .ref (a_t_log 2), .ref (a_t_log 3), .ref (a_t_log 4)])), (a_t_log 1, .inl (cA 0, 40, .inl (o_t_log 1))), (a_t_log 2, .inl (cA 0, 40, .inl (o_t_log 2))), (a_t_log 3, .inl (cA 0, 40, .inl (o_t_log 3))), (a_t_log 4, .inl (cA 0, 320, .inl (o_t_log 4))), ((a_t 20), .inr (0, [.int (o_t_b0 0 0), .int (o_t_b0 1 0), .int (o_t_b0 2 0), .int (o_t_b0 3 0), .int (o_t_b0 4 0), .int (o_t_b0 5 0), .int (o_t_b0 6 0), .ref (a_t_b0 7), .ref (a_t_b0 8), .ref (a_t_b0 9)])), (a_t_b0 7, .inl (cA 0, 30, .inl (o_t_b0 7))), (a_t_b0 8, .inl (cA 0, 30, .inl (o_t_b0 8))), (a_t_b0 9, .inl (cA 0, 30, .inl (o_t_b0 9))), ((a_t 21), .inr (0, [.int (o_t_b1 0 0), .int (o_t_b1 1 0), .int (o_t_b1 2 0), .int (o_t_b1 3 0), .int (o_t_b1 4 0), .int (o_t_b1 5 0), .int (o_t_b1 6 0), .ref (a_t_b1 7), .ref (a_t_b1 8), .ref (a_t_b1 9)])), (a_t_b1 7, .inl (cA 0, 30, .inl (o_t_b1 7))), (a_t_b1 8, .inl (cA 0, 30, .inl (o_t_b1 8))), (a_t_b1 9, .inl (cA 0, 30, .inl (o_t_b1 9))), ((a_t 22), .inr (0, [.int (o_t_b2 0 0), .int (o_t_b2 1 0), .int (o_t_b2 2 0), .int (o_t_b2 3 0), .int (o_t_b2 4 0), .int (o_t_b2 5 0), .int (o_t_b2 6 0), .ref (a_t_b2 7), .ref (a_t_b2 8), .ref (a_t_b2 9)])), (a_t_b2 7, .inl (cA 0, 30, .inl (o_t_b2 7))), (a_t_b2 8, .inl (cA 0, 30, .inl (o_t_b2 8))), (a_t_b2 9, .inl (cA 0, 30, .inl (o_t_b2 9))), (h_p2, .inr (1, [.int (o_p2 0 0), .ref (a_p2 1), .ref (a_p2 2), .ref (a_p2 3)])), (a_p2 1, .inl (cA 0, 9, .inl (o_p2 1))), (a_p2 2, .inl (cA 0, 9, .inl (o_p2 2))), (a_p2 3, .inl (cA 0, 9, .inl (o_p2 3))), (h_p3, .inr (2, [.ref (a_p3 0), .int (o_p3 1 0), .int (o_p3 2 0)])), (a_p3 0, .inl (cA 0, 60, .inl (o_p3 0)))]
set_option maxRecDepth 20000 in
theorem h_X9_ask_X9 : ∀ w ∈ wsX90, w ∈ wsX9_ask := by decide +kernel
set_option maxRecDepth 20000 in
theorem k_X9_ask_12 : ZF wsX9_ask RX9 12 9 0 RX9 TX9 7 := ⟨rfl, by decide, h_X9_ask_X9, by decide +kernel⟩
set_option maxRecDepth 20000 in
theorem k_X9_ask_21 : ZF wsX9_ask RX9 21 9 1 RX9 TX9 7 := ⟨rfl, by decide, h_X9_ask_X9, by decide +kernel⟩
set_option maxRecDepth 20000 in
theorem k_X9_ask_28 : ZF wsX9_ask RX9 28 9 2 RX9 TX9 7 := ⟨rfl, by decide, h_X9_ask_X9, by decide +kernel⟩
set_option maxRecDepth 20000 in
theorem k_X9_ask_51 : ZF wsX9_ask RX9 51 9 4 RX9 TX9 7 := ⟨rfl, by decide, h_X9_ask_X9, by decide +kernel⟩
set_option maxRecDepth 20000 in
theorem h_X9_ask_X1 : ∀ w ∈ wsX10, w ∈ wsX9_ask := by decide +kernel
set_option maxRecDepth 20000 in
theorem k_X9_ask_72 : ZF wsX9_ask RX9 72 1 0 RX1 TX1 4 := ⟨rfl, by decide, h_X9_ask_X1, by decide +kernel⟩
set_option maxHeartbeats 8000000 in
set_option maxRecDepth 100000 in
theorem c_X9_ask (l : Launch) (D : va_G) (cA : Nat → ClassId) (g : Nat → Nat) (sz : Nat) (h_t : Nat) (a_t : Nat → Nat) (o_t : Ob) (a_t_wares : Nat → Nat) (o_t_wares : Ob) (a_t_shelf : Nat → Nat) (o_t_shelf : Ob) (a_t_log : Nat → Nat) (o_t_log : Ob) (a_t_b0 : Nat → Nat) (o_t_b0 : Ob) (a_t_b1 : Nat → Nat) (o_t_b1 : Ob) (a_t_b2 : Nat → Nat) (o_t_b2 : Ob) (h_p2 : Nat) (a_p2 : Nat → Nat) (o_p2 : Ob) (h_p3 : Nat) (a_p3 : Nat → Nat) (o_p3 : Ob) (v1 : Int32) (o_t' : Ob) (o_t_shelf' : Ob) (o_t_log' : Ob) (o_t_b0' : Ob) (o_t_b1' : Ob) (o_t_b2' : Ob) (o_p2' : Ob) (o_p3' : Ob) (rv : Int32) (hF : f_X9_ask o_t o_t_wares o_t_shelf o_t_log o_t_b0 o_t_b1 o_t_b2 o_p2 o_p3 v1 = some (o_t', o_t_shelf', o_t_log', o_t_b0', o_t_b1', o_t_b2', o_p2', o_p3', rv)) : Met l yX9_ask wsX9_ask ({ frames := 4, cells := 0, slots := 0, locals := 96 }) (va_Pc [.ref h_t, .int v1, .ref h_p2, .ref h_p3] (PreW D cA g sz (w_X9_ask cA h_t a_t o_t a_t_wares o_t_wares a_t_shelf o_t_shelf a_t_log o_t_log a_t_b0 o_t_b0 a_t_b1 o_t_b1 a_t_b2 o_t_b2 h_p2 a_p2 o_p2 h_p3 a_p3 o_p3))) (va_Qi (fun (r : Int32) (_ : Unit) => r = rv) (PostW D cA sz (w_X9_ask cA h_t a_t o_t a_t_wares o_t_wares a_t_shelf o_t_shelf a_t_log o_t_log a_t_b0 o_t_b0 a_t_b1 o_t_b1 a_t_b2 o_t_b2 h_p2 a_p2 o_p2 h_p3 a_p3 o_p3) (w_X9_ask cA h_t a_t o_t' a_t_wares o_t_wares a_t_shelf o_t_shelf' a_t_log o_t_log' a_t_b0 o_t_b0' a_t_b1 o_t_b1' a_t_b2 o_t_b2' h_p2 a_p2 o_p2' h_p3 a_p3 o_p3')) (va_A (w_X9_ask cA h_t a_t o_t a_t_wares o_t_wares a_t_shelf o_t_shelf a_t_log o_t_log a_t_b0 o_t_b0 a_t_b1 o_t_b1 a_t_b2 o_t_b2 h_p2 a_p2 o_p2 h_p3 a_p3 o_p3) sz)) 0 0 (va_A (w_X9_ask cA h_t a_t o_t a_t_wares o_t_wares a_t_shelf o_t_shelf a_t_log o_t_log a_t_b0 o_t_b0 a_t_b1 o_t_b1 a_t_b2 o_t_b2 h_p2 a_p2 o_p2 h_p3 a_p3 o_p3) sz) := by
  refine z_start (cc := cX9_ask) (maxL := 5) (ret := (some .int)) (lv0 := [(0, .ref h_t), (1, .int v1), (2, .ref h_p2), (3, .ref h_p3)]) (Qc := fun sz => va_Qi (fun (r : Int32) (_ : Unit) => r = rv) (PostW D cA sz (w_X9_ask cA h_t a_t o_t a_t_wares o_t_wares a_t_shelf o_t_shelf a_t_log o_t_log a_t_b0 o_t_b0 a_t_b1 o_t_b1 a_t_b2 o_t_b2 h_p2 a_p2 o_p2 h_p3 a_p3 o_p3) (w_X9_ask cA h_t a_t o_t' a_t_wares o_t_wares a_t_shelf o_t_shelf' a_t_log o_t_log' a_t_b0 o_t_b0' a_t_b1 o_t_b1' a_t_b2 o_t_b2' h_p2 a_p2 o_p2' h_p3 a_p3 o_p3')) (va_A (w_X9_ask cA h_t a_t o_t a_t_wares o_t_wares a_t_shelf o_t_shelf a_t_log o_t_log a_t_b0 o_t_b0 a_t_b1 o_t_b1 a_t_b2 o_t_b2 h_p2 a_p2 o_p2 h_p3 a_p3 o_p3) sz)) (free := fun sz => va_A (w_X9_ask cA h_t a_t o_t a_t_wares o_t_wares a_t_shelf o_t_shelf a_t_log o_t_log a_t_b0 o_t_b0 a_t_b1 o_t_b1 a_t_b2 o_t_b2 h_p2 a_p2 o_p2 h_p3 a_p3 o_p3) sz) (by decide +kernel) rfl rfl (Nat.le_of_ble_eq_true rfl) ?_
  intro p e R s m args below meth c A Q hR hA hQ X hr hin
  unfold f_X9_ask at hF
  refine z_aload_n X dX9_ask_0 rfl 2 rfl ?_
  refine z_iconst (v := (0 : Int32)) X dX9_ask_1 (by decide) ?_
  obtain ⟨o1, eo1, hF⟩ := nx_e hF
  refine z_put (ws' := (w_X9_ask cA h_t a_t o_t a_t_wares o_t_wares a_t_shelf o_t_shelf a_t_log o_t_log a_t_b0 o_t_b0 a_t_b1 o_t_b1 a_t_b2 o_t_b2 h_p2 a_p2 o1 h_p3 a_p3 o_p3)) X k_X9_ask_72 tyX1 tyX1_ok nmX1 rfl rfl 28 rfl (Nat.le_of_ble_eq_true rfl) (by rw [eo1]; rfl) dX9_ask_2 ?_
  refine z_aload_n X dX9_ask_5 rfl 0 rfl ?_
  refine z_get (v := .ref (a_t 1)) X k_X9_ask_21 0 rfl rfl dX9_ask_6 ?_
  refine z_aload_n X dX9_ask_9 rfl 0 rfl ?_
  refine z_get (v := .ref (a_t 0)) X k_X9_ask_12 0 rfl rfl dX9_ask_10 ?_
  refine z_iload_n X dX9_ask_13 rfl 1 rfl ?_
  refine z_aload_n X dX9_ask_14 rfl 2 rfl ?_
  obtain ⟨o2, o3, r4, hc5, hF⟩ := zb3_e hF
  refine z_Vi (As := [.ref (a_t 0), .int v1, .ref h_p2]) (rest := []) (wc := (w_X8_lower cA (a_t 1) a_t_shelf o_t_shelf (a_t 0) a_t_wares o_t_wares h_p2 a_p2 o1)) (wc' := (w_X8_lower cA (a_t 1) a_t_shelf o2 (a_t 0) a_t_wares o_t_wares h_p2 a_p2 o3)) (ws' := (w_X9_ask cA h_t a_t o_t a_t_wares o_t_wares a_t_shelf o2 a_t_log o_t_log a_t_b0 o_t_b0 a_t_b1 o_t_b1 a_t_b2 o_t_b2 h_p2 a_p2 o3 h_p3 a_p3 o_p3)) (rv := r4) X (cwV 3 X.2.2.2.2.1 gX9_ask_X8_serve rfl rfl rfl (by decide +kernel) (by rw [hR]; exact ⟨Nat.le_of_ble_eq_true rfl, Nat.le_of_ble_eq_true rfl⟩)) (fun sz => c_X8_serve l D cA g sz (a_t 1) a_t_shelf o_t_shelf (a_t 0) a_t_wares o_t_wares h_p2 a_p2 o1 v1 o2 o3 r4 hc5) [7, 8, 9, 10, 2, 3, 4, 5, 6, 28, 29, 30, 31] [0, 1, 1004, 1005, 1006, 1007, 1008, 1000, 1001, 1002, 1003, 11, 12, 13, 14, 15, 16, 17, 18, 19, 20, 21, 22, 23, 24, 25, 26, 27, 1009, 1010, 1011, 1012, 32, 33] rfl (by decide) rfl (by decide) rfl rfl rfl rfl rfl rfl (Nat.le_of_ble_eq_true rfl) dX9_ask_15 ⟨Nat.zero_le _, Nat.zero_le _⟩ ?_
  refine z_istore (lv' := [(4, .int r4), (0, .ref h_t), (1, .int v1), (2, .ref h_p2), (3, .ref h_p3)]) X dX9_ask_18 (by decide) rfl ?_
  refine z_aload_n X dX9_ask_20 rfl 1 rfl ?_
  refine z_dup X dX9_ask_21 rfl ?_
  refine z_get (v := .int (o_t 4 0)) X k_X9_ask_51 0 rfl rfl dX9_ask_22 ?_
  refine z_iload X dX9_ask_25 0 rfl ?_
  refine z_iadd X dX9_ask_27 ?_
  obtain ⟨o6, eo6, hF⟩ := nx_e hF
  refine z_put (ws' := (w_X9_ask cA h_t a_t o6 a_t_wares o_t_wares a_t_shelf o2 a_t_log o_t_log a_t_b0 o_t_b0 a_t_b1 o_t_b1 a_t_b2 o_t_b2 h_p2 a_p2 o3 h_p3 a_p3 o_p3)) X k_X9_ask_51 tyX9 tyX9_ok nmX9 rfl rfl 0 rfl (Nat.le_of_ble_eq_true rfl) (by rw [eo6]; rfl) dX9_ask_28 ?_
  refine z_aload_n X dX9_ask_31 rfl 1 rfl ?_
  refine z_get (v := .ref (a_t 2)) X k_X9_ask_28 0 rfl rfl dX9_ask_32 ?_
  refine z_iload_n X dX9_ask_35 rfl 2 rfl ?_
  refine z_iload X dX9_ask_36 0 rfl ?_
  refine z_aload_n X dX9_ask_38 rfl 1 rfl ?_
  refine z_get (v := .ref (a_t 1)) X k_X9_ask_21 0 rfl rfl dX9_ask_39 ?_
  obtain ⟨o7, hc8, hF⟩ := zb1_e hF
  refine z_Vv (As := [.int v1, .int r4, .ref (a_t 1)]) (rest := []) (wc := (w_X4_add cA (a_t 2) a_t_log o_t_log (a_t 1) a_t_shelf o2)) (wc' := (w_X4_add cA (a_t 2) a_t_log o7 (a_t 1) a_t_shelf o2)) (ws' := (w_X9_ask cA h_t a_t o6 a_t_wares o_t_wares a_t_shelf o2 a_t_log o7 a_t_b0 o_t_b0 a_t_b1 o_t_b1 a_t_b2 o_t_b2 h_p2 a_p2 o3 h_p3 a_p3 o_p3)) X (cwV 3 X.2.2.2.2.1 gX9_ask_X4_add rfl rfl rfl (by decide +kernel) (by rw [hR]; exact ⟨Nat.le_of_ble_eq_true rfl, Nat.le_of_ble_eq_true rfl⟩)) (fun sz => c_X4_add l D cA g sz (a_t 2) a_t_log o_t_log (a_t 1) a_t_shelf o2 v1 r4 o7 hc8) [11, 12, 13, 14, 15, 7, 8, 9, 10] [0, 1, 2, 3, 4, 5, 6, 1005, 1006, 1007, 1008, 1000, 1001, 1002, 1003, 1004, 16, 17, 18, 19, 20, 21, 22, 23, 24, 25, 26, 27, 28, 29, 30, 31, 32, 33] rfl (by decide) rfl (by decide) rfl rfl rfl rfl rfl rfl (Nat.le_of_ble_eq_true rfl) dX9_ask_42 ⟨Nat.zero_le _, Nat.zero_le _⟩ ?_
  refine z_aload_n X dX9_ask_45 rfl 1 rfl ?_
  refine z_aload_n X dX9_ask_46 rfl 3 rfl ?_
  refine z_aload_n X dX9_ask_47 rfl 4 rfl ?_
  obtain ⟨o9, o10, o11, o12, o13, hc14, hF⟩ := zb5_e hF
  refine z_Vv (As := [.ref h_p2, .ref h_p3]) (rest := []) (wc := (w_X9_post cA h_t a_t o6 a_t_b0 o_t_b0 a_t_b1 o_t_b1 a_t_b2 o_t_b2 h_p2 a_p2 o3 h_p3 a_p3 o_p3)) (wc' := (w_X9_post cA h_t a_t o9 a_t_b0 o10 a_t_b1 o11 a_t_b2 o12 h_p2 a_p2 o3 h_p3 a_p3 o13)) (ws' := (w_X9_ask cA h_t a_t o9 a_t_wares o_t_wares a_t_shelf o2 a_t_log o7 a_t_b0 o10 a_t_b1 o11 a_t_b2 o12 h_p2 a_p2 o3 h_p3 a_p3 o13)) X (cwV 2 X.2.2.2.2.1 gX9_ask_X9_post rfl rfl rfl (by decide +kernel) (by rw [hR]; exact ⟨Nat.le_of_ble_eq_true rfl, Nat.le_of_ble_eq_true rfl⟩)) (fun sz => c_X9_post l D cA g sz h_t a_t o6 a_t_b0 o_t_b0 a_t_b1 o_t_b1 a_t_b2 o_t_b2 h_p2 a_p2 o3 h_p3 a_p3 o_p3 o9 o10 o11 o12 o13 hc14) [0, 1, 16, 17, 18, 19, 20, 21, 22, 23, 24, 25, 26, 27, 28, 29, 30, 31, 32, 33] [1000, 1001, 2, 3, 4, 5, 6, 7, 8, 9, 10, 11, 12, 13, 14, 15, 1002, 1003, 1004, 1005, 1006, 1007, 1008, 1009, 1010, 1011, 1012, 1013, 1014, 1015, 1016, 1017, 1018, 1019] rfl (by decide) rfl (by decide) rfl rfl rfl rfl rfl rfl (Nat.le_of_ble_eq_true rfl) dX9_ask_48 ⟨Nat.zero_le _, Nat.zero_le _⟩ ?_
  refine z_iload X dX9_ask_51 0 rfl ?_
  cases hF
  exact z_iret X hA hQ hr rfl dX9_ask_53 (Nat.le_refl _) (Nat.le_refl _)
abbrev w_X9_move (cA : Nat → ClassId) (h_t : Nat) (a_t : Nat → Nat) (o_t : Ob) (a_t_wares : Nat → Nat) (o_t_wares : Ob) (a_t_shelf : Nat → Nat) (o_t_shelf : Ob) (a_t_b0 : Nat → Nat) (o_t_b0 : Ob) (a_t_b1 : Nat → Nat) (o_t_b1 : Ob) (a_t_b2 : Nat → Nat) (o_t_b2 : Ob) (h_p2 : Nat) (a_p2 : Nat → Nat) (o_p2 : Ob) (h_p3 : Nat) (a_p3 : Nat → Nat) (o_p3 : Ob) : va_W := [(h_t, .inr (9, [.ref (a_t 0), .ref (a_t 1), .ref (a_t 2), .ref (a_t 3), .int (o_t 4 0), .int (o_t 5 0), .int (o_t 6 0)])), (a_t 3, .inl (cA 4, 3, .inr (.inr (.inr (.inr (bk (a_t 20) (a_t 21) (a_t 22))))))), ((a_t 0), .inr (10, [.int (o_t_wares 0 0), .ref (a_t_wares 1), .ref (a_t_wares 2), .ref (a_t_wares 3), .ref (a_t_wares 4)])), (a_t_wares 1, .inl (cA 0, 8, .inl (o_t_wares 1))), (a_t_wares 2, .inl (cA 0, 8, .inl (o_t_wares 2))), (a_t_wares 3, .inl (cA 0, 8, .inl (o_t_wares 3))), (a_t_wares 4, .inl (cA 0, 8, .inl (o_t_wares 4))), ((a_t 1), .inr (8, [.int (o_t_shelf 0 0), .int (o_t_shelf 1 0), .int (o_t_shelf 2 0), .int (o_t_shelf 3 0), .ref (a_t_shelf 4), .ref (a_t_shelf 5), .ref (a_t_shelf 6)])), (a_t_shelf 4, .inl (cA 0, 8, .inl (o_t_shelf 4))), (a_t_shelf 5, .inl (cA 0, 8, .inl (o_t_shelf 5))), (a_t_shelf 6, .inl (cA 1, 8, .inr (.inr (.inl (fun j => (o_t_shelf 6 j).toUInt32))))), ((a_t 20), .inr (0, [.int (o_t_b0 0 0), .int (o_t_b0 1 0), .int (o_t_b0 2 0), .int (o_t_b0 3 0), .int (o_t_b0 4 0), .int (o_t_b0 5 0), .int (o_t_b0 6 0), .ref (a_t_b0 7), .ref (a_t_b0 8), .ref (a_t_b0 9)])), (a_t_b0 7, .inl (cA 0, 30, .inl (o_t_b0 7))), (a_t_b0 8, .inl (cA 0, 30, .inl (o_t_b0 8))), (a_t_b0 9, .inl (cA 0, 30, .inl (o_t_b0 9))), ((a_t 21), .inr (0, [.int (o_t_b1 0 0), .int (o_t_b1 1 0), .int (o_t_b1 2 0), .int (o_t_b1 3 0), .int (o_t_b1 4 0), .int (o_t_b1 5 0), .int (o_t_b1 6 0), .ref (a_t_b1 7), .ref (a_t_b1 8), .ref (a_t_b1 9)])), (a_t_b1 7, .inl (cA 0, 30, .inl (o_t_b1 7))), (a_t_b1 8, .inl (cA 0, 30, .inl (o_t_b1 8))), (a_t_b1 9, .inl (cA 0, 30, .inl (o_t_b1 9))), ((a_t 22), .inr (0, [.int (o_t_b2 0 0), .int (o_t_b2 1 0), .int (o_t_b2 2 0), .int (o_t_b2 3 0), .int (o_t_b2 4 0), .int (o_t_b2 5 0), .int (o_t_b2 6 0), .ref (a_t_b2 7), .ref (a_t_b2 8), .ref (a_t_b2 9)])), (a_t_b2 7, .inl (cA 0, 30, .inl (o_t_b2 7))), (a_t_b2 8, .inl (cA 0, 30, .inl (o_t_b2 8))), (a_t_b2 9, .inl (cA 0, 30, .inl (o_t_b2 9))), (h_p2, .inr (1, [.int (o_p2 0 0), .ref (a_p2 1), .ref (a_p2 2), .ref (a_p2 3)])), (a_p2 1, .inl (cA 0, 9, .inl (o_p2 1))), (a_p2 2, .inl (cA 0, 9, .inl (o_p2 2))), (a_p2 3, .inl (cA 0, 9, .inl (o_p2 3))), (h_p3, .inr (2, [.ref (a_p3 0), .int (o_p3 1 0), .int (o_p3 2 0)])), (a_p3 0, .inl (cA 0, 60, .inl (o_p3 0)))]
set_option maxRecDepth 20000 in
theorem h_X9_move_X9 : ∀ w ∈ wsX90, w ∈ wsX9_move := by decide +kernel
set_option maxRecDepth 20000 in
theorem k_X9_move_12 : ZF wsX9_move RX9 12 9 0 RX9 TX9 7 := ⟨rfl, by decide, h_X9_move_X9, by decide +kernel⟩
set_option maxRecDepth 20000 in
theorem k_X9_move_21 : ZF wsX9_move RX9 21 9 1 RX9 TX9 7 := ⟨rfl, by decide, h_X9_move_X9, by decide +kernel⟩
set_option maxRecDepth 20000 in
theorem k_X9_move_51 : ZF wsX9_move RX9 51 9 4 RX9 TX9 7 := ⟨rfl, by decide, h_X9_move_X9, by decide +kernel⟩
set_option maxRecDepth 20000 in
theorem h_X9_move_X1 : ∀ w ∈ wsX10, w ∈ wsX9_move := by decide +kernel
set_option maxRecDepth 20000 in
theorem k_X9_move_72 : ZF wsX9_move RX9 72 1 0 RX1 TX1 4 := ⟨rfl, by decide, h_X9_move_X1, by decide +kernel⟩
set_option maxRecDepth 20000 in
theorem h_X9_move_X10 : ∀ w ∈ wsX100, w ∈ wsX9_move := by decide +kernel
set_option maxRecDepth 20000 in
theorem k_X9_move_98 : ZF wsX9_move RX9 98 10 2 RX10 TX10 5 := ⟨rfl, by decide, h_X9_move_X10, by decide +kernel⟩
set_option maxHeartbeats 8000000 in
set_option maxRecDepth 100000 in
theorem c_X9_move (l : Launch) (D : va_G) (cA : Nat → ClassId) (g : Nat → Nat) (sz : Nat) (h_t : Nat) (a_t : Nat → Nat) (o_t : Ob) (a_t_wares : Nat → Nat) (o_t_wares : Ob) (a_t_shelf : Nat → Nat) (o_t_shelf : Ob) (a_t_b0 : Nat → Nat) (o_t_b0 : Ob) (a_t_b1 : Nat → Nat) (o_t_b1 : Ob) (a_t_b2 : Nat → Nat) (o_t_b2 : Ob) (h_p2 : Nat) (a_p2 : Nat → Nat) (o_p2 : Ob) (h_p3 : Nat) (a_p3 : Nat → Nat) (o_p3 : Ob) (v1 : Int32) (o_t' : Ob) (o_t_shelf' : Ob) (o_t_b0' : Ob) (o_t_b1' : Ob) (o_t_b2' : Ob) (o_p2' : Ob) (o_p3' : Ob) (hF : f_X9_move o_t o_t_wares o_t_shelf o_t_b0 o_t_b1 o_t_b2 o_p2 o_p3 v1 = some (o_t', o_t_shelf', o_t_b0', o_t_b1', o_t_b2', o_p2', o_p3')) : Met l yX9_move wsX9_move ({ frames := 3, cells := 0, slots := 0, locals := 69 }) (va_Pc [.ref h_t, .int v1, .ref h_p2, .ref h_p3] (PreW D cA g sz (w_X9_move cA h_t a_t o_t a_t_wares o_t_wares a_t_shelf o_t_shelf a_t_b0 o_t_b0 a_t_b1 o_t_b1 a_t_b2 o_t_b2 h_p2 a_p2 o_p2 h_p3 a_p3 o_p3))) (va_Qv (fun (_ : Unit) => True) (PostW D cA sz (w_X9_move cA h_t a_t o_t a_t_wares o_t_wares a_t_shelf o_t_shelf a_t_b0 o_t_b0 a_t_b1 o_t_b1 a_t_b2 o_t_b2 h_p2 a_p2 o_p2 h_p3 a_p3 o_p3) (w_X9_move cA h_t a_t o_t' a_t_wares o_t_wares a_t_shelf o_t_shelf' a_t_b0 o_t_b0' a_t_b1 o_t_b1' a_t_b2 o_t_b2' h_p2 a_p2 o_p2' h_p3 a_p3 o_p3')) (va_A (w_X9_move cA h_t a_t o_t a_t_wares o_t_wares a_t_shelf o_t_shelf a_t_b0 o_t_b0 a_t_b1 o_t_b1 a_t_b2 o_t_b2 h_p2 a_p2 o_p2 h_p3 a_p3 o_p3) sz)) 0 0 (va_A (w_X9_move cA h_t a_t o_t a_t_wares o_t_wares a_t_shelf o_t_shelf a_t_b0 o_t_b0 a_t_b1 o_t_b1 a_t_b2 o_t_b2 h_p2 a_p2 o_p2 h_p3 a_p3 o_p3) sz) := by
  refine z_start (cc := cX9_move) (maxL := 4) (ret := none) (lv0 := [(0, .ref h_t), (1, .int v1), (2, .ref h_p2), (3, .ref h_p3)]) (Qc := fun sz => va_Qv (fun (_ : Unit) => True) (PostW D cA sz (w_X9_move cA h_t a_t o_t a_t_wares o_t_wares a_t_shelf o_t_shelf a_t_b0 o_t_b0 a_t_b1 o_t_b1 a_t_b2 o_t_b2 h_p2 a_p2 o_p2 h_p3 a_p3 o_p3) (w_X9_move cA h_t a_t o_t' a_t_wares o_t_wares a_t_shelf o_t_shelf' a_t_b0 o_t_b0' a_t_b1 o_t_b1' a_t_b2 o_t_b2' h_p2 a_p2 o_p2' h_p3 a_p3 o_p3')) (va_A (w_X9_move cA h_t a_t o_t a_t_wares o_t_wares a_t_shelf o_t_shelf a_t_b0 o_t_b0 a_t_b1 o_t_b1 a_t_b2 o_t_b2 h_p2 a_p2 o_p2 h_p3 a_p3 o_p3) sz)) (free := fun sz => va_A (w_X9_move cA h_t a_t o_t a_t_wares o_t_wares a_t_shelf o_t_shelf a_t_b0 o_t_b0 a_t_b1 o_t_b1 a_t_b2 o_t_b2 h_p2 a_p2 o_p2 h_p3 a_p3 o_p3) sz) (by decide +kernel) rfl rfl (Nat.le_of_ble_eq_true rfl) ?_
  intro p e R s m args below meth c A Q hR hA hQ X hr hin
  unfold f_X9_move at hF
  refine z_aload_n X dX9_move_0 rfl 2 rfl ?_
  refine z_iconst (v := (0 : Int32)) X dX9_move_1 (by decide) ?_
  obtain ⟨o1, eo1, hF⟩ := nx_e hF
  refine z_put (ws' := (w_X9_move cA h_t a_t o_t a_t_wares o_t_wares a_t_shelf o_t_shelf a_t_b0 o_t_b0 a_t_b1 o_t_b1 a_t_b2 o_t_b2 h_p2 a_p2 o1 h_p3 a_p3 o_p3)) X k_X9_move_72 tyX1 tyX1_ok nmX1 rfl rfl 23 rfl (Nat.le_of_ble_eq_true rfl) (by rw [eo1]; rfl) dX9_move_2 ?_
  refine z_aload_n X dX9_move_5 rfl 0 rfl ?_
  refine z_get (v := .ref (a_t 1)) X k_X9_move_21 0 rfl rfl dX9_move_6 ?_
  refine z_iload_n X dX9_move_9 rfl 1 rfl ?_
  obtain ⟨r2, hc3, hF⟩ := zb1_e hF
  refine z_Vi (As := [.int v1]) (rest := []) (wc := (w_X8_begin cA (a_t 1) a_t_shelf o_t_shelf)) (wc' := (w_X8_begin cA (a_t 1) a_t_shelf o_t_shelf)) (ws' := (w_X9_move cA h_t a_t o_t a_t_wares o_t_wares a_t_shelf o_t_shelf a_t_b0 o_t_b0 a_t_b1 o_t_b1 a_t_b2 o_t_b2 h_p2 a_p2 o1 h_p3 a_p3 o_p3)) (rv := r2) X (cwV 1 X.2.2.2.2.1 gX9_move_X8_holds rfl rfl rfl (by decide +kernel) (by rw [hR]; exact ⟨Nat.le_of_ble_eq_true rfl, Nat.le_of_ble_eq_true rfl⟩)) (fun sz => c_X8_holds l D cA g sz (a_t 1) a_t_shelf o_t_shelf v1 r2 hc3) [7, 8, 9, 10] [0, 1, 2, 3, 4, 5, 6, 1000, 1001, 1002, 1003, 11, 12, 13, 14, 15, 16, 17, 18, 19, 20, 21, 22, 23, 24, 25, 26, 27, 28] rfl (by decide) rfl (by decide) rfl rfl rfl rfl rfl rfl (Nat.le_of_ble_eq_true rfl) dX9_move_10 ⟨Nat.zero_le _, Nat.zero_le _⟩ ?_
  obtain ⟨K16, eK16, hF⟩ := nx_e hF
  have K16_l : ∀ (q13 : Ob) (q14 : Ob) (q15 : Ob), K16 q13 q14 q15 = some (o_t', o_t_shelf', o_t_b0', o_t_b1', o_t_b2', o_p2', o_p3') → ZW p l e R s m args below meth c D A 4 0 0 Q (w_X9_move cA h_t a_t q13 a_t_wares o_t_wares a_t_shelf q14 a_t_b0 o_t_b0 a_t_b1 o_t_b1 a_t_b2 o_t_b2 h_p2 a_p2 q15 h_p3 a_p3 o_p3) [(0, .ref h_t), (2, .ref h_p2), (3, .ref h_p3)] 63 [] := by
    intro q13 q14 q15 hF
    rw [eK16] at hF
    refine z_aload_n X dX9_move_63 rfl 0 rfl ?_
    refine z_aload_n X dX9_move_64 rfl 1 rfl ?_
    refine z_aload_n X dX9_move_65 rfl 2 rfl ?_
    obtain ⟨o17, o18, o19, o20, o21, hc22, hF⟩ := zb5_e hF
    refine z_Vv (As := [.ref h_p2, .ref h_p3]) (rest := []) (wc := (w_X9_post cA h_t a_t q13 a_t_b0 o_t_b0 a_t_b1 o_t_b1 a_t_b2 o_t_b2 h_p2 a_p2 q15 h_p3 a_p3 o_p3)) (wc' := (w_X9_post cA h_t a_t o17 a_t_b0 o18 a_t_b1 o19 a_t_b2 o20 h_p2 a_p2 q15 h_p3 a_p3 o21)) (ws' := (w_X9_move cA h_t a_t o17 a_t_wares o_t_wares a_t_shelf q14 a_t_b0 o18 a_t_b1 o19 a_t_b2 o20 h_p2 a_p2 q15 h_p3 a_p3 o21)) X (cwV 2 X.2.2.2.2.1 gX9_move_X9_post rfl rfl rfl (by decide +kernel) (by rw [hR]; exact ⟨Nat.le_of_ble_eq_true rfl, Nat.le_of_ble_eq_true rfl⟩)) (fun sz => c_X9_post l D cA g sz h_t a_t q13 a_t_b0 o_t_b0 a_t_b1 o_t_b1 a_t_b2 o_t_b2 h_p2 a_p2 q15 h_p3 a_p3 o_p3 o17 o18 o19 o20 o21 hc22) [0, 1, 11, 12, 13, 14, 15, 16, 17, 18, 19, 20, 21, 22, 23, 24, 25, 26, 27, 28] [1000, 1001, 2, 3, 4, 5, 6, 7, 8, 9, 10, 1002, 1003, 1004, 1005, 1006, 1007, 1008, 1009, 1010, 1011, 1012, 1013, 1014, 1015, 1016, 1017, 1018, 1019] rfl (by decide) rfl (by decide) rfl rfl rfl rfl rfl rfl (Nat.le_of_ble_eq_true rfl) dX9_move_66 ⟨Nat.zero_le _, Nat.zero_le _⟩ ?_
    cases hF
    exact z_vret X hA hQ hr dX9_move_69 (Nat.le_refl _) (Nat.le_refl _)
  have hF := if_e hF
  refine z_if_eq (tgt := 32) X dX9_move_13 (by decide) (fun c31 => ?_) (fun c31 => ?_)
  · have hF := hF.1 c31
    refine z_aload_n X dX9_move_32 rfl 0 rfl ?_
    refine z_get (v := .ref (a_t 1)) X k_X9_move_21 0 rfl rfl dX9_move_33 ?_
    refine z_aload_n X dX9_move_36 rfl 0 rfl ?_
    refine z_get (v := .ref (a_t 0)) X k_X9_move_12 0 rfl rfl dX9_move_37 ?_
    refine z_iload_n X dX9_move_40 rfl 1 rfl ?_
    refine z_aload_n X dX9_move_41 rfl 2 rfl ?_
    obtain ⟨o23, o24, hc25, hF⟩ := zb2_e hF
    refine z_Vv (As := [.ref (a_t 0), .int v1, .ref h_p2]) (rest := []) (wc := (w_X8_lower cA (a_t 1) a_t_shelf o_t_shelf (a_t 0) a_t_wares o_t_wares h_p2 a_p2 o1)) (wc' := (w_X8_lower cA (a_t 1) a_t_shelf o23 (a_t 0) a_t_wares o_t_wares h_p2 a_p2 o24)) (ws' := (w_X9_move cA h_t a_t o_t a_t_wares o_t_wares a_t_shelf o23 a_t_b0 o_t_b0 a_t_b1 o_t_b1 a_t_b2 o_t_b2 h_p2 a_p2 o24 h_p3 a_p3 o_p3)) X (cwV 3 X.2.2.2.2.1 gX9_move_X8_raise rfl rfl rfl (by decide +kernel) (by rw [hR]; exact ⟨Nat.le_of_ble_eq_true rfl, Nat.le_of_ble_eq_true rfl⟩)) (fun sz => c_X8_raise l D cA g sz (a_t 1) a_t_shelf o_t_shelf (a_t 0) a_t_wares o_t_wares h_p2 a_p2 o1 v1 o23 o24 hc25) [7, 8, 9, 10, 2, 3, 4, 5, 6, 23, 24, 25, 26] [0, 1, 1004, 1005, 1006, 1007, 1008, 1000, 1001, 1002, 1003, 11, 12, 13, 14, 15, 16, 17, 18, 19, 20, 21, 22, 1009, 1010, 1011, 1012, 27, 28] rfl (by decide) rfl (by decide) rfl rfl rfl rfl rfl rfl (Nat.le_of_ble_eq_true rfl) dX9_move_42 ⟨Nat.zero_le _, Nat.zero_le _⟩ ?_
    refine z_aload_n X dX9_move_45 rfl 0 rfl ?_
    refine z_dup X dX9_move_46 rfl ?_
    refine z_get (v := .int (o_t 4 0)) X k_X9_move_51 0 rfl rfl dX9_move_47 ?_
    refine z_aload_n X dX9_move_50 rfl 0 rfl ?_
    refine z_get (v := .ref (a_t 0)) X k_X9_move_12 0 rfl rfl dX9_move_51 ?_
    refine z_get (v := .ref (a_t_wares 2)) X k_X9_move_98 2 rfl rfl dX9_move_54 ?_
    refine z_iload_n X dX9_move_57 rfl 1 rfl ?_
    obtain ⟨g26, hF⟩ := gi_e hF
    refine z_iald X 4 rfl g26 dX9_move_58 ?_
    refine z_iadd X dX9_move_59 ?_
    obtain ⟨o27, eo27, hF⟩ := nx_e hF
    refine z_put (ws' := (w_X9_move cA h_t a_t o27 a_t_wares o_t_wares a_t_shelf o23 a_t_b0 o_t_b0 a_t_b1 o_t_b1 a_t_b2 o_t_b2 h_p2 a_p2 o24 h_p3 a_p3 o_p3)) X k_X9_move_51 tyX9 tyX9_ok nmX9 rfl rfl 0 rfl (Nat.le_of_ble_eq_true rfl) (by rw [eo27]; rfl) dX9_move_60 ?_
    refine z_lv (lv' := [(0, .ref h_t), (2, .ref h_p2), (3, .ref h_p3)]) [0, 2, 3] rfl ?_
    exact K16_l o27 o23 o24 hF
  · have hF := hF.2 c31
    refine z_aload_n X dX9_move_16 rfl 0 rfl ?_
    refine z_get (v := .ref (a_t 1)) X k_X9_move_21 0 rfl rfl dX9_move_17 ?_
    refine z_aload_n X dX9_move_20 rfl 0 rfl ?_
    refine z_get (v := .ref (a_t 0)) X k_X9_move_12 0 rfl rfl dX9_move_21 ?_
    refine z_iload_n X dX9_move_24 rfl 1 rfl ?_
    refine z_aload_n X dX9_move_25 rfl 2 rfl ?_
    obtain ⟨o28, o29, hc30, hF⟩ := zb2_e hF
    refine z_Vv (As := [.ref (a_t 0), .int v1, .ref h_p2]) (rest := []) (wc := (w_X8_lower cA (a_t 1) a_t_shelf o_t_shelf (a_t 0) a_t_wares o_t_wares h_p2 a_p2 o1)) (wc' := (w_X8_lower cA (a_t 1) a_t_shelf o28 (a_t 0) a_t_wares o_t_wares h_p2 a_p2 o29)) (ws' := (w_X9_move cA h_t a_t o_t a_t_wares o_t_wares a_t_shelf o28 a_t_b0 o_t_b0 a_t_b1 o_t_b1 a_t_b2 o_t_b2 h_p2 a_p2 o29 h_p3 a_p3 o_p3)) X (cwV 3 X.2.2.2.2.1 gX9_move_X8_lower rfl rfl rfl (by decide +kernel) (by rw [hR]; exact ⟨Nat.le_of_ble_eq_true rfl, Nat.le_of_ble_eq_true rfl⟩)) (fun sz => c_X8_lower l D cA g sz (a_t 1) a_t_shelf o_t_shelf (a_t 0) a_t_wares o_t_wares h_p2 a_p2 o1 v1 o28 o29 hc30) [7, 8, 9, 10, 2, 3, 4, 5, 6, 23, 24, 25, 26] [0, 1, 1004, 1005, 1006, 1007, 1008, 1000, 1001, 1002, 1003, 11, 12, 13, 14, 15, 16, 17, 18, 19, 20, 21, 22, 1009, 1010, 1011, 1012, 27, 28] rfl (by decide) rfl (by decide) rfl rfl rfl rfl rfl rfl (Nat.le_of_ble_eq_true rfl) dX9_move_26 ⟨Nat.zero_le _, Nat.zero_le _⟩ ?_
    refine z_goto (tgt := 63) X dX9_move_29 (by decide) ?_
    refine z_lv (lv' := [(0, .ref h_t), (2, .ref h_p2), (3, .ref h_p3)]) [0, 2, 3] rfl ?_
    exact K16_l o_t o28 o29 hF
set_option maxRecDepth 20000 in
theorem h_X10_has_X10 : ∀ w ∈ wsX100, w ∈ wsX10_has := by decide +kernel
set_option maxRecDepth 20000 in
theorem k_X10_has_24 : ZF wsX10_has RX10 24 10 0 RX10 TX10 5 := ⟨rfl, by decide, h_X10_has_X10, by decide +kernel⟩
set_option maxHeartbeats 8000000 in
set_option maxRecDepth 100000 in
theorem c_X10_has (l : Launch) (D : va_G) (cA : Nat → ClassId) (g : Nat → Nat) (sz : Nat) (h_t : Nat) (a_t : Nat → Nat) (o_t : Ob) (v1 : Int32) (rv : Int32) (hF : f_X10_has o_t v1 = some rv) : Met l yX10_has wsX10_has ({ frames := 0, cells := 0, slots := 0, locals := 0 }) (va_Pc [.ref h_t, .int v1] (PreW D cA g sz (w_X10_numberOf cA h_t a_t o_t))) (va_Qi (fun (r : Int32) (_ : Unit) => r = rv) (PostW D cA sz (w_X10_numberOf cA h_t a_t o_t) (w_X10_numberOf cA h_t a_t o_t)) (va_A (w_X10_numberOf cA h_t a_t o_t) sz)) 0 0 (va_A (w_X10_numberOf cA h_t a_t o_t) sz) := by
  refine z_start (cc := cX10_has) (maxL := 2) (ret := (some .boolean)) (lv0 := [(0, .ref h_t), (1, .int v1)]) (Qc := fun sz => va_Qi (fun (r : Int32) (_ : Unit) => r = rv) (PostW D cA sz (w_X10_numberOf cA h_t a_t o_t) (w_X10_numberOf cA h_t a_t o_t)) (va_A (w_X10_numberOf cA h_t a_t o_t) sz)) (free := fun sz => va_A (w_X10_numberOf cA h_t a_t o_t) sz) (by decide +kernel) rfl rfl (Nat.le_of_ble_eq_true rfl) ?_
  intro p e R s m args below meth c A Q hR hA hQ X hr hin
  unfold f_X10_has at hF
  refine z_iload_n X dX10_has_0 rfl 1 rfl ?_
  have hF := if_e hF
  refine z_if_lt (tgt := 16) X dX10_has_1 (by decide) (fun c2 => ?_) (fun c2 => ?_)
  · have hF := hF.1 c2
    refine z_iconst (v := (0 : Int32)) X dX10_has_16 (by decide) ?_
    cases hF
    exact z_zret X hA hQ hr (Or.inl rfl)  rfl dX10_has_17 (Nat.le_refl _) (Nat.le_refl _)
  · have hF := hF.2 c2
    refine z_iload_n X dX10_has_4 rfl 1 rfl ?_
    refine z_aload_n X dX10_has_5 rfl 0 rfl ?_
    refine z_get (v := .int (o_t 0 0)) X k_X10_has_24 0 rfl rfl dX10_has_6 ?_
    have hF := if_e hF
    refine z_icmp_ge (tgt := 16) X dX10_has_9 (by decide) (fun c1 => ?_) (fun c1 => ?_)
    · have hF := hF.1 c1
      refine z_iconst (v := (0 : Int32)) X dX10_has_16 (by decide) ?_
      cases hF
      exact z_zret X hA hQ hr (Or.inl rfl)  rfl dX10_has_17 (Nat.le_refl _) (Nat.le_refl _)
    · have hF := hF.2 c1
      refine z_iconst (v := (1 : Int32)) X dX10_has_12 (by decide) ?_
      refine z_goto (tgt := 17) X dX10_has_13 (by decide) ?_
      cases hF
      exact z_zret X hA hQ hr (Or.inr rfl)  rfl dX10_has_17 (Nat.le_refl _) (Nat.le_refl _)
set_option maxRecDepth 20000 in
theorem h_X10_firstLetter_X10 : ∀ w ∈ wsX100, w ∈ wsX10_firstLetter := by decide +kernel
set_option maxRecDepth 20000 in
theorem k_X10_firstLetter_21 : ZF wsX10_firstLetter RX10 21 10 4 RX10 TX10 5 := ⟨rfl, by decide, h_X10_firstLetter_X10, by decide +kernel⟩
set_option maxHeartbeats 8000000 in
set_option maxRecDepth 100000 in
theorem c_X10_firstLetter (l : Launch) (D : va_G) (cA : Nat → ClassId) (g : Nat → Nat) (sz : Nat) (h_t : Nat) (a_t : Nat → Nat) (o_t : Ob) (v1 : Int32) (rv : Int32) (hF : f_X10_firstLetter o_t v1 = some rv) : Met l yX10_firstLetter wsX10_firstLetter ({ frames := 0, cells := 0, slots := 0, locals := 0 }) (va_Pc [.ref h_t, .int v1] (PreW D cA g sz (w_X10_numberOf cA h_t a_t o_t))) (va_Qi (fun (r : Int32) (_ : Unit) => r = rv) (PostW D cA sz (w_X10_numberOf cA h_t a_t o_t) (w_X10_numberOf cA h_t a_t o_t)) (va_A (w_X10_numberOf cA h_t a_t o_t) sz)) 0 0 (va_A (w_X10_numberOf cA h_t a_t o_t) sz) := by
  refine z_start (cc := cX10_firstLetter) (maxL := 2) (ret := (some .int)) (lv0 := [(0, .ref h_t), (1, .int v1)]) (Qc := fun sz => va_Qi (fun (r : Int32) (_ : Unit) => r = rv) (PostW D cA sz (w_X10_numberOf cA h_t a_t o_t) (w_X10_numberOf cA h_t a_t o_t)) (va_A (w_X10_numberOf cA h_t a_t o_t) sz)) (free := fun sz => va_A (w_X10_numberOf cA h_t a_t o_t) sz) (by decide +kernel) rfl rfl (Nat.le_of_ble_eq_true rfl) ?_
  intro p e R s m args below meth c A Q hR hA hQ X hr hin
  unfold f_X10_firstLetter at hF
  refine z_aload_n X dX10_firstLetter_0 rfl 0 rfl ?_
  refine z_get (v := .ref (a_t 4)) X k_X10_firstLetter_21 0 rfl rfl dX10_firstLetter_1 ?_
  refine z_iload_n X dX10_firstLetter_4 rfl 1 rfl ?_
  obtain ⟨g1, hF⟩ := gi_e hF
  refine z_iald X 4 rfl g1 dX10_firstLetter_5 ?_
  refine z_bipush (v := (31 : Int32)) X dX10_firstLetter_6 (by decide) ?_
  refine z_iand X dX10_firstLetter_8 ?_
  refine z_bipush (v := (97 : Int32)) X dX10_firstLetter_9 (by decide) ?_
  refine z_iadd X dX10_firstLetter_11 ?_
  refine z_iconst (v := (1 : Int32)) X dX10_firstLetter_12 (by decide) ?_
  refine z_isub X dX10_firstLetter_13 ?_
  cases hF
  exact z_iret X hA hQ hr rfl dX10_firstLetter_14 (Nat.le_refl _) (Nat.le_refl _)
abbrev w_X11_feed (cA : Nat → ClassId) (h_t : Nat) (a_t : Nat → Nat) (o_t : Ob) (a_t_reader : Nat → Nat) (o_t_reader : Ob) : va_W := [(h_t, .inr (11, [.ref (a_t 0), .ref (a_t 1), .ref (a_t 2), .ref (a_t 3), .ref (a_t 4), .ref (a_t 5), .ref (a_t 6), .ref (a_t 7), .ref (a_t 8), .ref (a_t 9), .ref (a_t 10), .ref (a_t 11), .ref (a_t 12), .int (o_t 13 0), .int (o_t 14 0)])), (a_t 12, .inl (cA 0, 20, .inl (o_t 12))), ((a_t 0), .inr (6, [.ref (a_t_reader 0), .int (o_t_reader 1 0), .int (o_t_reader 2 0), .int (o_t_reader 3 0), .int (o_t_reader 4 0), .int (o_t_reader 5 0), .int (o_t_reader 6 0), .int (o_t_reader 7 0), .ref (a_t_reader 8), .int (o_t_reader 9 0), .int (o_t_reader 10 0), .ref (a_t_reader 11), .ref (a_t_reader 12), .int (o_t_reader 13 0), .int (o_t_reader 14 0), .int (o_t_reader 15 0), .int (o_t_reader 16 0)])), (a_t_reader 0, .inl (cA 0, 440, .inl (o_t_reader 0))), (a_t_reader 8, .inl (cA 0, 40, .inl (o_t_reader 8))), (a_t_reader 11, .inl (cA 0, 2, .inl (o_t_reader 11))), (a_t_reader 12, .inl (cA 0, 2, .inl (o_t_reader 12)))]
set_option maxRecDepth 20000 in
theorem h_X11_feed_X11 : ∀ w ∈ wsX110, w ∈ wsX11_feed := by decide +kernel
set_option maxRecDepth 20000 in
theorem k_X11_feed_10 : ZF wsX11_feed RX11 10 11 0 RX11 TX11 15 := ⟨rfl, by decide, h_X11_feed_X11, by decide +kernel⟩
set_option maxRecDepth 20000 in
theorem h_X11_feed_X6 : ∀ w ∈ wsX60, w ∈ wsX11_feed := by decide +kernel
set_option maxRecDepth 20000 in
theorem k_X11_feed_96 : ZF wsX11_feed RX11 96 6 1 RX6 TX6 17 := ⟨rfl, by decide, h_X11_feed_X6, by decide +kernel⟩
set_option maxHeartbeats 8000000 in
set_option maxRecDepth 100000 in
theorem c_X11_feed (l : Launch) (D : va_G) (cA : Nat → ClassId) (g : Nat → Nat) (sz : Nat) (h_t : Nat) (a_t : Nat → Nat) (o_t : Ob) (a_t_reader : Nat → Nat) (o_t_reader : Ob) (v1 : Int32) (v2 : Int32) (v3 : Int32) (v4 : Int32) (v5 : Int32) (o_t_reader' : Ob) (rv : Int32) (hF : f_X11_feed o_t_reader v1 v2 v3 v4 v5 = some (o_t_reader', rv)) : Met l yX11_feed wsX11_feed ({ frames := 1, cells := 0, slots := 0, locals := 22 }) (va_Pc [.ref h_t, .int v1, .int v2, .int v3, .int v4, .int v5] (PreW D cA g sz (w_X11_feed cA h_t a_t o_t a_t_reader o_t_reader))) (va_Qi (fun (r : Int32) (_ : Unit) => r = rv) (PostW D cA sz (w_X11_feed cA h_t a_t o_t a_t_reader o_t_reader) (w_X11_feed cA h_t a_t o_t a_t_reader o_t_reader')) (va_A (w_X11_feed cA h_t a_t o_t a_t_reader o_t_reader) sz)) 0 0 (va_A (w_X11_feed cA h_t a_t o_t a_t_reader o_t_reader) sz) := by
  refine z_start (cc := cX11_feed) (maxL := 6) (ret := (some .int)) (lv0 := [(0, .ref h_t), (1, .int v1), (2, .int v2), (3, .int v3), (4, .int v4), (5, .int v5)]) (Qc := fun sz => va_Qi (fun (r : Int32) (_ : Unit) => r = rv) (PostW D cA sz (w_X11_feed cA h_t a_t o_t a_t_reader o_t_reader) (w_X11_feed cA h_t a_t o_t a_t_reader o_t_reader')) (va_A (w_X11_feed cA h_t a_t o_t a_t_reader o_t_reader) sz)) (free := fun sz => va_A (w_X11_feed cA h_t a_t o_t a_t_reader o_t_reader) sz) (by decide +kernel) rfl rfl (Nat.le_of_ble_eq_true rfl) ?_
  intro p e R s m args below meth c A Q hR hA hQ X hr hin
  unfold f_X11_feed at hF
  refine z_aload_n X dX11_feed_0 rfl 0 rfl ?_
  refine z_get (v := .ref (a_t 0)) X k_X11_feed_10 0 rfl rfl dX11_feed_1 ?_
  refine z_bipush (v := (20 : Int32)) X dX11_feed_4 (by decide) ?_
  obtain ⟨r1, hc2, hF⟩ := zb1_e hF
  refine z_Vi (As := [.int (20 : Int32)]) (rest := []) (wc := (w_X6_hasPlaceFor cA (a_t 0) a_t_reader o_t_reader)) (wc' := (w_X6_hasPlaceFor cA (a_t 0) a_t_reader o_t_reader)) (ws' := (w_X11_feed cA h_t a_t o_t a_t_reader o_t_reader)) (rv := r1) X (cwV 1 X.2.2.2.2.1 gX11_feed_X6_hasPlaceFor rfl rfl rfl (by decide +kernel) (by rw [hR]; exact ⟨Nat.le_of_ble_eq_true rfl, Nat.le_of_ble_eq_true rfl⟩)) (fun sz => c_X6_hasPlaceFor l D cA g sz (a_t 0) a_t_reader o_t_reader (20 : Int32) r1 hc2) [2, 3, 4, 5, 6] [0, 1, 1000, 1001, 1002, 1003, 1004] rfl (by decide) rfl (by decide) rfl rfl rfl rfl rfl rfl (Nat.le_of_ble_eq_true rfl) dX11_feed_6 ⟨Nat.zero_le _, Nat.zero_le _⟩ ?_
  have hF := if_e hF
  refine z_if_ne (tgt := 14) X dX11_feed_9 (by decide) (fun c13 => ?_) (fun c13 => ?_)
  · have hF := hF.2 c13
    refine z_aload_n X dX11_feed_14 rfl 0 rfl ?_
    refine z_get (v := .ref (a_t 0)) X k_X11_feed_10 0 rfl rfl dX11_feed_15 ?_
    refine z_iload_n X dX11_feed_18 rfl 1 rfl ?_
    obtain ⟨o3, hc4, hF⟩ := zb1_e hF
    refine z_Vv (As := [.int v1]) (rest := []) (wc := (w_X6_hasPlaceFor cA (a_t 0) a_t_reader o_t_reader)) (wc' := (w_X6_hasPlaceFor cA (a_t 0) a_t_reader o3)) (ws' := (w_X11_feed cA h_t a_t o_t a_t_reader o3)) X (cwV 1 X.2.2.2.2.1 gX11_feed_X6_addNumber rfl rfl rfl (by decide +kernel) (by rw [hR]; exact ⟨Nat.le_of_ble_eq_true rfl, Nat.le_of_ble_eq_true rfl⟩)) (fun sz => c_X6_addNumber l D cA g sz (a_t 0) a_t_reader o_t_reader v1 o3 hc4) [2, 3, 4, 5, 6] [0, 1, 1000, 1001, 1002, 1003, 1004] rfl (by decide) rfl (by decide) rfl rfl rfl rfl rfl rfl (Nat.le_of_ble_eq_true rfl) dX11_feed_19 ⟨Nat.zero_le _, Nat.zero_le _⟩ ?_
    refine z_aload_n X dX11_feed_22 rfl 0 rfl ?_
    refine z_get (v := .ref (a_t 0)) X k_X11_feed_10 0 rfl rfl dX11_feed_23 ?_
    refine z_iload_n X dX11_feed_26 rfl 2 rfl ?_
    obtain ⟨o5, hc6, hF⟩ := zb1_e hF
    refine z_Vv (As := [.int v2]) (rest := []) (wc := (w_X6_hasPlaceFor cA (a_t 0) a_t_reader o3)) (wc' := (w_X6_hasPlaceFor cA (a_t 0) a_t_reader o5)) (ws' := (w_X11_feed cA h_t a_t o_t a_t_reader o5)) X (cwV 1 X.2.2.2.2.1 gX11_feed_X6_addNumber rfl rfl rfl (by decide +kernel) (by rw [hR]; exact ⟨Nat.le_of_ble_eq_true rfl, Nat.le_of_ble_eq_true rfl⟩)) (fun sz => c_X6_addNumber l D cA g sz (a_t 0) a_t_reader o3 v2 o5 hc6) [2, 3, 4, 5, 6] [0, 1, 1000, 1001, 1002, 1003, 1004] rfl (by decide) rfl (by decide) rfl rfl rfl rfl rfl rfl (Nat.le_of_ble_eq_true rfl) dX11_feed_27 ⟨Nat.zero_le _, Nat.zero_le _⟩ ?_
    refine z_aload_n X dX11_feed_30 rfl 0 rfl ?_
    refine z_get (v := .ref (a_t 0)) X k_X11_feed_10 0 rfl rfl dX11_feed_31 ?_
    refine z_iload_n X dX11_feed_34 rfl 3 rfl ?_
    obtain ⟨o7, hc8, hF⟩ := zb1_e hF
    refine z_Vv (As := [.int v3]) (rest := []) (wc := (w_X6_hasPlaceFor cA (a_t 0) a_t_reader o5)) (wc' := (w_X6_hasPlaceFor cA (a_t 0) a_t_reader o7)) (ws' := (w_X11_feed cA h_t a_t o_t a_t_reader o7)) X (cwV 1 X.2.2.2.2.1 gX11_feed_X6_addNumber rfl rfl rfl (by decide +kernel) (by rw [hR]; exact ⟨Nat.le_of_ble_eq_true rfl, Nat.le_of_ble_eq_true rfl⟩)) (fun sz => c_X6_addNumber l D cA g sz (a_t 0) a_t_reader o5 v3 o7 hc8) [2, 3, 4, 5, 6] [0, 1, 1000, 1001, 1002, 1003, 1004] rfl (by decide) rfl (by decide) rfl rfl rfl rfl rfl rfl (Nat.le_of_ble_eq_true rfl) dX11_feed_35 ⟨Nat.zero_le _, Nat.zero_le _⟩ ?_
    refine z_aload_n X dX11_feed_38 rfl 0 rfl ?_
    refine z_get (v := .ref (a_t 0)) X k_X11_feed_10 0 rfl rfl dX11_feed_39 ?_
    refine z_iload X dX11_feed_42 4 rfl ?_
    obtain ⟨o9, hc10, hF⟩ := zb1_e hF
    refine z_Vv (As := [.int v4]) (rest := []) (wc := (w_X6_hasPlaceFor cA (a_t 0) a_t_reader o7)) (wc' := (w_X6_hasPlaceFor cA (a_t 0) a_t_reader o9)) (ws' := (w_X11_feed cA h_t a_t o_t a_t_reader o9)) X (cwV 1 X.2.2.2.2.1 gX11_feed_X6_addNumber rfl rfl rfl (by decide +kernel) (by rw [hR]; exact ⟨Nat.le_of_ble_eq_true rfl, Nat.le_of_ble_eq_true rfl⟩)) (fun sz => c_X6_addNumber l D cA g sz (a_t 0) a_t_reader o7 v4 o9 hc10) [2, 3, 4, 5, 6] [0, 1, 1000, 1001, 1002, 1003, 1004] rfl (by decide) rfl (by decide) rfl rfl rfl rfl rfl rfl (Nat.le_of_ble_eq_true rfl) dX11_feed_44 ⟨Nat.zero_le _, Nat.zero_le _⟩ ?_
    refine z_aload_n X dX11_feed_47 rfl 0 rfl ?_
    refine z_get (v := .ref (a_t 0)) X k_X11_feed_10 0 rfl rfl dX11_feed_48 ?_
    refine z_iload X dX11_feed_51 5 rfl ?_
    obtain ⟨o11, hc12, hF⟩ := zb1_e hF
    refine z_Vv (As := [.int v5]) (rest := []) (wc := (w_X6_hasPlaceFor cA (a_t 0) a_t_reader o9)) (wc' := (w_X6_hasPlaceFor cA (a_t 0) a_t_reader o11)) (ws' := (w_X11_feed cA h_t a_t o_t a_t_reader o11)) X (cwV 1 X.2.2.2.2.1 gX11_feed_X6_addNumber rfl rfl rfl (by decide +kernel) (by rw [hR]; exact ⟨Nat.le_of_ble_eq_true rfl, Nat.le_of_ble_eq_true rfl⟩)) (fun sz => c_X6_addNumber l D cA g sz (a_t 0) a_t_reader o9 v5 o11 hc12) [2, 3, 4, 5, 6] [0, 1, 1000, 1001, 1002, 1003, 1004] rfl (by decide) rfl (by decide) rfl rfl rfl rfl rfl rfl (Nat.le_of_ble_eq_true rfl) dX11_feed_53 ⟨Nat.zero_le _, Nat.zero_le _⟩ ?_
    refine z_aload_n X dX11_feed_56 rfl 0 rfl ?_
    refine z_get (v := .ref (a_t 0)) X k_X11_feed_10 0 rfl rfl dX11_feed_57 ?_
    refine z_get (v := .int (o11 1 0)) X k_X11_feed_96 2 rfl rfl dX11_feed_60 ?_
    cases hF
    exact z_iret X hA hQ hr rfl dX11_feed_63 (Nat.le_refl _) (Nat.le_refl _)
  · have hF := hF.1 c13
    refine z_iconst (v := (-1 : Int32)) X dX11_feed_12 (by decide) ?_
    cases hF
    exact z_iret X hA hQ hr rfl dX11_feed_13 (Nat.le_refl _) (Nat.le_refl _)
set_option maxRecDepth 20000 in
theorem h_X11_end_X11 : ∀ w ∈ wsX110, w ∈ wsX11_end := by decide +kernel
set_option maxRecDepth 20000 in
theorem k_X11_end_10 : ZF wsX11_end RX11 10 11 0 RX11 TX11 15 := ⟨rfl, by decide, h_X11_end_X11, by decide +kernel⟩
set_option maxRecDepth 20000 in
theorem h_X11_end_X6 : ∀ w ∈ wsX60, w ∈ wsX11_end := by decide +kernel
set_option maxRecDepth 20000 in
theorem k_X11_end_96 : ZF wsX11_end RX11 96 6 1 RX6 TX6 17 := ⟨rfl, by decide, h_X11_end_X6, by decide +kernel⟩
set_option maxHeartbeats 8000000 in
set_option maxRecDepth 100000 in
theorem c_X11_end (l : Launch) (D : va_G) (cA : Nat → ClassId) (g : Nat → Nat) (sz : Nat) (h_t : Nat) (a_t : Nat → Nat) (o_t : Ob) (a_t_reader : Nat → Nat) (o_t_reader : Ob) (v1 : Int32) (o_t_reader' : Ob) (rv : Int32) (hF : f_X11_end o_t_reader v1 = some (o_t_reader', rv)) : Met l yX11_end wsX11_end ({ frames := 0, cells := 0, slots := 0, locals := 0 }) (va_Pc [.ref h_t, .int v1] (PreW D cA g sz (w_X11_feed cA h_t a_t o_t a_t_reader o_t_reader))) (va_Qi (fun (r : Int32) (_ : Unit) => r = rv) (PostW D cA sz (w_X11_feed cA h_t a_t o_t a_t_reader o_t_reader) (w_X11_feed cA h_t a_t o_t a_t_reader o_t_reader')) (va_A (w_X11_feed cA h_t a_t o_t a_t_reader o_t_reader) sz)) 0 0 (va_A (w_X11_feed cA h_t a_t o_t a_t_reader o_t_reader) sz) := by
  refine z_start (cc := cX11_end) (maxL := 2) (ret := (some .boolean)) (lv0 := [(0, .ref h_t), (1, .int v1)]) (Qc := fun sz => va_Qi (fun (r : Int32) (_ : Unit) => r = rv) (PostW D cA sz (w_X11_feed cA h_t a_t o_t a_t_reader o_t_reader) (w_X11_feed cA h_t a_t o_t a_t_reader o_t_reader')) (va_A (w_X11_feed cA h_t a_t o_t a_t_reader o_t_reader) sz)) (free := fun sz => va_A (w_X11_feed cA h_t a_t o_t a_t_reader o_t_reader) sz) (by decide +kernel) rfl rfl (Nat.le_of_ble_eq_true rfl) ?_
  intro p e R s m args below meth c A Q hR hA hQ X hr hin
  unfold f_X11_end at hF
  refine z_iload_n X dX11_end_0 rfl 1 rfl ?_
  have hF := if_e hF
  refine z_if_lt (tgt := 15) X dX11_end_1 (by decide) (fun c3 => ?_) (fun c3 => ?_)
  · have hF := hF.1 c3
    refine z_iconst (v := (0 : Int32)) X dX11_end_15 (by decide) ?_
    cases hF
    exact z_zret X hA hQ hr (Or.inl rfl)  rfl dX11_end_16 (Nat.le_refl _) (Nat.le_refl _)
  · have hF := hF.2 c3
    refine z_iload_n X dX11_end_4 rfl 1 rfl ?_
    refine z_aload_n X dX11_end_5 rfl 0 rfl ?_
    refine z_get (v := .ref (a_t 0)) X k_X11_end_10 0 rfl rfl dX11_end_6 ?_
    refine z_get (v := .int (o_t_reader 1 0)) X k_X11_end_96 2 rfl rfl dX11_end_9 ?_
    have hF := if_e hF
    refine z_icmp_le (tgt := 17) X dX11_end_12 (by decide) (fun c2 => ?_) (fun c2 => ?_)
    · have hF := hF.1 c2
      refine z_aload_n X dX11_end_17 rfl 0 rfl ?_
      refine z_get (v := .ref (a_t 0)) X k_X11_end_10 0 rfl rfl dX11_end_18 ?_
      refine z_iload_n X dX11_end_21 rfl 1 rfl ?_
      obtain ⟨o1, eo1, hF⟩ := nx_e hF
      refine z_put (ws' := (w_X11_feed cA h_t a_t o_t a_t_reader o1)) X k_X11_end_96 tyX6 tyX6_ok nmX6 rfl rfl 2 rfl (Nat.le_of_ble_eq_true rfl) (by rw [eo1]; rfl) dX11_end_22 ?_
      refine z_iconst (v := (1 : Int32)) X dX11_end_25 (by decide) ?_
      cases hF
      exact z_zret X hA hQ hr (Or.inr rfl)  rfl dX11_end_26 (Nat.le_refl _) (Nat.le_refl _)
    · have hF := hF.2 c2
      refine z_iconst (v := (0 : Int32)) X dX11_end_15 (by decide) ?_
      cases hF
      exact z_zret X hA hQ hr (Or.inl rfl)  rfl dX11_end_16 (Nat.le_refl _) (Nat.le_refl _)
