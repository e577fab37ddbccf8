set_option maxHeartbeats 8000000 in
set_option maxRecDepth 100000 in
theorem c_X6_readLine (l : Launch) (D : va_G) (cA : Nat → ClassId) (g : Nat → Nat) (sz : Nat) (h_t : Nat) (a_t : Nat → Nat) (o_t : Ob) (h_p1 : Nat) (a_p1 : Nat → Nat) (o_p1 : Ob)  (o_t' : Ob) (o_p1' : Ob) (rv : Int32) (hF : f_X6_readLine o_t o_p1 = some (o_t', o_p1', rv)) : Met l yX6_readLine wsX6_readLine ({ frames := 7, cells := 0, slots := 0, locals := 149 }) (va_Pc [.ref h_t, .ref h_p1] (PreW D cA g sz (w_X6_readItem cA h_t a_t o_t h_p1 a_p1 o_p1))) (va_Qi (fun (r : Int32) (_ : Unit) => r = rv) (PostW D cA sz (w_X6_readItem cA h_t a_t o_t h_p1 a_p1 o_p1) (w_X6_readItem cA h_t a_t o_t' h_p1 a_p1 o_p1')) (va_A (w_X6_readItem cA h_t a_t o_t h_p1 a_p1 o_p1) sz)) 0 0 (va_A (w_X6_readItem cA h_t a_t o_t h_p1 a_p1 o_p1) sz) := by
  refine z_start (cc := cX6_readLine) (maxL := 2) (ret := (some .boolean)) (lv0 := [(0, .ref h_t), (1, .ref h_p1)]) (Qc := fun sz => va_Qi (fun (r : Int32) (_ : Unit) => r = rv) (PostW D cA sz (w_X6_readItem cA h_t a_t o_t h_p1 a_p1 o_p1) (w_X6_readItem cA h_t a_t o_t' h_p1 a_p1 o_p1')) (va_A (w_X6_readItem cA h_t a_t o_t h_p1 a_p1 o_p1) sz)) (free := fun sz => va_A (w_X6_readItem cA h_t a_t o_t h_p1 a_p1 o_p1) sz) (by decide +kernel) rfl rfl (Nat.le_of_ble_eq_true rfl) ?_
  intro p e R s m args below meth c A Q hR hA hQ X hr hin
  unfold f_X6_readLine at hF
  refine z_aload_n X dX6_readLine_0 rfl 0 rfl ?_
  refine z_lds (i := 0) X (by decide) rfl rfl dX6_readLine_1 ?_
  obtain ⟨r1, hc2, hF⟩ := zb1_e hF
  refine z_Vi (As := [.ref (g (1 + 0))]) (rest := []) (wc := (w_X6_hasPlaceFor cA h_t a_t o_t)) (wc' := (w_X6_hasPlaceFor cA h_t a_t o_t)) (ws' := (w_X6_readItem cA h_t a_t o_t h_p1 a_p1 o_p1)) (rv := r1) X (cwV 1 X.2.2.2.2.1 gX6_readLine_X6_says rfl rfl rfl (by decide +kernel) (by rw [hR]; exact ⟨Nat.le_of_ble_eq_true rfl, Nat.le_of_ble_eq_true rfl⟩)) (fun sz => c_X6_says__0 l D cA g sz h_t a_t o_t r1 hc2) [0, 1, 2, 3, 4] [1000, 1001, 1002, 1003, 1004, 5, 6, 7, 8, 9] rfl (by decide) rfl (by decide) rfl rfl rfl rfl rfl rfl (Nat.le_of_ble_eq_true rfl) dX6_readLine_3 ⟨Nat.zero_le _, Nat.zero_le _⟩ ?_
  have hF := if_e hF
  refine z_if_eq (tgt := 14) X dX6_readLine_6 (by decide) (fun c26 => ?_) (fun c26 => ?_)
  · have hF := hF.1 c26
    refine z_aload_n X dX6_readLine_14 rfl 0 rfl ?_
    refine z_lds (i := 1) X (by decide) rfl rfl dX6_readLine_15 ?_
    obtain ⟨r3, hc4, hF⟩ := zb1_e hF
    refine z_Vi (As := [.ref (g (1 + 1))]) (rest := []) (wc := (w_X6_hasPlaceFor cA h_t a_t o_t)) (wc' := (w_X6_hasPlaceFor cA h_t a_t o_t)) (ws' := (w_X6_readItem cA h_t a_t o_t h_p1 a_p1 o_p1)) (rv := r3) X (cwV 1 X.2.2.2.2.1 gX6_readLine_X6_says rfl rfl rfl (by decide +kernel) (by rw [hR]; exact ⟨Nat.le_of_ble_eq_true rfl, Nat.le_of_ble_eq_true rfl⟩)) (fun sz => c_X6_says__1 l D cA g sz h_t a_t o_t r3 hc4) [0, 1, 2, 3, 4] [1000, 1001, 1002, 1003, 1004, 5, 6, 7, 8, 9] rfl (by decide) rfl (by decide) rfl rfl rfl rfl rfl rfl (Nat.le_of_ble_eq_true rfl) dX6_readLine_17 ⟨Nat.zero_le _, Nat.zero_le _⟩ ?_
    have hF := if_e hF
    refine z_if_eq (tgt := 28) X dX6_readLine_20 (by decide) (fun c21 => ?_) (fun c21 => ?_)
    · have hF := hF.1 c21
      refine z_aload_n X dX6_readLine_28 rfl 0 rfl ?_
      refine z_lds (i := 2) X (by decide) rfl rfl dX6_readLine_29 ?_
      obtain ⟨r5, hc6, hF⟩ := zb1_e hF
      refine z_Vi (As := [.ref (g (1 + 2))]) (rest := []) (wc := (w_X6_hasPlaceFor cA h_t a_t o_t)) (wc' := (w_X6_hasPlaceFor cA h_t a_t o_t)) (ws' := (w_X6_readItem cA h_t a_t o_t h_p1 a_p1 o_p1)) (rv := r5) X (cwV 1 X.2.2.2.2.1 gX6_readLine_X6_says rfl rfl rfl (by decide +kernel) (by rw [hR]; exact ⟨Nat.le_of_ble_eq_true rfl, Nat.le_of_ble_eq_true rfl⟩)) (fun sz => c_X6_says__2 l D cA g sz h_t a_t o_t r5 hc6) [0, 1, 2, 3, 4] [1000, 1001, 1002, 1003, 1004, 5, 6, 7, 8, 9] rfl (by decide) rfl (by decide) rfl rfl rfl rfl rfl rfl (Nat.le_of_ble_eq_true rfl) dX6_readLine_31 ⟨Nat.zero_le _, Nat.zero_le _⟩ ?_
      have hF := if_e hF
      refine z_if_eq (tgt := 45) X dX6_readLine_34 (by decide) (fun c16 => ?_) (fun c16 => ?_)
      · have hF := hF.1 c16
        refine z_aload_n X dX6_readLine_45 rfl 0 rfl ?_
        refine z_iconst (v := (1 : Int32)) X dX6_readLine_46 (by decide) ?_
        obtain ⟨o7, r8, hc9, hF⟩ := zb2_e hF
        refine z_Vi (As := [.int (1 : Int32)]) (rest := []) (wc := (w_X6_hasPlaceFor cA h_t a_t o_t)) (wc' := (w_X6_hasPlaceFor cA h_t a_t o7)) (ws' := (w_X6_readItem cA h_t a_t o7 h_p1 a_p1 o_p1)) (rv := r8) X (cwV 1 X.2.2.2.2.1 gX6_readLine_X6_fail rfl rfl rfl (by decide +kernel) (by rw [hR]; exact ⟨Nat.le_of_ble_eq_true rfl, Nat.le_of_ble_eq_true rfl⟩)) (fun sz => c_X6_fail l D cA g sz h_t a_t o_t (1 : Int32) o7 r8 hc9) [0, 1, 2, 3, 4] [1000, 1001, 1002, 1003, 1004, 5, 6, 7, 8, 9] rfl (by decide) rfl (by decide) rfl rfl rfl rfl rfl rfl (Nat.le_of_ble_eq_true rfl) dX6_readLine_47 ⟨Nat.zero_le _, Nat.zero_le _⟩ ?_
        obtain ⟨g10, hF⟩ := gz_e hF
        cases hF
        exact z_zret X hA hQ hr g10  rfl dX6_readLine_50 (Nat.le_refl _) (Nat.le_refl _)
      · have hF := hF.2 c16
        refine z_aload_n X dX6_readLine_37 rfl 0 rfl ?_
        refine z_aload_n X dX6_readLine_38 rfl 1 rfl ?_
        obtain ⟨o11, o12, r13, hc14, hF⟩ := zb3_e hF
        refine z_Vi (As := [.ref h_p1]) (rest := []) (wc := (w_X6_readItem cA h_t a_t o_t h_p1 a_p1 o_p1)) (wc' := (w_X6_readItem cA h_t a_t o11 h_p1 a_p1 o12)) (ws' := (w_X6_readItem cA h_t a_t o11 h_p1 a_p1 o12)) (rv := r13) X (cwV 1 X.2.2.2.2.1 gX6_readLine_X6_readItem rfl rfl rfl (by decide +kernel) (by rw [hR]; exact ⟨Nat.le_of_ble_eq_true rfl, Nat.le_of_ble_eq_true rfl⟩)) (fun sz => c_X6_readItem l D cA g sz h_t a_t o_t h_p1 a_p1 o_p1 o11 o12 r13 hc14) [0, 1, 2, 3, 4, 5, 6, 7, 8, 9] [1000, 1001, 1002, 1003, 1004, 1005, 1006, 1007, 1008, 1009] rfl (by decide) rfl (by decide) rfl rfl rfl rfl rfl rfl (Nat.le_of_ble_eq_true rfl) dX6_readLine_39 ⟨Nat.zero_le _, Nat.zero_le _⟩ ?_
        refine z_goto (tgt := 50) X dX6_readLine_42 (by decide) ?_
        obtain ⟨g15, hF⟩ := gz_e hF
        cases hF
        exact z_zret X hA hQ hr g15  rfl dX6_readLine_50 (Nat.le_refl _) (Nat.le_refl _)
    · have hF := hF.2 c21
      refine z_aload_n X dX6_readLine_23 rfl 0 rfl ?_
      obtain ⟨o17, r18, hc19, hF⟩ := zb2_e hF
      refine z_Vi (As := []) (rest := []) (wc := (w_X6_hasPlaceFor cA h_t a_t o_t)) (wc' := (w_X6_hasPlaceFor cA h_t a_t o17)) (ws' := (w_X6_readItem cA h_t a_t o17 h_p1 a_p1 o_p1)) (rv := r18) X (cwV 0 X.2.2.2.2.1 gX6_readLine_X6_readRule rfl rfl rfl (by decide +kernel) (by rw [hR]; exact ⟨Nat.le_of_ble_eq_true rfl, Nat.le_of_ble_eq_true rfl⟩)) (fun sz => c_X6_readRule l D cA g sz h_t a_t o_t o17 r18 hc19) [0, 1, 2, 3, 4] [1000, 1001, 1002, 1003, 1004, 5, 6, 7, 8, 9] rfl (by decide) rfl (by decide) rfl rfl rfl rfl rfl rfl (Nat.le_of_ble_eq_true rfl) dX6_readLine_24 ⟨Nat.zero_le _, Nat.zero_le _⟩ ?_
      obtain ⟨g20, hF⟩ := gz_e hF
      cases hF
      exact z_zret X hA hQ hr g20  rfl dX6_readLine_27 (Nat.le_refl _) (Nat.le_refl _)
  · have hF := hF.2 c26
    refine z_aload_n X dX6_readLine_9 rfl 0 rfl ?_
    obtain ⟨o22, r23, hc24, hF⟩ := zb2_e hF
    refine z_Vi (As := []) (rest := []) (wc := (w_X6_hasPlaceFor cA h_t a_t o_t)) (wc' := (w_X6_hasPlaceFor cA h_t a_t o22)) (ws' := (w_X6_readItem cA h_t a_t o22 h_p1 a_p1 o_p1)) (rv := r23) X (cwV 0 X.2.2.2.2.1 gX6_readLine_X6_readRoom rfl rfl rfl (by decide +kernel) (by rw [hR]; exact ⟨Nat.le_of_ble_eq_true rfl, Nat.le_of_ble_eq_true rfl⟩)) (fun sz => c_X6_readRoom l D cA g sz h_t a_t o_t o22 r23 hc24) [0, 1, 2, 3, 4] [1000, 1001, 1002, 1003, 1004, 5, 6, 7, 8, 9] rfl (by decide) rfl (by decide) rfl rfl rfl rfl rfl rfl (Nat.le_of_ble_eq_true rfl) dX6_readLine_10 ⟨Nat.zero_le _, Nat.zero_le _⟩ ?_
    obtain ⟨g25, hF⟩ := gz_e hF
    cases hF
    exact z_zret X hA hQ hr g25  rfl dX6_readLine_13 (Nat.le_refl _) (Nat.le_refl _)
set_option maxRecDepth 20000 in
theorem h_X6_take_X6 : ∀ w ∈ wsX60, w ∈ wsX6_take := by decide +kernel
set_option maxRecDepth 20000 in
theorem k_X6_take_50 : ZF wsX6_take RX6 50 6 13 RX6 TX6 17 := ⟨rfl, by decide, h_X6_take_X6, by decide +kernel⟩
set_option maxHeartbeats 8000000 in
set_option maxRecDepth 100000 in
theorem c_X6_take (l : Launch) (D : va_G) (cA : Nat → ClassId) (g : Nat → Nat) (sz : Nat) (h_t : Nat) (a_t : Nat → Nat) (o_t : Ob) (v1 : Int32) (o_t' : Ob) (rv : Int32) (hF : f_X6_take o_t v1 = some (o_t', rv)) : Met l yX6_take wsX6_take ({ frames := 2, cells := 0, slots := 0, locals := 43 }) (va_Pc [.ref h_t, .int v1] (PreW D cA g sz (w_X6_hasPlaceFor cA h_t a_t o_t))) (va_Qi (fun (r : Int32) (_ : Unit) => r = rv) (PostW D cA sz (w_X6_hasPlaceFor cA h_t a_t o_t) (w_X6_hasPlaceFor cA h_t a_t o_t')) (va_A (w_X6_hasPlaceFor cA h_t a_t o_t) sz)) 0 0 (va_A (w_X6_hasPlaceFor cA h_t a_t o_t) sz) := by
  refine z_start (cc := cX6_take) (maxL := 2) (ret := (some .boolean)) (lv0 := [(0, .ref h_t), (1, .int v1)]) (Qc := fun sz => va_Qi (fun (r : Int32) (_ : Unit) => r = rv) (PostW D cA sz (w_X6_hasPlaceFor cA h_t a_t o_t) (w_X6_hasPlaceFor cA h_t a_t o_t')) (va_A (w_X6_hasPlaceFor cA h_t a_t o_t) sz)) (free := fun sz => va_A (w_X6_hasPlaceFor cA h_t a_t o_t) sz) (by decide +kernel) rfl rfl (Nat.le_of_ble_eq_true rfl) ?_
  intro p e R s m args below meth c A Q hR hA hQ X hr hin
  unfold f_X6_take at hF
  refine z_aload_n X dX6_take_0 rfl 0 rfl ?_
  refine z_get (v := .int (o_t 13 0)) X k_X6_take_50 0 rfl rfl dX6_take_1 ?_
  refine z_iload_n X dX6_take_4 rfl 1 rfl ?_
  have hF := if_e hF
  refine z_icmp_eq (tgt := 14) X dX6_take_5 (by decide) (fun c7 => ?_) (fun c7 => ?_)
  · have hF := hF.1 c7
    refine z_aload_n X dX6_take_14 rfl 0 rfl ?_
    obtain ⟨o1, hc2, hF⟩ := zb1_e hF
    refine z_Vv (As := []) (rest := []) (wc := (w_X6_hasPlaceFor cA h_t a_t o_t)) (wc' := (w_X6_hasPlaceFor cA h_t a_t o1)) (ws' := (w_X6_hasPlaceFor cA h_t a_t o1)) X (cwV 0 X.2.2.2.2.1 gX6_take_X6_advance rfl rfl rfl (by decide +kernel) (by rw [hR]; exact ⟨Nat.le_of_ble_eq_true rfl, Nat.le_of_ble_eq_true rfl⟩)) (fun sz => c_X6_advance l D cA g sz h_t a_t o_t o1 hc2) [0, 1, 2, 3, 4] [1000, 1001, 1002, 1003, 1004] rfl (by decide) rfl (by decide) rfl rfl rfl rfl rfl rfl (Nat.le_of_ble_eq_true rfl) dX6_take_15 ⟨Nat.zero_le _, Nat.zero_le _⟩ ?_
    refine z_iconst (v := (1 : Int32)) X dX6_take_18 (by decide) ?_
    cases hF
    exact z_zret X hA hQ hr (Or.inr rfl)  rfl dX6_take_19 (Nat.le_refl _) (Nat.le_refl _)
  · have hF := hF.2 c7
    refine z_aload_n X dX6_take_8 rfl 0 rfl ?_
    refine z_iconst (v := (1 : Int32)) X dX6_take_9 (by decide) ?_
    obtain ⟨o3, r4, hc5, hF⟩ := zb2_e hF
    refine z_Vi (As := [.int (1 : Int32)]) (rest := []) (wc := (w_X6_hasPlaceFor cA h_t a_t o_t)) (wc' := (w_X6_hasPlaceFor cA h_t a_t o3)) (ws' := (w_X6_hasPlaceFor cA h_t a_t o3)) (rv := r4) X (cwV 1 X.2.2.2.2.1 gX6_take_X6_fail rfl rfl rfl (by decide +kernel) (by rw [hR]; exact ⟨Nat.le_of_ble_eq_true rfl, Nat.le_of_ble_eq_true rfl⟩)) (fun sz => c_X6_fail l D cA g sz h_t a_t o_t (1 : Int32) o3 r4 hc5) [0, 1, 2, 3, 4] [1000, 1001, 1002, 1003, 1004] rfl (by decide) rfl (by decide) rfl rfl rfl rfl rfl rfl (Nat.le_of_ble_eq_true rfl) dX6_take_10 ⟨Nat.zero_le _, Nat.zero_le _⟩ ?_
    obtain ⟨g6, hF⟩ := gz_e hF
    cases hF
    exact z_zret X hA hQ hr g6  rfl dX6_take_13 (Nat.le_refl _) (Nat.le_refl _)
set_option maxRecDepth 20000 in
theorem h_X6_readStore_X10 : ∀ w ∈ wsX100, w ∈ wsX6_readStore := by decide +kernel
set_option maxRecDepth 20000 in
theorem k_X6_readStore_28 : ZF wsX6_readStore RX6 28 10 0 RX10 TX10 5 := ⟨rfl, by decide, h_X6_readStore_X10, by decide +kernel⟩
set_option maxRecDepth 20000 in
theorem h_X6_readStore_X6 : ∀ w ∈ wsX60, w ∈ wsX6_readStore := by decide +kernel
set_option maxRecDepth 20000 in
theorem k_X6_readStore_33 : ZF wsX6_readStore RX6 33 6 4 RX6 TX6 17 := ⟨rfl, by decide, h_X6_readStore_X6, by decide +kernel⟩
set_option maxRecDepth 20000 in
theorem k_X6_readStore_36 : ZF wsX6_readStore RX6 36 6 5 RX6 TX6 17 := ⟨rfl, by decide, h_X6_readStore_X6, by decide +kernel⟩
set_option maxRecDepth 20000 in
theorem k_X6_readStore_39 : ZF wsX6_readStore RX6 39 6 6 RX6 TX6 17 := ⟨rfl, by decide, h_X6_readStore_X6, by decide +kernel⟩
set_option maxRecDepth 20000 in
theorem k_X6_readStore_43 : ZF wsX6_readStore RX6 43 6 7 RX6 TX6 17 := ⟨rfl, by decide, h_X6_readStore_X6, by decide +kernel⟩
set_option maxRecDepth 20000 in
theorem k_X6_readStore_50 : ZF wsX6_readStore RX6 50 6 13 RX6 TX6 17 := ⟨rfl, by decide, h_X6_readStore_X6, by decide +kernel⟩
set_option maxHeartbeats 8000000 in
set_option maxRecDepth 100000 in
theorem c_X6_readStore (l : Launch) (D : va_G) (cA : Nat → ClassId) (g : Nat → Nat) (sz : Nat) (h_t : Nat) (a_t : Nat → Nat) (o_t : Ob) (h_p1 : Nat) (a_p1 : Nat → Nat) (o_p1 : Ob)  (o_t' : Ob) (o_p1' : Ob) (rv : Int32) (hF : f_X6_readStore o_t o_p1 = some (o_t', o_p1', rv)) : Met l yX6_readStore wsX6_readStore ({ frames := 8, cells := 0, slots := 0, locals := 170 }) (va_Pc [.ref h_t, .ref h_p1] (PreW D cA g sz (w_X6_readItem cA h_t a_t o_t h_p1 a_p1 o_p1))) (va_Qi (fun (r : Int32) (_ : Unit) => r = rv) (PostW D cA sz (w_X6_readItem cA h_t a_t o_t h_p1 a_p1 o_p1) (w_X6_readItem cA h_t a_t o_t' h_p1 a_p1 o_p1')) (va_A (w_X6_readItem cA h_t a_t o_t h_p1 a_p1 o_p1) sz)) 0 0 (va_A (w_X6_readItem cA h_t a_t o_t h_p1 a_p1 o_p1) sz) := by
  refine z_start (cc := cX6_readStore) (maxL := 3) (ret := (some .boolean)) (lv0 := [(0, .ref h_t), (1, .ref h_p1)]) (Qc := fun sz => va_Qi (fun (r : Int32) (_ : Unit) => r = rv) (PostW D cA sz (w_X6_readItem cA h_t a_t o_t h_p1 a_p1 o_p1) (w_X6_readItem cA h_t a_t o_t' h_p1 a_p1 o_p1')) (va_A (w_X6_readItem cA h_t a_t o_t h_p1 a_p1 o_p1) sz)) (free := fun sz => va_A (w_X6_readItem cA h_t a_t o_t h_p1 a_p1 o_p1) sz) (by decide +kernel) rfl rfl (Nat.le_of_ble_eq_true rfl) ?_
  intro p e R s m args below meth c A Q hR hA hQ X hr hin
  unfold f_X6_readStore at hF
  refine z_aload_n X dX6_readStore_0 rfl 1 rfl ?_
  refine z_iconst (v := (0 : Int32)) X dX6_readStore_1 (by decide) ?_
  obtain ⟨o1, eo1, hF⟩ := nx_e hF
  refine z_put (ws' := (w_X6_readItem cA h_t a_t o_t h_p1 a_p1 o1)) X k_X6_readStore_28 tyX10 tyX10_ok nmX10 rfl rfl 5 rfl (Nat.le_of_ble_eq_true rfl) (by rw [eo1]; rfl) dX6_readStore_2 ?_
  refine z_aload_n X dX6_readStore_5 rfl 0 rfl ?_
  refine z_bipush (v := (6 : Int32)) X dX6_readStore_6 (by decide) ?_
  obtain ⟨o2, eo2, hF⟩ := nx_e hF
  refine z_put (ws' := (w_X6_readItem cA h_t a_t o2 h_p1 a_p1 o1)) X k_X6_readStore_33 tyX6 tyX6_ok nmX6 rfl rfl 0 rfl (Nat.le_of_ble_eq_true rfl) (by rw [eo2]; rfl) dX6_readStore_8 ?_
  refine z_aload_n X dX6_readStore_11 rfl 0 rfl ?_
  refine z_iconst (v := (1 : Int32)) X dX6_readStore_12 (by decide) ?_
  obtain ⟨o3, eo3, hF⟩ := nx_e hF
  refine z_put (ws' := (w_X6_readItem cA h_t a_t o3 h_p1 a_p1 o1)) X k_X6_readStore_36 tyX6 tyX6_ok nmX6 rfl rfl 0 rfl (Nat.le_of_ble_eq_true rfl) (by rw [eo3]; rfl) dX6_readStore_13 ?_
  refine z_aload_n X dX6_readStore_16 rfl 0 rfl ?_
  refine z_iconst (v := (0 : Int32)) X dX6_readStore_17 (by decide) ?_
  obtain ⟨o4, eo4, hF⟩ := nx_e hF
  refine z_putZ (ws' := (w_X6_readItem cA h_t a_t o4 h_p1 a_p1 o1)) X k_X6_readStore_39 tyX6 tyX6_ok nmX6 rfl rfl 0 rfl (Nat.le_of_ble_eq_true rfl) (by rw [eo4]; rfl) (Or.inl rfl) dX6_readStore_18 ?_
  refine z_aload_n X dX6_readStore_21 rfl 0 rfl ?_
  refine z_iconst (v := (0 : Int32)) X dX6_readStore_22 (by decide) ?_
  obtain ⟨o5, eo5, hF⟩ := nx_e hF
  refine z_putZ (ws' := (w_X6_readItem cA h_t a_t o5 h_p1 a_p1 o1)) X k_X6_readStore_43 tyX6 tyX6_ok nmX6 rfl rfl 0 rfl (Nat.le_of_ble_eq_true rfl) (by rw [eo5]; rfl) (Or.inl rfl) dX6_readStore_23 ?_
  refine z_aload_n X dX6_readStore_26 rfl 0 rfl ?_
  obtain ⟨o6, r7, hc8, hF⟩ := zb2_e hF
  refine z_Vi (As := []) (rest := []) (wc := (w_X6_hasPlaceFor cA h_t a_t o5)) (wc' := (w_X6_hasPlaceFor cA h_t a_t o6)) (ws' := (w_X6_readItem cA h_t a_t o6 h_p1 a_p1 o1)) (rv := r7) X (cwV 0 X.2.2.2.2.1 gX6_readStore_X6_start rfl rfl rfl (by decide +kernel) (by rw [hR]; exact ⟨Nat.le_of_ble_eq_true rfl, Nat.le_of_ble_eq_true rfl⟩)) (fun sz => c_X6_start l D cA g sz h_t a_t o5 o6 r7 hc8) [0, 1, 2, 3, 4] [1000, 1001, 1002, 1003, 1004, 5, 6, 7, 8, 9] rfl (by decide) rfl (by decide) rfl rfl rfl rfl rfl rfl (Nat.le_of_ble_eq_true rfl) dX6_readStore_27 ⟨Nat.zero_le _, Nat.zero_le _⟩ ?_
  have hF := if_e hF
  refine z_if_ne (tgt := 35) X dX6_readStore_30 (by decide) (fun c45 => ?_) (fun c45 => ?_)
  · have hF := hF.2 c45
    refine z_iconst (v := (0 : Int32)) X dX6_readStore_35 (by decide) ?_
    refine z_istore_n (lv' := [(2, .int (0 : Int32)), (0, .ref h_t), (1, .ref h_p1)]) X dX6_readStore_36 rfl (by decide) rfl ?_
    obtain ⟨z43, hL, hFx, L29_r⟩ := ze2_e hF
    have L29_x : ∀ (o27 : Ob) (o28 : Ob), z43 = .inl (o27, o28) → ZW p l e R s m args below meth c D A 3 0 0 Q (w_X6_readItem cA h_t a_t o27 h_p1 a_p1 o28) [] 77 [] := by
      intro o27 o28 hz
      have hF := hFx o27 o28 hz
      refine z_iconst (v := (1 : Int32)) X dX6_readStore_77 (by decide) ?_
      cases hF
      exact z_zret X hA hQ hr (Or.inr rfl)  rfl dX6_readStore_78 (Nat.le_refl _) (Nat.le_refl _)
    obtain ⟨B44, hBB44, hL⟩ := zl3_b hL
    have L29 : ∀ (n : Nat) (o24 : Ob) (o25 : Ob) (k26 : Int32), zl3 B44 n o24 o25 k26 = some z43 → ZW p l e R s m args below meth c D A 3 0 0 Q (w_X6_readItem cA h_t a_t o24 h_p1 a_p1 o25) [(0, .ref h_t), (1, .ref h_p1), (2, .int k26)] 37 [] := by
      intro n
      induction n with
      | zero => intro o24 o25 k26 hL; cases hL
      | succ n ih =>
        intro o24 o25 k26 hL
        obtain ⟨zz30, hF, hL⟩ := zl3_e hL
        rw [hBB44] at hF
        refine z_iload_n X dX6_readStore_37 rfl 2 rfl ?_
        refine z_sipush (v := (400 : Int32)) X dX6_readStore_38 (by decide) ?_
        have hF := if_e hF
        refine z_icmp_ge (tgt := 77) X dX6_readStore_41 (by decide) (fun c42 => ?_) (fun c42 => ?_)
        · have hF := hF.1 c42
          cases hF
          have hL := Option.some.inj hL
          refine z_lv (lv' := []) [] rfl ?_
          exact L29_x o24 o25 hL.symm
        · have hF := hF.2 c42
          refine z_aload_n X dX6_readStore_44 rfl 0 rfl ?_
          refine z_get (v := .int (o24 13 0)) X k_X6_readStore_50 0 rfl rfl dX6_readStore_45 ?_
          refine z_iconst (v := (1 : Int32)) X dX6_readStore_48 (by decide) ?_
          have hF := if_e hF
          refine z_icmp_eq (tgt := 77) X dX6_readStore_49 (by decide) (fun c41 => ?_) (fun c41 => ?_)
          · have hF := hF.1 c41
            cases hF
            have hL := Option.some.inj hL
            refine z_lv (lv' := []) [] rfl ?_
            exact L29_x o24 o25 hL.symm
          · have hF := hF.2 c41
            refine z_aload_n X dX6_readStore_52 rfl 0 rfl ?_
            refine z_aload_n X dX6_readStore_53 rfl 1 rfl ?_
            obtain ⟨o31, o32, r33, hc34, hF⟩ := zb3_e hF
            refine z_Vi (As := [.ref h_p1]) (rest := []) (wc := (w_X6_readItem cA h_t a_t o24 h_p1 a_p1 o25)) (wc' := (w_X6_readItem cA h_t a_t o31 h_p1 a_p1 o32)) (ws' := (w_X6_readItem cA h_t a_t o31 h_p1 a_p1 o32)) (rv := r33) X (cwV 1 X.2.2.2.2.1 gX6_readStore_X6_readLine rfl rfl rfl (by decide +kernel) (by rw [hR]; exact ⟨Nat.le_of_ble_eq_true rfl, Nat.le_of_ble_eq_true rfl⟩)) (fun sz => c_X6_readLine l D cA g sz h_t a_t o24 h_p1 a_p1 o25 o31 o32 r33 hc34) [0, 1, 2, 3, 4, 5, 6, 7, 8, 9] [1000, 1001, 1002, 1003, 1004, 1005, 1006, 1007, 1008, 1009] rfl (by decide) rfl (by decide) rfl rfl rfl rfl rfl rfl (Nat.le_of_ble_eq_true rfl) dX6_readStore_54 ⟨Nat.zero_le _, Nat.zero_le _⟩ ?_
            have hF := if_e hF
            refine z_if_eq (tgt := 69) X dX6_readStore_57 (by decide) (fun c40 => ?_) (fun c40 => ?_)
            · have hF := hF.1 c40
              refine z_iconst (v := (0 : Int32)) X dX6_readStore_69 (by decide) ?_
              cases hF
              have hL := (Option.some.inj hL).symm
              have hF := L29_r _ hL
              cases hF
              exact z_zret X hA hQ hr (Or.inl rfl)  rfl dX6_readStore_70 (Nat.le_refl _) (Nat.le_refl _)
            · have hF := hF.2 c40
              refine z_aload_n X dX6_readStore_60 rfl 0 rfl ?_
              refine z_bipush (v := (59 : Int32)) X dX6_readStore_61 (by decide) ?_
              obtain ⟨o35, r36, hc37, hF⟩ := zb2_e hF
              refine z_Vi (As := [.int (59 : Int32)]) (rest := []) (wc := (w_X6_hasPlaceFor cA h_t a_t o31)) (wc' := (w_X6_hasPlaceFor cA h_t a_t o35)) (ws' := (w_X6_readItem cA h_t a_t o35 h_p1 a_p1 o32)) (rv := r36) X (cwV 1 X.2.2.2.2.1 gX6_readStore_X6_take rfl rfl rfl (by decide +kernel) (by rw [hR]; exact ⟨Nat.le_of_ble_eq_true rfl, Nat.le_of_ble_eq_true rfl⟩)) (fun sz => c_X6_take l D cA g sz h_t a_t o31 (59 : Int32) o35 r36 hc37) [0, 1, 2, 3, 4] [1000, 1001, 1002, 1003, 1004, 5, 6, 7, 8, 9] rfl (by decide) rfl (by decide) rfl rfl rfl rfl rfl rfl (Nat.le_of_ble_eq_true rfl) dX6_readStore_63 ⟨Nat.zero_le _, Nat.zero_le _⟩ ?_
              have hF := if_e hF
              refine z_if_ne (tgt := 71) X dX6_readStore_66 (by decide) (fun c39 => ?_) (fun c39 => ?_)
              · have hF := hF.2 c39
                obtain ⟨x38, ex38, hF⟩ := nx_e hF
                refine z_iinc (v := x38) (lv' := [(2, .int x38), (0, .ref h_t), (1, .ref h_p1)]) (j := 2) X dX6_readStore_71 rfl (by rw [ex38]; rfl) (by decide) rfl ?_
                refine z_goto (tgt := 37) X dX6_readStore_74 (by decide) ?_
                cases hF
                refine z_lv (lv' := [(0, .ref h_t), (1, .ref h_p1), (2, .int x38)]) [1, 2, 0] rfl ?_
                exact ih o35 o32 x38 hL
              · have hF := hF.1 c39
                refine z_iconst (v := (0 : Int32)) X dX6_readStore_69 (by decide) ?_
                cases hF
                have hL := (Option.some.inj hL).symm
                have hF := L29_r _ hL
                cases hF
                exact z_zret X hA hQ hr (Or.inl rfl)  rfl dX6_readStore_70 (Nat.le_refl _) (Nat.le_refl _)
    refine z_lv (lv' := [(0, .ref h_t), (1, .ref h_p1), (2, .int (0 : Int32))]) [1, 2, 0] rfl ?_
    exact L29 FU o6 o1 (0 : Int32) hL
  · have hF := hF.1 c45
    refine z_iconst (v := (0 : Int32)) X dX6_readStore_33 (by decide) ?_
    cases hF
    exact z_zret X hA hQ hr (Or.inl rfl)  rfl dX6_readStore_34 (Nat.le_refl _) (Nat.le_refl _)
set_option maxRecDepth 20000 in
theorem h_X6_readAgain_X6 : ∀ w ∈ wsX60, w ∈ wsX6_readAgain := by decide +kernel
set_option maxRecDepth 20000 in
theorem k_X6_readAgain_18 : ZF wsX6_readAgain RX6 18 6 11 RX6 TX6 17 := ⟨rfl, by decide, h_X6_readAgain_X6, by decide +kernel⟩
set_option maxRecDepth 20000 in
theorem k_X6_readAgain_21 : ZF wsX6_readAgain RX6 21 6 12 RX6 TX6 17 := ⟨rfl, by decide, h_X6_readAgain_X6, by decide +kernel⟩
set_option maxRecDepth 20000 in
theorem k_X6_readAgain_118 : ZF wsX6_readAgain RX6 118 6 9 RX6 TX6 17 := ⟨rfl, by decide, h_X6_readAgain_X6, by decide +kernel⟩
set_option maxRecDepth 20000 in
theorem k_X6_readAgain_121 : ZF wsX6_readAgain RX6 121 6 10 RX6 TX6 17 := ⟨rfl, by decide, h_X6_readAgain_X6, by decide +kernel⟩
set_option maxHeartbeats 8000000 in
set_option maxRecDepth 100000 in
theorem c_X6_readAgain (l : Launch) (D : va_G) (cA : Nat → ClassId) (g : Nat → Nat) (sz : Nat) (h_t : Nat) (a_t : Nat → Nat) (o_t : Ob)  (o_t' : Ob) (rv : Int32) (hF : f_X6_readAgain o_t = some (o_t', rv)) : Met l yX6_readAgain wsX6_readAgain ({ frames := 3, cells := 0, slots := 0, locals := 67 }) (va_Pc [.ref h_t] (PreW D cA g sz (w_X6_hasPlaceFor cA h_t a_t o_t))) (va_Qi (fun (r : Int32) (_ : Unit) => r = rv) (PostW D cA sz (w_X6_hasPlaceFor cA h_t a_t o_t) (w_X6_hasPlaceFor cA h_t a_t o_t')) (va_A (w_X6_hasPlaceFor cA h_t a_t o_t) sz)) 0 0 (va_A (w_X6_hasPlaceFor cA h_t a_t o_t) sz) := by
  refine z_start (cc := cX6_readAgain) (maxL := 2) (ret := (some .boolean)) (lv0 := [(0, .ref h_t)]) (Qc := fun sz => va_Qi (fun (r : Int32) (_ : Unit) => r = rv) (PostW D cA sz (w_X6_hasPlaceFor cA h_t a_t o_t) (w_X6_hasPlaceFor cA h_t a_t o_t')) (va_A (w_X6_hasPlaceFor cA h_t a_t o_t) sz)) (free := fun sz => va_A (w_X6_hasPlaceFor cA h_t a_t o_t) sz) (by decide +kernel) rfl rfl (Nat.le_of_ble_eq_true rfl) ?_
  intro p e R s m args below meth c A Q hR hA hQ X hr hin
  unfold f_X6_readAgain at hF
  refine z_aload_n X dX6_readAgain_0 rfl 0 rfl ?_
  refine z_get (v := .int (o_t 10 0)) X k_X6_readAgain_121 0 rfl rfl dX6_readAgain_1 ?_
  refine z_iconst (v := (2 : Int32)) X dX6_readAgain_4 (by decide) ?_
  have hF := if_e hF
  refine z_icmp_lt (tgt := 14) X dX6_readAgain_5 (by decide) (fun c20 => ?_) (fun c20 => ?_)
  · have hF := hF.1 c20
    refine z_aload_n X dX6_readAgain_14 rfl 0 rfl ?_
    obtain ⟨o1, hc2, hF⟩ := zb1_e hF
    refine z_Vv (As := []) (rest := []) (wc := (w_X6_hasPlaceFor cA h_t a_t o_t)) (wc' := (w_X6_hasPlaceFor cA h_t a_t o1)) (ws' := (w_X6_hasPlaceFor cA h_t a_t o1)) X (cwV 0 X.2.2.2.2.1 gX6_readAgain_X6_advance rfl rfl rfl (by decide +kernel) (by rw [hR]; exact ⟨Nat.le_of_ble_eq_true rfl, Nat.le_of_ble_eq_true rfl⟩)) (fun sz => c_X6_advance l D cA g sz h_t a_t o_t o1 hc2) [0, 1, 2, 3, 4] [1000, 1001, 1002, 1003, 1004] rfl (by decide) rfl (by decide) rfl rfl rfl rfl rfl rfl (Nat.le_of_ble_eq_true rfl) dX6_readAgain_15 ⟨Nat.zero_le _, Nat.zero_le _⟩ ?_
    refine z_aload_n X dX6_readAgain_18 rfl 0 rfl ?_
    refine z_iconst (v := (1 : Int32)) X dX6_readAgain_19 (by decide) ?_
    refine z_bipush (v := (9 : Int32)) X dX6_readAgain_20 (by decide) ?_
    obtain ⟨o3, r4, hc5, hF⟩ := zb2_e hF
    refine z_Vi (As := [.int (1 : Int32), .int (9 : Int32)]) (rest := []) (wc := (w_X6_hasPlaceFor cA h_t a_t o1)) (wc' := (w_X6_hasPlaceFor cA h_t a_t o3)) (ws' := (w_X6_hasPlaceFor cA h_t a_t o3)) (rv := r4) X (cwV 2 X.2.2.2.2.1 gX6_readAgain_X6_takeNumber rfl rfl rfl (by decide +kernel) (by rw [hR]; exact ⟨Nat.le_of_ble_eq_true rfl, Nat.le_of_ble_eq_true rfl⟩)) (fun sz => c_X6_takeNumber l D cA g sz h_t a_t o1 (1 : Int32) (9 : Int32) o3 r4 hc5) [0, 1, 2, 3, 4] [1000, 1001, 1002, 1003, 1004] rfl (by decide) rfl (by decide) rfl rfl rfl rfl rfl rfl (Nat.le_of_ble_eq_true rfl) dX6_readAgain_22 ⟨Nat.zero_le _, Nat.zero_le _⟩ ?_
    refine z_istore_n (lv' := [(1, .int r4), (0, .ref h_t)]) X dX6_readAgain_25 rfl (by decide) rfl ?_
    refine z_iload_n X dX6_readAgain_26 rfl 0 rfl ?_
    refine z_iconst (v := (-1 : Int32)) X dX6_readAgain_27 (by decide) ?_
    have hF := if_e hF
    refine z_icmp_eq (tgt := 40) X dX6_readAgain_28 (by decide) (fun c15 => ?_) (fun c15 => ?_)
    · have hF := hF.1 c15
      refine z_iconst (v := (0 : Int32)) X dX6_readAgain_40 (by decide) ?_
      cases hF
      exact z_zret X hA hQ hr (Or.inl rfl)  rfl dX6_readAgain_41 (Nat.le_refl _) (Nat.le_refl _)
    · have hF := hF.2 c15
      refine z_aload_n X dX6_readAgain_31 rfl 1 rfl ?_
      refine z_bipush (v := (91 : Int32)) X dX6_readAgain_32 (by decide) ?_
      obtain ⟨o6, r7, hc8, hF⟩ := zb2_e hF
      refine z_Vi (As := [.int (91 : Int32)]) (rest := []) (wc := (w_X6_hasPlaceFor cA h_t a_t o3)) (wc' := (w_X6_hasPlaceFor cA h_t a_t o6)) (ws' := (w_X6_hasPlaceFor cA h_t a_t o6)) (rv := r7) X (cwV 1 X.2.2.2.2.1 gX6_readAgain_X6_take rfl rfl rfl (by decide +kernel) (by rw [hR]; exact ⟨Nat.le_of_ble_eq_true rfl, Nat.le_of_ble_eq_true rfl⟩)) (fun sz => c_X6_take l D cA g sz h_t a_t o3 (91 : Int32) o6 r7 hc8) [0, 1, 2, 3, 4] [1000, 1001, 1002, 1003, 1004] rfl (by decide) rfl (by decide) rfl rfl rfl rfl rfl rfl (Nat.le_of_ble_eq_true rfl) dX6_readAgain_34 ⟨Nat.zero_le _, Nat.zero_le _⟩ ?_
      have hF := if_e hF
      refine z_if_ne (tgt := 42) X dX6_readAgain_37 (by decide) (fun c14 => ?_) (fun c14 => ?_)
      · have hF := hF.2 c14
        refine z_aload_n X dX6_readAgain_42 rfl 1 rfl ?_
        refine z_get (v := .ref (a_t 11)) X k_X6_readAgain_18 0 rfl rfl dX6_readAgain_43 ?_
        refine z_aload_n X dX6_readAgain_46 rfl 1 rfl ?_
        refine z_get (v := .int (o6 10 0)) X k_X6_readAgain_121 0 rfl rfl dX6_readAgain_47 ?_
        refine z_iload_n X dX6_readAgain_50 rfl 0 rfl ?_
        obtain ⟨g9, hF⟩ := gi_e hF
        obtain ⟨o10, eo10, hF⟩ := nx_e hF
        refine z_iast (ws' := (w_X6_hasPlaceFor cA h_t a_t o10)) X 3 rfl g9 (by rw [eo10]; rfl) dX6_readAgain_51 ?_
        refine z_aload_n X dX6_readAgain_52 rfl 1 rfl ?_
        refine z_get (v := .ref (a_t 12)) X k_X6_readAgain_21 0 rfl rfl dX6_readAgain_53 ?_
        refine z_aload_n X dX6_readAgain_56 rfl 1 rfl ?_
        refine z_get (v := .int (o10 10 0)) X k_X6_readAgain_121 0 rfl rfl dX6_readAgain_57 ?_
        refine z_aload_n X dX6_readAgain_60 rfl 1 rfl ?_
        refine z_get (v := .int (o10 9 0)) X k_X6_readAgain_118 0 rfl rfl dX6_readAgain_61 ?_
        obtain ⟨g11, hF⟩ := gi_e hF
        obtain ⟨o12, eo12, hF⟩ := nx_e hF
        refine z_iast (ws' := (w_X6_hasPlaceFor cA h_t a_t o12)) X 4 rfl g11 (by rw [eo12]; rfl) dX6_readAgain_64 ?_
        refine z_aload_n X dX6_readAgain_65 rfl 1 rfl ?_
        refine z_dup X dX6_readAgain_66 rfl ?_
        refine z_get (v := .int (o12 10 0)) X k_X6_readAgain_121 0 rfl rfl dX6_readAgain_67 ?_
        refine z_iconst (v := (1 : Int32)) X dX6_readAgain_70 (by decide) ?_
        refine z_iadd X dX6_readAgain_71 ?_
        obtain ⟨o13, eo13, hF⟩ := nx_e hF
        refine z_put (ws' := (w_X6_hasPlaceFor cA h_t a_t o13)) X k_X6_readAgain_121 tyX6 tyX6_ok nmX6 rfl rfl 0 rfl (Nat.le_of_ble_eq_true rfl) (by rw [eo13]; rfl) dX6_readAgain_72 ?_
        refine z_iconst (v := (1 : Int32)) X dX6_readAgain_75 (by decide) ?_
        cases hF
        exact z_zret X hA hQ hr (Or.inr rfl)  rfl dX6_readAgain_76 (Nat.le_refl _) (Nat.le_refl _)
      · have hF := hF.1 c14
        refine z_iconst (v := (0 : Int32)) X dX6_readAgain_40 (by decide) ?_
        cases hF
        exact z_zret X hA hQ hr (Or.inl rfl)  rfl dX6_readAgain_41 (Nat.le_refl _) (Nat.le_refl _)
  · have hF := hF.2 c20
    refine z_aload_n X dX6_readAgain_8 rfl 0 rfl ?_
    refine z_iconst (v := (5 : Int32)) X dX6_readAgain_9 (by decide) ?_
    obtain ⟨o16, r17, hc18, hF⟩ := zb2_e hF
    refine z_Vi (As := [.int (5 : Int32)]) (rest := []) (wc := (w_X6_hasPlaceFor cA h_t a_t o_t)) (wc' := (w_X6_hasPlaceFor cA h_t a_t o16)) (ws' := (w_X6_hasPlaceFor cA h_t a_t o16)) (rv := r17) X (cwV 1 X.2.2.2.2.1 gX6_readAgain_X6_fail rfl rfl rfl (by decide +kernel) (by rw [hR]; exact ⟨Nat.le_of_ble_eq_true rfl, Nat.le_of_ble_eq_true rfl⟩)) (fun sz => c_X6_fail l D cA g sz h_t a_t o_t (5 : Int32) o16 r17 hc18) [0, 1, 2, 3, 4] [1000, 1001, 1002, 1003, 1004] rfl (by decide) rfl (by decide) rfl rfl rfl rfl rfl rfl (Nat.le_of_ble_eq_true rfl) dX6_readAgain_10 ⟨Nat.zero_le _, Nat.zero_le _⟩ ?_
    obtain ⟨g19, hF⟩ := gz_e hF
    cases hF
    exact z_zret X hA hQ hr g19  rfl dX6_readAgain_13 (Nat.le_refl _) (Nat.le_refl _)
set_option maxRecDepth 20000 in
theorem h_X6_addStep_X6 : ∀ w ∈ wsX60, w ∈ wsX6_addStep := by decide +kernel
set_option maxRecDepth 20000 in
theorem k_X6_addStep_15 : ZF wsX6_addStep RX6 15 6 8 RX6 TX6 17 := ⟨rfl, by decide, h_X6_addStep_X6, by decide +kernel⟩
set_option maxRecDepth 20000 in
theorem k_X6_addStep_118 : ZF wsX6_addStep RX6 118 6 9 RX6 TX6 17 := ⟨rfl, by decide, h_X6_addStep_X6, by decide +kernel⟩
set_option maxHeartbeats 8000000 in
set_option maxRecDepth 100000 in
theorem c_X6_addStep (l : Launch) (D : va_G) (cA : Nat → ClassId) (g : Nat → Nat) (sz : Nat) (h_t : Nat) (a_t : Nat → Nat) (o_t : Ob) (v1 : Int32) (o_t' : Ob) (hF : f_X6_addStep o_t v1 = some o_t') : Met l yX6_addStep wsX6_addStep ({ frames := 0, cells := 0, slots := 0, locals := 0 }) (va_Pc [.ref h_t, .int v1] (PreW D cA g sz (w_X6_hasPlaceFor cA h_t a_t o_t))) (va_Qv (fun (_ : Unit) => True) (PostW D cA sz (w_X6_hasPlaceFor cA h_t a_t o_t) (w_X6_hasPlaceFor cA h_t a_t o_t')) (va_A (w_X6_hasPlaceFor cA h_t a_t o_t) sz)) 0 0 (va_A (w_X6_hasPlaceFor cA h_t a_t o_t) sz) := by
  refine z_start (cc := cX6_addStep) (maxL := 2) (ret := none) (lv0 := [(0, .ref h_t), (1, .int v1)]) (Qc := fun sz => va_Qv (fun (_ : Unit) => True) (PostW D cA sz (w_X6_hasPlaceFor cA h_t a_t o_t) (w_X6_hasPlaceFor cA h_t a_t o_t')) (va_A (w_X6_hasPlaceFor cA h_t a_t o_t) sz)) (free := fun sz => va_A (w_X6_hasPlaceFor cA h_t a_t o_t) sz) (by decide +kernel) rfl rfl (Nat.le_of_ble_eq_true rfl) ?_
  intro p e R s m args below meth c A Q hR hA hQ X hr hin
  unfold f_X6_addStep at hF
  refine z_aload_n X dX6_addStep_0 rfl 0 rfl ?_
  refine z_get (v := .int (o_t 9 0)) X k_X6_addStep_118 0 rfl rfl dX6_addStep_1 ?_
  refine z_bipush (v := (40 : Int32)) X dX6_addStep_4 (by decide) ?_
  have hF := if_e hF
  refine z_icmp_ge (tgt := 26) X dX6_addStep_6 (by decide) (fun c4 => ?_) (fun c4 => ?_)
  · have hF := hF.1 c4
    cases hF
    exact z_vret X hA hQ hr dX6_addStep_26 (Nat.le_refl _) (Nat.le_refl _)
  · have hF := hF.2 c4
    refine z_aload_n X dX6_addStep_9 rfl 0 rfl ?_
    refine z_get (v := .ref (a_t 8)) X k_X6_addStep_15 0 rfl rfl dX6_addStep_10 ?_
    refine z_aload_n X dX6_addStep_13 rfl 0 rfl ?_
    refine z_dup X dX6_addStep_14 rfl ?_
    refine z_get (v := .int (o_t 9 0)) X k_X6_addStep_118 0 rfl rfl dX6_addStep_15 ?_
    refine z_dup_x1 X dX6_addStep_18 rfl rfl ?_
    refine z_iconst (v := (1 : Int32)) X dX6_addStep_19 (by decide) ?_
    refine z_iadd X dX6_addStep_20 ?_
    obtain ⟨o1, eo1, hF⟩ := nx_e hF
    refine z_put (ws' := (w_X6_hasPlaceFor cA h_t a_t o1)) X k_X6_addStep_118 tyX6 tyX6_ok nmX6 rfl rfl 0 rfl (Nat.le_of_ble_eq_true rfl) (by rw [eo1]; rfl) dX6_addStep_21 ?_
    refine z_iload_n X dX6_addStep_24 rfl 1 rfl ?_
    obtain ⟨g2, hF⟩ := gi_e hF
    obtain ⟨o3, eo3, hF⟩ := nx_e hF
    refine z_iast (ws' := (w_X6_hasPlaceFor cA h_t a_t o3)) X 2 rfl g2 (by rw [eo3]; rfl) dX6_addStep_25 ?_
    cases hF
    exact z_vret X hA hQ hr dX6_addStep_26 (Nat.le_refl _) (Nat.le_refl _)
set_option maxRecDepth 20000 in
theorem h_X6_repeat_X6 : ∀ w ∈ wsX60, w ∈ wsX6_repeat := by decide +kernel
set_option maxRecDepth 20000 in
theorem k_X6_repeat_15 : ZF wsX6_repeat RX6 15 6 8 RX6 TX6 17 := ⟨rfl, by decide, h_X6_repeat_X6, by decide +kernel⟩
set_option maxRecDepth 20000 in
theorem k_X6_repeat_18 : ZF wsX6_repeat RX6 18 6 11 RX6 TX6 17 := ⟨rfl, by decide, h_X6_repeat_X6, by decide +kernel⟩
set_option maxRecDepth 20000 in
theorem k_X6_repeat_21 : ZF wsX6_repeat RX6 21 6 12 RX6 TX6 17 := ⟨rfl, by decide, h_X6_repeat_X6, by decide +kernel⟩
set_option maxRecDepth 20000 in
theorem k_X6_repeat_118 : ZF wsX6_repeat RX6 118 6 9 RX6 TX6 17 := ⟨rfl, by decide, h_X6_repeat_X6, by decide +kernel⟩
set_option maxRecDepth 20000 in
theorem k_X6_repeat_121 : ZF wsX6_repeat RX6 121 6 10 RX6 TX6 17 := ⟨rfl, by decide, h_X6_repeat_X6, by decide +kernel⟩
set_option maxHeartbeats 8000000 in
set_option maxRecDepth 100000 in
theorem c_X6_repeat (l : Launch) (D : va_G) (cA : Nat → ClassId) (g : Nat → Nat) (sz : Nat) (h_t : Nat) (a_t : Nat → Nat) (o_t : Ob)  (o_t' : Ob) (hF : f_X6_repeat o_t = some o_t') : Met l yX6_repeat wsX6_repeat ({ frames := 1, cells := 0, slots := 0, locals := 21 }) (va_Pc [.ref h_t] (PreW D cA g sz (w_X6_hasPlaceFor cA h_t a_t o_t))) (va_Qv (fun (_ : Unit) => True) (PostW D cA sz (w_X6_hasPlaceFor cA h_t a_t o_t) (w_X6_hasPlaceFor cA h_t a_t o_t')) (va_A (w_X6_hasPlaceFor cA h_t a_t o_t) sz)) 0 0 (va_A (w_X6_hasPlaceFor cA h_t a_t o_t) sz) := by
  refine z_start (cc := cX6_repeat) (maxL := 4) (ret := none) (lv0 := [(0, .ref h_t)]) (Qc := fun sz => va_Qv (fun (_ : Unit) => True) (PostW D cA sz (w_X6_hasPlaceFor cA h_t a_t o_t) (w_X6_hasPlaceFor cA h_t a_t o_t')) (va_A (w_X6_hasPlaceFor cA h_t a_t o_t) sz)) (free := fun sz => va_A (w_X6_hasPlaceFor cA h_t a_t o_t) sz) (by decide +kernel) rfl rfl (Nat.le_of_ble_eq_true rfl) ?_
  intro p e R s m args below meth c A Q hR hA hQ X hr hin
  unfold f_X6_repeat at hF
  refine z_aload_n X dX6_repeat_0 rfl 0 rfl ?_
  refine z_dup X dX6_repeat_1 rfl ?_
  refine z_get (v := .int (o_t 10 0)) X k_X6_repeat_121 0 rfl rfl dX6_repeat_2 ?_
  refine z_iconst (v := (1 : Int32)) X dX6_repeat_5 (by decide) ?_
  refine z_isub X dX6_repeat_6 ?_
  obtain ⟨o1, eo1, hF⟩ := nx_e hF
  refine z_put (ws' := (w_X6_hasPlaceFor cA h_t a_t o1)) X k_X6_repeat_121 tyX6 tyX6_ok nmX6 rfl rfl 0 rfl (Nat.le_of_ble_eq_true rfl) (by rw [eo1]; rfl) dX6_repeat_7 ?_
  refine z_aload_n X dX6_repeat_10 rfl 0 rfl ?_
  refine z_get (v := .int (o1 9 0)) X k_X6_repeat_118 0 rfl rfl dX6_repeat_11 ?_
  obtain ⟨x2, ex2, hF⟩ := nx_e hF
  refine z_nm ex2 ?_
  refine z_istore_n (lv' := [(1, .int x2), (0, .ref h_t)]) X dX6_repeat_14 rfl (by decide) rfl ?_
  refine z_iconst (v := (1 : Int32)) X dX6_repeat_15 (by decide) ?_
  refine z_istore_n (lv' := [(2, .int (1 : Int32)), (1, .int x2), (0, .ref h_t)]) X dX6_repeat_16 rfl (by decide) rfl ?_
  obtain ⟨o30, hL, hF⟩ := zb1_e hF
  have L31_x : ∀ (o30' : Ob), o30' = o30 → ZW p l e R s m args below meth c D A 4 0 0 Q (w_X6_hasPlaceFor cA h_t a_t o30') [] 67 [] := by
    intro o30' hz
    cases hz
    cases hF
    exact z_vret X hA hQ hr dX6_repeat_67 (Nat.le_refl _) (Nat.le_refl _)
  obtain ⟨B56, hBB56, hL⟩ := zl2_b hL
  have L31 : ∀ (n : Nat) (o28 : Ob) (k29 : Int32), zl2 B56 n o28 k29 = some o30 → ZW p l e R s m args below meth c D A 4 0 0 Q (w_X6_hasPlaceFor cA h_t a_t o28) [(0, .ref h_t), (1, .int x2), (2, .int k29)] 17 [] := by
    intro n
    induction n with
    | zero => intro o28 k29 hL; cases hL
    | succ n ih =>
      intro o28 k29 hL
      obtain ⟨zz32, hF, hL⟩ := zl2_e hL
      rw [hBB56] at hF
      refine z_iload_n X dX6_repeat_17 rfl 2 rfl ?_
      refine z_aload_n X dX6_repeat_18 rfl 0 rfl ?_
      refine z_get (v := .ref (a_t 11)) X k_X6_repeat_18 0 rfl rfl dX6_repeat_19 ?_
      refine z_aload_n X dX6_repeat_22 rfl 0 rfl ?_
      refine z_get (v := .int (o28 10 0)) X k_X6_repeat_121 0 rfl rfl dX6_repeat_23 ?_
      obtain ⟨g33, hF⟩ := gi_e hF
      refine z_iald X 3 rfl g33 dX6_repeat_26 ?_
      have hF := if_e hF
      refine z_icmp_ge (tgt := 67) X dX6_repeat_27 (by decide) (fun c55 => ?_) (fun c55 => ?_)
      · have hF := hF.1 c55
        cases hF
        have hL := Option.some.inj hL
        refine z_lv (lv' := []) [] rfl ?_
        exact L31_x o28 hL
      · have hF := hF.2 c55
        refine z_aload_n X dX6_repeat_30 rfl 0 rfl ?_
        refine z_get (v := .ref (a_t 12)) X k_X6_repeat_21 0 rfl rfl dX6_repeat_31 ?_
        refine z_aload_n X dX6_repeat_34 rfl 0 rfl ?_
        refine z_get (v := .int (o28 10 0)) X k_X6_repeat_121 0 rfl rfl dX6_repeat_35 ?_
        obtain ⟨g34, hF⟩ := gi_e hF
        refine z_iald X 4 rfl g34 dX6_repeat_38 ?_
        obtain ⟨x35, ex35, hF⟩ := nx_e hF
        refine z_nm ex35 ?_
        refine z_istore_n (lv' := [(3, .int x35), (0, .ref h_t), (1, .int x2), (2, .int k29)]) X dX6_repeat_39 rfl (by decide) rfl ?_
        obtain ⟨o45, hL, hF⟩ := zb1_e hF
        have L47_x : ∀ (o45' : Ob), o45' = o45 → ZW p l e R s m args below meth c D A 4 0 0 Q (w_X6_hasPlaceFor cA h_t a_t o45') [(0, .ref h_t), (1, .int x2), (2, .int k29)] 61 [] := by
          intro o45' hz
          cases hz
          obtain ⟨x46, ex46, hF⟩ := nx_e hF
          refine z_iinc (v := x46) (lv' := [(2, .int x46), (0, .ref h_t), (1, .int x2)]) (j := 2) X dX6_repeat_61 rfl (by rw [ex46]; rfl) (by decide) rfl ?_
          refine z_goto (tgt := 17) X dX6_repeat_64 (by decide) ?_
          cases hF
          refine z_lv (lv' := [(0, .ref h_t), (1, .int x2), (2, .int x46)]) [1, 2, 0] rfl ?_
          exact ih o45 x46 hL
        obtain ⟨B54, hBB54, hL⟩ := zl2_b hL
        have L47 : ∀ (n : Nat) (o43 : Ob) (k44 : Int32), zl2 B54 n o43 k44 = some o45 → ZW p l e R s m args below meth c D A 4 0 0 Q (w_X6_hasPlaceFor cA h_t a_t o43) [(0, .ref h_t), (1, .int x2), (2, .int k29), (3, .int k44)] 40 [] := by
          intro n
          induction n with
          | zero => intro o43 k44 hL; cases hL
          | succ n ih =>
            intro o43 k44 hL
            obtain ⟨zz48, hF, hL⟩ := zl2_e hL
            rw [hBB54] at hF
            refine z_iload_n X dX6_repeat_40 rfl 3 rfl ?_
            refine z_iload_n X dX6_repeat_41 rfl 1 rfl ?_
            have hF := if_e hF
            refine z_icmp_ge (tgt := 61) X dX6_repeat_42 (by decide) (fun c53 => ?_) (fun c53 => ?_)
            · have hF := hF.1 c53
              cases hF
              have hL := Option.some.inj hL
              refine z_lv (lv' := [(0, .ref h_t), (1, .int x2), (2, .int k29)]) [0, 1, 2] rfl ?_
              exact L47_x o43 hL
            · have hF := hF.2 c53
              refine z_aload_n X dX6_repeat_45 rfl 0 rfl ?_
              refine z_aload_n X dX6_repeat_46 rfl 0 rfl ?_
              refine z_get (v := .ref (a_t 8)) X k_X6_repeat_15 0 rfl rfl dX6_repeat_47 ?_
              refine z_iload_n X dX6_repeat_50 rfl 3 rfl ?_
              obtain ⟨g49, hF⟩ := gi_e hF
              refine z_iald X 2 rfl g49 dX6_repeat_51 ?_
              obtain ⟨o50, hc51, hF⟩ := zb1_e hF
              refine z_Vv (As := [.int (o43 8 (Int32.toNatClampNeg k44))]) (rest := []) (wc := (w_X6_hasPlaceFor cA h_t a_t o43)) (wc' := (w_X6_hasPlaceFor cA h_t a_t o50)) (ws' := (w_X6_hasPlaceFor cA h_t a_t o50)) X (cwV 1 X.2.2.2.2.1 gX6_repeat_X6_addStep rfl rfl rfl (by decide +kernel) (by rw [hR]; exact ⟨Nat.le_of_ble_eq_true rfl, Nat.le_of_ble_eq_true rfl⟩)) (fun sz => c_X6_addStep l D cA g sz h_t a_t o43 (o43 8 (Int32.toNatClampNeg k44)) o50 hc51) [0, 1, 2, 3, 4] [1000, 1001, 1002, 1003, 1004] rfl (by decide) rfl (by decide) rfl rfl rfl rfl rfl rfl (Nat.le_of_ble_eq_true rfl) dX6_repeat_52 ⟨Nat.zero_le _, Nat.zero_le _⟩ ?_
              obtain ⟨x52, ex52, hF⟩ := nx_e hF
              refine z_iinc (v := x52) (lv' := [(3, .int x52), (0, .ref h_t), (1, .int x2), (2, .int k29)]) (j := 3) X dX6_repeat_55 rfl (by rw [ex52]; rfl) (by decide) rfl ?_
              refine z_goto (tgt := 40) X dX6_repeat_58 (by decide) ?_
              cases hF
              refine z_lv (lv' := [(0, .ref h_t), (1, .int x2), (2, .int k29), (3, .int x52)]) [1, 2, 3, 0] rfl ?_
              exact ih o50 x52 hL
        refine z_lv (lv' := [(0, .ref h_t), (1, .int x2), (2, .int k29), (3, .int x35)]) [1, 2, 3, 0] rfl ?_
        exact L47 FU o28 x35 hL
  refine z_lv (lv' := [(0, .ref h_t), (1, .int x2), (2, .int (1 : Int32))]) [2, 1, 0] rfl ?_
  exact L31 FU o1 (1 : Int32) hL
set_option maxRecDepth 20000 in
theorem h_X6_readStep_X6 : ∀ w ∈ wsX60, w ∈ wsX6_readStep := by decide +kernel
set_option maxRecDepth 20000 in
theorem k_X6_readStep_50 : ZF wsX6_readStep RX6 50 6 13 RX6 TX6 17 := ⟨rfl, by decide, h_X6_readStep_X6, by decide +kernel⟩
set_option maxRecDepth 20000 in
theorem k_X6_readStep_97 : ZF wsX6_readStep RX6 97 6 16 RX6 TX6 17 := ⟨rfl, by decide, h_X6_readStep_X6, by decide +kernel⟩
set_option maxRecDepth 20000 in
theorem k_X6_readStep_121 : ZF wsX6_readStep RX6 121 6 10 RX6 TX6 17 := ⟨rfl, by decide, h_X6_readStep_X6, by decide +kernel⟩
set_option maxHeartbeats 8000000 in
set_option maxRecDepth 100000 in
theorem c_X6_readStep (l : Launch) (D : va_G) (cA : Nat → ClassId) (g : Nat → Nat) (sz : Nat) (h_t : Nat) (a_t : Nat → Nat) (o_t : Ob) (h_p1 : Nat) (a_p1 : Nat → Nat) (o_p1 : Ob)  (o_t' : Ob) (rv : Int32) (hF : f_X6_readStep o_t o_p1 = some (o_t', rv)) : Met l yX6_readStep wsX6_readStep ({ frames := 6, cells := 0, slots := 0, locals := 127 }) (va_Pc [.ref h_t, .ref h_p1] (PreW D cA g sz (w_X6_readItem cA h_t a_t o_t h_p1 a_p1 o_p1))) (va_Qi (fun (r : Int32) (_ : Unit) => r = rv) (PostW D cA sz (w_X6_readItem cA h_t a_t o_t h_p1 a_p1 o_p1) (w_X6_readItem cA h_t a_t o_t' h_p1 a_p1 o_p1)) (va_A (w_X6_readItem cA h_t a_t o_t h_p1 a_p1 o_p1) sz)) 0 0 (va_A (w_X6_readItem cA h_t a_t o_t h_p1 a_p1 o_p1) sz) := by
  refine z_start (cc := cX6_readStep) (maxL := 2) (ret := (some .boolean)) (lv0 := [(0, .ref h_t), (1, .ref h_p1)]) (Qc := fun sz => va_Qi (fun (r : Int32) (_ : Unit) => r = rv) (PostW D cA sz (w_X6_readItem cA h_t a_t o_t h_p1 a_p1 o_p1) (w_X6_readItem cA h_t a_t o_t' h_p1 a_p1 o_p1)) (va_A (w_X6_readItem cA h_t a_t o_t h_p1 a_p1 o_p1) sz)) (free := fun sz => va_A (w_X6_readItem cA h_t a_t o_t h_p1 a_p1 o_p1) sz) (by decide +kernel) rfl rfl (Nat.le_of_ble_eq_true rfl) ?_
  intro p e R s m args below meth c A Q hR hA hQ X hr hin
  unfold f_X6_readStep at hF
  refine z_aload_n X dX6_readStep_0 rfl 0 rfl ?_
  refine z_lds (i := 6) X (by decide) rfl rfl dX6_readStep_1 ?_
  obtain ⟨r1, hc2, hF⟩ := zb1_e hF
  refine z_Vi (As := [.ref (g (1 + 6))]) (rest := []) (wc := (w_X6_hasPlaceFor cA h_t a_t o_t)) (wc' := (w_X6_hasPlaceFor cA h_t a_t o_t)) (ws' := (w_X6_readItem cA h_t a_t o_t h_p1 a_p1 o_p1)) (rv := r1) X (cwV 1 X.2.2.2.2.1 gX6_readStep_X6_says rfl rfl rfl (by decide +kernel) (by rw [hR]; exact ⟨Nat.le_of_ble_eq_true rfl, Nat.le_of_ble_eq_true rfl⟩)) (fun sz => c_X6_says__6 l D cA g sz h_t a_t o_t r1 hc2) [0, 1, 2, 3, 4] [1000, 1001, 1002, 1003, 1004, 5, 6, 7, 8, 9] rfl (by decide) rfl (by decide) rfl rfl rfl rfl rfl rfl (Nat.le_of_ble_eq_true rfl) dX6_readStep_3 ⟨Nat.zero_le _, Nat.zero_le _⟩ ?_
  have hF := if_e hF
  refine z_if_eq (tgt := 14) X dX6_readStep_6 (by decide) (fun c64 => ?_) (fun c64 => ?_)
  · have hF := hF.1 c64
    refine z_aload_n X dX6_readStep_14 rfl 0 rfl ?_
    refine z_get (v := .int (o_t 13 0)) X k_X6_readStep_50 0 rfl rfl dX6_readStep_15 ?_
    refine z_bipush (v := (93 : Int32)) X dX6_readStep_18 (by decide) ?_
    obtain ⟨K31, eK31, hF⟩ := nx_e hF
    have K31_l : ∀ (q30 : Ob), K31 q30 = some (o_t', rv) → ZW p l e R s m args below meth c D A 2 0 0 Q (w_X6_readItem cA h_t a_t q30 h_p1 a_p1 o_p1) [(0, .ref h_t)] 80 [] := by
      intro q30 hF
      rw [eK31] at hF
      refine z_aload_n X dX6_readStep_80 rfl 0 rfl ?_
      obtain ⟨o32, hc33, hF⟩ := zb1_e hF
      refine z_Vv (As := []) (rest := []) (wc := (w_X6_hasPlaceFor cA h_t a_t q30)) (wc' := (w_X6_hasPlaceFor cA h_t a_t o32)) (ws' := (w_X6_readItem cA h_t a_t o32 h_p1 a_p1 o_p1)) X (cwV 0 X.2.2.2.2.1 gX6_readStep_X6_advance rfl rfl rfl (by decide +kernel) (by rw [hR]; exact ⟨Nat.le_of_ble_eq_true rfl, Nat.le_of_ble_eq_true rfl⟩)) (fun sz => c_X6_advance l D cA g sz h_t a_t q30 o32 hc33) [0, 1, 2, 3, 4] [1000, 1001, 1002, 1003, 1004, 5, 6, 7, 8, 9] rfl (by decide) rfl (by decide) rfl rfl rfl rfl rfl rfl (Nat.le_of_ble_eq_true rfl) dX6_readStep_81 ⟨Nat.zero_le _, Nat.zero_le _⟩ ?_
      refine z_aload_n X dX6_readStep_84 rfl 0 rfl ?_
      refine z_bipush (v := (59 : Int32)) X dX6_readStep_85 (by decide) ?_
      obtain ⟨o34, r35, hc36, hF⟩ := zb2_e hF
      refine z_Vi (As := [.int (59 : Int32)]) (rest := []) (wc := (w_X6_hasPlaceFor cA h_t a_t o32)) (wc' := (w_X6_hasPlaceFor cA h_t a_t o34)) (ws' := (w_X6_readItem cA h_t a_t o34 h_p1 a_p1 o_p1)) (rv := r35) X (cwV 1 X.2.2.2.2.1 gX6_readStep_X6_take rfl rfl rfl (by decide +kernel) (by rw [hR]; exact ⟨Nat.le_of_ble_eq_true rfl, Nat.le_of_ble_eq_true rfl⟩)) (fun sz => c_X6_take l D cA g sz h_t a_t o32 (59 : Int32) o34 r35 hc36) [0, 1, 2, 3, 4] [1000, 1001, 1002, 1003, 1004, 5, 6, 7, 8, 9] rfl (by decide) rfl (by decide) rfl rfl rfl rfl rfl rfl (Nat.le_of_ble_eq_true rfl) dX6_readStep_87 ⟨Nat.zero_le _, Nat.zero_le _⟩ ?_
      obtain ⟨g37, hF⟩ := gz_e hF
      cases hF
      exact z_zret X hA hQ hr g37  rfl dX6_readStep_90 (Nat.le_refl _) (Nat.le_refl _)
    obtain ⟨K7, eK7, hF⟩ := nx_e hF
    have K7_l : ∀ (_ : Unit), K7 () = some (o_t', rv) → ZW p l e R s m args below meth c D A 2 0 0 Q (w_X6_readItem cA h_t a_t o_t h_p1 a_p1 o_p1) [(0, .ref h_t), (1, .ref h_p1)] 37 [] := by
      intro _ hF
      rw [eK7] at hF
      refine z_aload_n X dX6_readStep_37 rfl 0 rfl ?_
      obtain ⟨r38, hc39, hF⟩ := zb1_e hF
      refine z_Vi (As := []) (rest := []) (wc := (w_X6_hasPlaceFor cA h_t a_t o_t)) (wc' := (w_X6_hasPlaceFor cA h_t a_t o_t)) (ws' := (w_X6_readItem cA h_t a_t o_t h_p1 a_p1 o_p1)) (rv := r38) X (cwV 0 X.2.2.2.2.1 gX6_readStep_X6_isName rfl rfl rfl (by decide +kernel) (by rw [hR]; exact ⟨Nat.le_of_ble_eq_true rfl, Nat.le_of_ble_eq_true rfl⟩)) (fun sz => c_X6_isName l D cA g sz h_t a_t o_t r38 hc39) [0, 1, 2, 3, 4] [1000, 1001, 1002, 1003, 1004, 5, 6, 7, 8, 9] rfl (by decide) rfl (by decide) rfl rfl rfl rfl rfl rfl (Nat.le_of_ble_eq_true rfl) dX6_readStep_38 ⟨Nat.zero_le _, Nat.zero_le _⟩ ?_
      have hF := if_e hF
      refine z_if_ne (tgt := 50) X dX6_readStep_41 (by decide) (fun c55 => ?_) (fun c55 => ?_)
      · have hF := hF.2 c55
        refine z_aload_n X dX6_readStep_50 rfl 1 rfl ?_
        refine z_aload_n X dX6_readStep_51 rfl 0 rfl ?_
        refine z_get (v := .int (o_t 16 0)) X k_X6_readStep_97 0 rfl rfl dX6_readStep_52 ?_
        obtain ⟨r40, hc41, hF⟩ := zb1_e hF
        refine z_Vi (As := [.int (o_t 16 0)]) (rest := []) (wc := (w_X10_numberOf cA h_p1 a_p1 o_p1)) (wc' := (w_X10_numberOf cA h_p1 a_p1 o_p1)) (ws' := (w_X6_readItem cA h_t a_t o_t h_p1 a_p1 o_p1)) (rv := r40) X (cwV 1 X.2.2.2.2.1 gX6_readStep_X10_numberOf rfl rfl rfl (by decide +kernel) (by rw [hR]; exact ⟨Nat.le_of_ble_eq_true rfl, Nat.le_of_ble_eq_true rfl⟩)) (fun sz => c_X10_numberOf l D cA g sz h_p1 a_p1 o_p1 (o_t 16 0) r40 hc41) [5, 6, 7, 8, 9] [0, 1, 2, 3, 4, 1000, 1001, 1002, 1003, 1004] rfl (by decide) rfl (by decide) rfl rfl rfl rfl rfl rfl (Nat.le_of_ble_eq_true rfl) dX6_readStep_55 ⟨Nat.zero_le _, Nat.zero_le _⟩ ?_
        refine z_iconst (v := (-1 : Int32)) X dX6_readStep_58 (by decide) ?_
        have hF := if_e hF
        refine z_icmp_ne (tgt := 68) X dX6_readStep_59 (by decide) (fun c50 => ?_) (fun c50 => ?_)
        · have hF := hF.2 c50
          refine z_aload_n X dX6_readStep_68 rfl 0 rfl ?_
          refine z_aload_n X dX6_readStep_69 rfl 1 rfl ?_
          refine z_aload_n X dX6_readStep_70 rfl 0 rfl ?_
          refine z_get (v := .int (o_t 16 0)) X k_X6_readStep_97 0 rfl rfl dX6_readStep_71 ?_
          obtain ⟨r42, hc43, hF⟩ := zb1_e hF
          refine z_Vi (As := [.int (o_t 16 0)]) (rest := [.ref h_t]) (wc := (w_X10_numberOf cA h_p1 a_p1 o_p1)) (wc' := (w_X10_numberOf cA h_p1 a_p1 o_p1)) (ws' := (w_X6_readItem cA h_t a_t o_t h_p1 a_p1 o_p1)) (rv := r42) X (cwV 1 X.2.2.2.2.1 gX6_readStep_X10_numberOf rfl rfl rfl (by decide +kernel) (by rw [hR]; exact ⟨Nat.le_of_ble_eq_true rfl, Nat.le_of_ble_eq_true rfl⟩)) (fun sz => c_X10_numberOf l D cA g sz h_p1 a_p1 o_p1 (o_t 16 0) r42 hc43) [5, 6, 7, 8, 9] [0, 1, 2, 3, 4, 1000, 1001, 1002, 1003, 1004] rfl (by decide) rfl (by decide) rfl rfl rfl rfl rfl rfl (Nat.le_of_ble_eq_true rfl) dX6_readStep_74 ⟨Nat.zero_le _, Nat.zero_le _⟩ ?_
          obtain ⟨o44, hc45, hF⟩ := zb1_e hF
          refine z_Vv (As := [.int r42]) (rest := []) (wc := (w_X6_hasPlaceFor cA h_t a_t o_t)) (wc' := (w_X6_hasPlaceFor cA h_t a_t o44)) (ws' := (w_X6_readItem cA h_t a_t o44 h_p1 a_p1 o_p1)) X (cwV 1 X.2.2.2.2.1 gX6_readStep_X6_addStep rfl rfl rfl (by decide +kernel) (by rw [hR]; exact ⟨Nat.le_of_ble_eq_true rfl, Nat.le_of_ble_eq_true rfl⟩)) (fun sz => c_X6_addStep l D cA g sz h_t a_t o_t r42 o44 hc45) [0, 1, 2, 3, 4] [1000, 1001, 1002, 1003, 1004, 5, 6, 7, 8, 9] rfl (by decide) rfl (by decide) rfl rfl rfl rfl rfl rfl (Nat.le_of_ble_eq_true rfl) dX6_readStep_77 ⟨Nat.zero_le _, Nat.zero_le _⟩ ?_
          refine z_lv (lv' := [(0, .ref h_t)]) [0] rfl ?_
          exact K31_l o44 hF
        · have hF := hF.1 c50
          refine z_aload_n X dX6_readStep_62 rfl 0 rfl ?_
          refine z_iconst (v := (3 : Int32)) X dX6_readStep_63 (by decide) ?_
          obtain ⟨o46, r47, hc48, hF⟩ := zb2_e hF
          refine z_Vi (As := [.int (3 : Int32)]) (rest := []) (wc := (w_X6_hasPlaceFor cA h_t a_t o_t)) (wc' := (w_X6_hasPlaceFor cA h_t a_t o46)) (ws' := (w_X6_readItem cA h_t a_t o46 h_p1 a_p1 o_p1)) (rv := r47) X (cwV 1 X.2.2.2.2.1 gX6_readStep_X6_fail rfl rfl rfl (by decide +kernel) (by rw [hR]; exact ⟨Nat.le_of_ble_eq_true rfl, Nat.le_of_ble_eq_true rfl⟩)) (fun sz => c_X6_fail l D cA g sz h_t a_t o_t (3 : Int32) o46 r47 hc48) [0, 1, 2, 3, 4] [1000, 1001, 1002, 1003, 1004, 5, 6, 7, 8, 9] rfl (by decide) rfl (by decide) rfl rfl rfl rfl rfl rfl (Nat.le_of_ble_eq_true rfl) dX6_readStep_64 ⟨Nat.zero_le _, Nat.zero_le _⟩ ?_
          obtain ⟨g49, hF⟩ := gz_e hF
          cases hF
          exact z_zret X hA hQ hr g49  rfl dX6_readStep_67 (Nat.le_refl _) (Nat.le_refl _)
      · have hF := hF.1 c55
        refine z_aload_n X dX6_readStep_44 rfl 0 rfl ?_
        refine z_iconst (v := (1 : Int32)) X dX6_readStep_45 (by decide) ?_
        obtain ⟨o51, r52, hc53, hF⟩ := zb2_e hF
        refine z_Vi (As := [.int (1 : Int32)]) (rest := []) (wc := (w_X6_hasPlaceFor cA h_t a_t o_t)) (wc' := (w_X6_hasPlaceFor cA h_t a_t o51)) (ws' := (w_X6_readItem cA h_t a_t o51 h_p1 a_p1 o_p1)) (rv := r52) X (cwV 1 X.2.2.2.2.1 gX6_readStep_X6_fail rfl rfl rfl (by decide +kernel) (by rw [hR]; exact ⟨Nat.le_of_ble_eq_true rfl, Nat.le_of_ble_eq_true rfl⟩)) (fun sz => c_X6_fail l D cA g sz h_t a_t o_t (1 : Int32) o51 r52 hc53) [0, 1, 2, 3, 4] [1000, 1001, 1002, 1003, 1004, 5, 6, 7, 8, 9] rfl (by decide) rfl (by decide) rfl rfl rfl rfl rfl rfl (Nat.le_of_ble_eq_true rfl) dX6_readStep_46 ⟨Nat.zero_le _, Nat.zero_le _⟩ ?_
        obtain ⟨g54, hF⟩ := gz_e hF
        cases hF
        exact z_zret X hA hQ hr g54  rfl dX6_readStep_49 (Nat.le_refl _) (Nat.le_refl _)
    have hF := if_e hF
    refine z_icmp_ne (tgt := 37) X dX6_readStep_20 (by decide) (fun c59 => ?_) (fun c59 => ?_)
    · have hF := hF.2 c59
      refine z_lv (lv' := [(0, .ref h_t), (1, .ref h_p1)]) [0, 1] rfl ?_
      exact K7_l () hF
    · have hF := hF.1 c59
      refine z_aload_n X dX6_readStep_23 rfl 0 rfl ?_
      refine z_get (v := .int (o_t 10 0)) X k_X6_readStep_121 0 rfl rfl dX6_readStep_24 ?_
      have hF := if_e hF
      refine z_if_le (tgt := 37) X dX6_readStep_27 (by decide) (fun c58 => ?_) (fun c58 => ?_)
      · have hF := hF.1 c58
        refine z_lv (lv' := [(0, .ref h_t), (1, .ref h_p1)]) [0, 1] rfl ?_
        exact K7_l () hF
      · have hF := hF.2 c58
        refine z_aload_n X dX6_readStep_30 rfl 0 rfl ?_
        obtain ⟨o56, hc57, hF⟩ := zb1_e hF
        refine z_Vv (As := []) (rest := []) (wc := (w_X6_hasPlaceFor cA h_t a_t o_t)) (wc' := (w_X6_hasPlaceFor cA h_t a_t o56)) (ws' := (w_X6_readItem cA h_t a_t o56 h_p1 a_p1 o_p1)) X (cwV 0 X.2.2.2.2.1 gX6_readStep_X6_repeat rfl rfl rfl (by decide +kernel) (by rw [hR]; exact ⟨Nat.le_of_ble_eq_true rfl, Nat.le_of_ble_eq_true rfl⟩)) (fun sz => c_X6_repeat l D cA g sz h_t a_t o_t o56 hc57) [0, 1, 2, 3, 4] [1000, 1001, 1002, 1003, 1004, 5, 6, 7, 8, 9] rfl (by decide) rfl (by decide) rfl rfl rfl rfl rfl rfl (Nat.le_of_ble_eq_true rfl) dX6_readStep_31 ⟨Nat.zero_le _, Nat.zero_le _⟩ ?_
        refine z_goto (tgt := 80) X dX6_readStep_34 (by decide) ?_
        refine z_lv (lv' := [(0, .ref h_t)]) [0] rfl ?_
        exact K31_l o56 hF
  · have hF := hF.2 c64
    refine z_aload_n X dX6_readStep_9 rfl 0 rfl ?_
    obtain ⟨o60, r61, hc62, hF⟩ := zb2_e hF
    refine z_Vi (As := []) (rest := []) (wc := (w_X6_hasPlaceFor cA h_t a_t o_t)) (wc' := (w_X6_hasPlaceFor cA h_t a_t o60)) (ws' := (w_X6_readItem cA h_t a_t o60 h_p1 a_p1 o_p1)) (rv := r61) X (cwV 0 X.2.2.2.2.1 gX6_readStep_X6_readAgain rfl rfl rfl (by decide +kernel) (by rw [hR]; exact ⟨Nat.le_of_ble_eq_true rfl, Nat.le_of_ble_eq_true rfl⟩)) (fun sz => c_X6_readAgain l D cA g sz h_t a_t o_t o60 r61 hc62) [0, 1, 2, 3, 4] [1000, 1001, 1002, 1003, 1004, 5, 6, 7, 8, 9] rfl (by decide) rfl (by decide) rfl rfl rfl rfl rfl rfl (Nat.le_of_ble_eq_true rfl) dX6_readStep_10 ⟨Nat.zero_le _, Nat.zero_le _⟩ ?_
    obtain ⟨g63, hF⟩ := gz_e hF
    cases hF
    exact z_zret X hA hQ hr g63  rfl dX6_readStep_13 (Nat.le_refl _) (Nat.le_refl _)
set_option maxRecDepth 20000 in
theorem h_X6_readSteps_X6 : ∀ w ∈ wsX60, w ∈ wsX6_readSteps := by decide +kernel
set_option maxRecDepth 20000 in
theorem k_X6_readSteps_50 : ZF wsX6_readSteps RX6 50 6 13 RX6 TX6 17 := ⟨rfl, by decide, h_X6_readSteps_X6, by decide +kernel⟩
set_option maxRecDepth 20000 in
theorem k_X6_readSteps_118 : ZF wsX6_readSteps RX6 118 6 9 RX6 TX6 17 := ⟨rfl, by decide, h_X6_readSteps_X6, by decide +kernel⟩
set_option maxRecDepth 20000 in
theorem k_X6_readSteps_121 : ZF wsX6_readSteps RX6 121 6 10 RX6 TX6 17 := ⟨rfl, by decide, h_X6_readSteps_X6, by decide +kernel⟩
set_option maxHeartbeats 8000000 in
set_option maxRecDepth 100000 in
theorem c_X6_readSteps (l : Launch) (D : va_G) (cA : Nat → ClassId) (g : Nat → Nat) (sz : Nat) (h_t : Nat) (a_t : Nat → Nat) (o_t : Ob) (h_p1 : Nat) (a_p1 : Nat → Nat) (o_p1 : Ob)  (o_t' : Ob) (rv : Int32) (hF : f_X6_readSteps o_t o_p1 = some (o_t', rv)) : Met l yX6_readSteps wsX6_readSteps ({ frames := 7, cells := 0, slots := 0, locals := 148 }) (va_Pc [.ref h_t, .ref h_p1] (PreW D cA g sz (w_X6_readItem cA h_t a_t o_t h_p1 a_p1 o_p1))) (va_Qi (fun (r : Int32) (_ : Unit) => r = rv) (PostW D cA sz (w_X6_readItem cA h_t a_t o_t h_p1 a_p1 o_p1) (w_X6_readItem cA h_t a_t o_t' h_p1 a_p1 o_p1)) (va_A (w_X6_readItem cA h_t a_t o_t h_p1 a_p1 o_p1) sz)) 0 0 (va_A (w_X6_readItem cA h_t a_t o_t h_p1 a_p1 o_p1) sz) := by
  refine z_start (cc := cX6_readSteps) (maxL := 3) (ret := (some .boolean)) (lv0 := [(0, .ref h_t), (1, .ref h_p1)]) (Qc := fun sz => va_Qi (fun (r : Int32) (_ : Unit) => r = rv) (PostW D cA sz (w_X6_readItem cA h_t a_t o_t h_p1 a_p1 o_p1) (w_X6_readItem cA h_t a_t o_t' h_p1 a_p1 o_p1)) (va_A (w_X6_readItem cA h_t a_t o_t h_p1 a_p1 o_p1) sz)) (free := fun sz => va_A (w_X6_readItem cA h_t a_t o_t h_p1 a_p1 o_p1) sz) (by decide +kernel) rfl rfl (Nat.le_of_ble_eq_true rfl) ?_
  intro p e R s m args below meth c A Q hR hA hQ X hr hin
  unfold f_X6_readSteps at hF
  refine z_aload_n X dX6_readSteps_0 rfl 0 rfl ?_
  refine z_iconst (v := (0 : Int32)) X dX6_readSteps_1 (by decide) ?_
  obtain ⟨o1, eo1, hF⟩ := nx_e hF
  refine z_put (ws' := (w_X6_readItem cA h_t a_t o1 h_p1 a_p1 o_p1)) X k_X6_readSteps_118 tyX6 tyX6_ok nmX6 rfl rfl 0 rfl (Nat.le_of_ble_eq_true rfl) (by rw [eo1]; rfl) dX6_readSteps_2 ?_
  refine z_aload_n X dX6_readSteps_5 rfl 0 rfl ?_
  refine z_iconst (v := (0 : Int32)) X dX6_readSteps_6 (by decide) ?_
  obtain ⟨o2, eo2, hF⟩ := nx_e hF
  refine z_put (ws' := (w_X6_readItem cA h_t a_t o2 h_p1 a_p1 o_p1)) X k_X6_readSteps_121 tyX6 tyX6_ok nmX6 rfl rfl 0 rfl (Nat.le_of_ble_eq_true rfl) (by rw [eo2]; rfl) dX6_readSteps_7 ?_
  refine z_aload_n X dX6_readSteps_10 rfl 0 rfl ?_
  obtain ⟨o3, r4, hc5, hF⟩ := zb2_e hF
  refine z_Vi (As := []) (rest := []) (wc := (w_X6_hasPlaceFor cA h_t a_t o2)) (wc' := (w_X6_hasPlaceFor cA h_t a_t o3)) (ws' := (w_X6_readItem cA h_t a_t o3 h_p1 a_p1 o_p1)) (rv := r4) X (cwV 0 X.2.2.2.2.1 gX6_readSteps_X6_start rfl rfl rfl (by decide +kernel) (by rw [hR]; exact ⟨Nat.le_of_ble_eq_true rfl, Nat.le_of_ble_eq_true rfl⟩)) (fun sz => c_X6_start l D cA g sz h_t a_t o2 o3 r4 hc5) [0, 1, 2, 3, 4] [1000, 1001, 1002, 1003, 1004, 5, 6, 7, 8, 9] rfl (by decide) rfl (by decide) rfl rfl rfl rfl rfl rfl (Nat.le_of_ble_eq_true rfl) dX6_readSteps_11 ⟨Nat.zero_le _, Nat.zero_le _⟩ ?_
  have hF := if_e hF
  refine z_if_ne (tgt := 19) X dX6_readSteps_14 (by decide) (fun c38 => ?_) (fun c38 => ?_)
  · have hF := hF.2 c38
    refine z_iconst (v := (0 : Int32)) X dX6_readSteps_19 (by decide) ?_
    refine z_istore_n (lv' := [(2, .int (0 : Int32)), (0, .ref h_t), (1, .ref h_p1)]) X dX6_readSteps_20 rfl (by decide) rfl ?_
    obtain ⟨z36, hL, hFx, L23_r⟩ := ze1_e hF
    have L23_x : ∀ (o22 : Ob), z36 = .inl o22 → ZW p l e R s m args below meth c D A 3 0 0 Q (w_X6_readItem cA h_t a_t o22 h_p1 a_p1 o_p1) [] 59 [] := by
      intro o22 hz
      have hF := hFx o22 hz
      refine z_iconst (v := (1 : Int32)) X dX6_readSteps_59 (by decide) ?_
      cases hF
      exact z_zret X hA hQ hr (Or.inr rfl)  rfl dX6_readSteps_60 (Nat.le_refl _) (Nat.le_refl _)
    obtain ⟨B37, hBB37, hL⟩ := zl2_b hL
    have L23 : ∀ (n : Nat) (o20 : Ob) (k21 : Int32), zl2 B37 n o20 k21 = some z36 → ZW p l e R s m args below meth c D A 3 0 0 Q (w_X6_readItem cA h_t a_t o20 h_p1 a_p1 o_p1) [(0, .ref h_t), (1, .ref h_p1), (2, .int k21)] 21 [] := by
      intro n
      induction n with
      | zero => intro o20 k21 hL; cases hL
      | succ n ih =>
        intro o20 k21 hL
        obtain ⟨zz24, hF, hL⟩ := zl2_e hL
        rw [hBB37] at hF
        refine z_iload_n X dX6_readSteps_21 rfl 2 rfl ?_
        refine z_sipush (v := (400 : Int32)) X dX6_readSteps_22 (by decide) ?_
        have hF := if_e hF
        refine z_icmp_ge (tgt := 59) X dX6_readSteps_25 (by decide) (fun c35 => ?_) (fun c35 => ?_)
        · have hF := hF.1 c35
          cases hF
          have hL := Option.some.inj hL
          refine z_lv (lv' := []) [] rfl ?_
          exact L23_x o20 hL.symm
        · have hF := hF.2 c35
          refine z_aload_n X dX6_readSteps_28 rfl 0 rfl ?_
          refine z_get (v := .int (o20 13 0)) X k_X6_readSteps_50 0 rfl rfl dX6_readSteps_29 ?_
          refine z_iconst (v := (1 : Int32)) X dX6_readSteps_32 (by decide) ?_
          obtain ⟨K27, eK27, hF⟩ := nx_e hF
          have K27_l : ∀ (_ : Unit), K27 () = some zz24 → ZW p l e R s m args below meth c D A 3 0 0 Q (w_X6_readItem cA h_t a_t o20 h_p1 a_p1 o_p1) [(0, .ref h_t), (1, .ref h_p1), (2, .int k21)] 43 [] := by
            intro _ hF
            rw [eK27] at hF
            refine z_aload_n X dX6_readSteps_43 rfl 0 rfl ?_
            refine z_aload_n X dX6_readSteps_44 rfl 1 rfl ?_
            obtain ⟨o28, r29, hc30, hF⟩ := zb2_e hF
            refine z_Vi (As := [.ref h_p1]) (rest := []) (wc := (w_X6_readItem cA h_t a_t o20 h_p1 a_p1 o_p1)) (wc' := (w_X6_readItem cA h_t a_t o28 h_p1 a_p1 o_p1)) (ws' := (w_X6_readItem cA h_t a_t o28 h_p1 a_p1 o_p1)) (rv := r29) X (cwV 1 X.2.2.2.2.1 gX6_readSteps_X6_readStep rfl rfl rfl (by decide +kernel) (by rw [hR]; exact ⟨Nat.le_of_ble_eq_true rfl, Nat.le_of_ble_eq_true rfl⟩)) (fun sz => c_X6_readStep l D cA g sz h_t a_t o20 h_p1 a_p1 o_p1 o28 r29 hc30) [0, 1, 2, 3, 4, 5, 6, 7, 8, 9] [1000, 1001, 1002, 1003, 1004, 1005, 1006, 1007, 1008, 1009] rfl (by decide) rfl (by decide) rfl rfl rfl rfl rfl rfl (Nat.le_of_ble_eq_true rfl) dX6_readSteps_45 ⟨Nat.zero_le _, Nat.zero_le _⟩ ?_
            have hF := if_e hF
            refine z_if_ne (tgt := 53) X dX6_readSteps_48 (by decide) (fun c32 => ?_) (fun c32 => ?_)
            · have hF := hF.2 c32
              obtain ⟨x31, ex31, hF⟩ := nx_e hF
              refine z_iinc (v := x31) (lv' := [(2, .int x31), (0, .ref h_t), (1, .ref h_p1)]) (j := 2) X dX6_readSteps_53 rfl (by rw [ex31]; rfl) (by decide) rfl ?_
              refine z_goto (tgt := 21) X dX6_readSteps_56 (by decide) ?_
              cases hF
              refine z_lv (lv' := [(0, .ref h_t), (1, .ref h_p1), (2, .int x31)]) [1, 2, 0] rfl ?_
              exact ih o28 x31 hL
            · have hF := hF.1 c32
              refine z_iconst (v := (0 : Int32)) X dX6_readSteps_51 (by decide) ?_
              cases hF
              have hL := (Option.some.inj hL).symm
              have hF := L23_r _ hL
              cases hF
              exact z_zret X hA hQ hr (Or.inl rfl)  rfl dX6_readSteps_52 (Nat.le_refl _) (Nat.le_refl _)
          have hF := if_e hF
          refine z_icmp_ne (tgt := 43) X dX6_readSteps_33 (by decide) (fun c34 => ?_) (fun c34 => ?_)
          · have hF := hF.2 c34
            refine z_lv (lv' := [(0, .ref h_t), (1, .ref h_p1), (2, .int k21)]) [0, 1, 2] rfl ?_
            exact K27_l () hF
          · have hF := hF.1 c34
            refine z_aload_n X dX6_readSteps_36 rfl 0 rfl ?_
            refine z_get (v := .int (o20 10 0)) X k_X6_readSteps_121 0 rfl rfl dX6_readSteps_37 ?_
            have hF := if_e hF
            refine z_if_le (tgt := 59) X dX6_readSteps_40 (by decide) (fun c33 => ?_) (fun c33 => ?_)
            · have hF := hF.1 c33
              cases hF
              have hL := Option.some.inj hL
              refine z_lv (lv' := []) [] rfl ?_
              exact L23_x o20 hL.symm
            · have hF := hF.2 c33
              refine z_lv (lv' := [(0, .ref h_t), (1, .ref h_p1), (2, .int k21)]) [0, 1, 2] rfl ?_
              exact K27_l () hF
    refine z_lv (lv' := [(0, .ref h_t), (1, .ref h_p1), (2, .int (0 : Int32))]) [1, 2, 0] rfl ?_
    exact L23 FU o3 (0 : Int32) hL
  · have hF := hF.1 c38
    refine z_iconst (v := (0 : Int32)) X dX6_readSteps_17 (by decide) ?_
    cases hF
    exact z_zret X hA hQ hr (Or.inl rfl)  rfl dX6_readSteps_18 (Nat.le_refl _) (Nat.le_refl _)
abbrev w_X7_canGo (cA : Nat → ClassId) (h_t : Nat) (a_t : Nat → Nat) (o_t : Ob) : va_W := [(h_t, .inr (7, [.int (o_t 0 0), .ref (a_t 1), .ref (a_t 2), .ref (a_t 3), .int (o_t 4 0), .int (o_t 5 0), .int (o_t 6 0)])), (a_t 1, .inl (cA 0, 8, .inl (o_t 1))), (a_t 2, .inl (cA 0, 256, .inl (o_t 2))), (a_t 3, .inl (cA 0, 256, .inl (o_t 3)))]
set_option maxRecDepth 20000 in
theorem h_X7_canGo_X7 : ∀ w ∈ wsX70, w ∈ wsX7_canGo := by decide +kernel
set_option maxRecDepth 20000 in
theorem k_X7_canGo_15 : ZF wsX7_canGo RX7 15 7 2 RX7 TX7 7 := ⟨rfl, by decide, h_X7_canGo_X7, by decide +kernel⟩
set_option maxRecDepth 20000 in
theorem k_X7_canGo_21 : ZF wsX7_canGo RX7 21 7 4 RX7 TX7 7 := ⟨rfl, by decide, h_X7_canGo_X7, by decide +kernel⟩
set_option maxRecDepth 20000 in
theorem k_X7_canGo_25 : ZF wsX7_canGo RX7 25 7 5 RX7 TX7 7 := ⟨rfl, by decide, h_X7_canGo_X7, by decide +kernel⟩
set_option maxRecDepth 20000 in
theorem k_X7_canGo_33 : ZF wsX7_canGo RX7 33 7 6 RX7 TX7 7 := ⟨rfl, by decide, h_X7_canGo_X7, by decide +kernel⟩
set_option maxHeartbeats 8000000 in
set_option maxRecDepth 100000 in
theorem c_X7_canGo (l : Launch) (D : va_G) (cA : Nat → ClassId) (g : Nat → Nat) (sz : Nat) (h_t : Nat) (a_t : Nat → Nat) (o_t : Ob) (v1 : Int32) (v2 : Int32) (rv : Int32) (hF : f_X7_canGo o_t v1 v2 = some rv) : Met l yX7_canGo wsX7_canGo ({ frames := 0, cells := 0, slots := 0, locals := 0 }) (va_Pc [.ref h_t, .int v1, .int v2] (PreW D cA g sz (w_X7_canGo cA h_t a_t o_t))) (va_Qi (fun (r : Int32) (_ : Unit) => r = rv) (PostW D cA sz (w_X7_canGo cA h_t a_t o_t) (w_X7_canGo cA h_t a_t o_t)) (va_A (w_X7_canGo cA h_t a_t o_t) sz)) 0 0 (va_A (w_X7_canGo cA h_t a_t o_t) sz) := by
  refine z_start (cc := cX7_canGo) (maxL := 3) (ret := (some .boolean)) (lv0 := [(0, .ref h_t), (1, .int v1), (2, .int v2)]) (Qc := fun sz => va_Qi (fun (r : Int32) (_ : Unit) => r = rv) (PostW D cA sz (w_X7_canGo cA h_t a_t o_t) (w_X7_canGo cA h_t a_t o_t)) (va_A (w_X7_canGo cA h_t a_t o_t) sz)) (free := fun sz => va_A (w_X7_canGo cA h_t a_t o_t) sz) (by decide +kernel) rfl rfl (Nat.le_of_ble_eq_true rfl) ?_
  intro p e R s m args below meth c A Q hR hA hQ X hr hin
  unfold f_X7_canGo at hF
  refine z_iload_n X dX7_canGo_0 rfl 1 rfl ?_
  refine z_iload_n X dX7_canGo_1 rfl 2 rfl ?_
  refine z_iconst (v := (-1 : Int32)) X dX7_canGo_2 (by decide) ?_
  refine z_ixor X dX7_canGo_3 ?_
  refine z_iand X dX7_canGo_4 ?_
  have hF := if_e hF
  refine z_if_ne (tgt := 45) X dX7_canGo_5 (by decide) (fun c5 => ?_) (fun c5 => ?_)
  · have hF := hF.2 c5
    refine z_iconst (v := (0 : Int32)) X dX7_canGo_45 (by decide) ?_
    cases hF
    exact z_zret X hA hQ hr (Or.inl rfl)  rfl dX7_canGo_46 (Nat.le_refl _) (Nat.le_refl _)
  · have hF := hF.1 c5
    refine z_aload_n X dX7_canGo_8 rfl 0 rfl ?_
    refine z_get (v := .ref (a_t 2)) X k_X7_canGo_15 0 rfl rfl dX7_canGo_9 ?_
    refine z_iload_n X dX7_canGo_12 rfl 1 rfl ?_
    obtain ⟨g1, hF⟩ := gi_e hF
    refine z_iald X 2 rfl g1 dX7_canGo_13 ?_
    refine z_aload_n X dX7_canGo_14 rfl 0 rfl ?_
    refine z_get (v := .int (o_t 5 0)) X k_X7_canGo_25 0 rfl rfl dX7_canGo_15 ?_
    have hF := if_e hF
    refine z_icmp_gt (tgt := 45) X dX7_canGo_18 (by decide) (fun c4 => ?_) (fun c4 => ?_)
    · have hF := hF.1 c4
      refine z_iconst (v := (0 : Int32)) X dX7_canGo_45 (by decide) ?_
      cases hF
      exact z_zret X hA hQ hr (Or.inl rfl)  rfl dX7_canGo_46 (Nat.le_refl _) (Nat.le_refl _)
    · have hF := hF.2 c4
      refine z_aload_n X dX7_canGo_21 rfl 0 rfl ?_
      refine z_get (v := .ref (a_t 2)) X k_X7_canGo_15 0 rfl rfl dX7_canGo_22 ?_
      refine z_aload_n X dX7_canGo_25 rfl 0 rfl ?_
      refine z_get (v := .int (o_t 4 0)) X k_X7_canGo_21 0 rfl rfl dX7_canGo_26 ?_
      refine z_iload_n X dX7_canGo_29 rfl 2 rfl ?_
      refine z_ixor X dX7_canGo_30 ?_
      refine z_iload_n X dX7_canGo_31 rfl 1 rfl ?_
      refine z_ixor X dX7_canGo_32 ?_
      obtain ⟨g2, hF⟩ := gi_e hF
      refine z_iald X 2 rfl g2 dX7_canGo_33 ?_
      refine z_aload_n X dX7_canGo_34 rfl 0 rfl ?_
      refine z_get (v := .int (o_t 6 0)) X k_X7_canGo_33 0 rfl rfl dX7_canGo_35 ?_
      have hF := if_e hF
      refine z_icmp_gt (tgt := 45) X dX7_canGo_38 (by decide) (fun c3 => ?_) (fun c3 => ?_)
      · have hF := hF.1 c3
        refine z_iconst (v := (0 : Int32)) X dX7_canGo_45 (by decide) ?_
        cases hF
        exact z_zret X hA hQ hr (Or.inl rfl)  rfl dX7_canGo_46 (Nat.le_refl _) (Nat.le_refl _)
      · have hF := hF.2 c3
        refine z_iconst (v := (1 : Int32)) X dX7_canGo_41 (by decide) ?_
        refine z_goto (tgt := 46) X dX7_canGo_42 (by decide) ?_
        cases hF
        exact z_zret X hA hQ hr (Or.inr rfl)  rfl dX7_canGo_46 (Nat.le_refl _) (Nat.le_refl _)
set_option maxRecDepth 20000 in
theorem h_X7_needOf_X7 : ∀ w ∈ wsX70, w ∈ wsX7_needOf := by decide +kernel
set_option maxRecDepth 20000 in
theorem k_X7_needOf_18 : ZF wsX7_needOf RX7 18 7 3 RX7 TX7 7 := ⟨rfl, by decide, h_X7_needOf_X7, by decide +kernel⟩
set_option maxHeartbeats 8000000 in
set_option maxRecDepth 100000 in
theorem c_X7_needOf (l : Launch) (D : va_G) (cA : Nat → ClassId) (g : Nat → Nat) (sz : Nat) (h_t : Nat) (a_t : Nat → Nat) (o_t : Ob) (v1 : Int32) (rv : Int32) (hF : f_X7_needOf o_t v1 = some rv) : Met l yX7_needOf wsX7_needOf ({ frames := 1, cells := 0, slots := 0, locals := 22 }) (va_Pc [.ref h_t, .int v1] (PreW D cA g sz (w_X7_canGo cA h_t a_t o_t))) (va_Qi (fun (r : Int32) (_ : Unit) => r = rv) (PostW D cA sz (w_X7_canGo cA h_t a_t o_t) (w_X7_canGo cA h_t a_t o_t)) (va_A (w_X7_canGo cA h_t a_t o_t) sz)) 0 0 (va_A (w_X7_canGo cA h_t a_t o_t) sz) := by
  refine z_start (cc := cX7_needOf) (maxL := 4) (ret := (some .int)) (lv0 := [(0, .ref h_t), (1, .int v1)]) (Qc := fun sz => va_Qi (fun (r : Int32) (_ : Unit) => r = rv) (PostW D cA sz (w_X7_canGo cA h_t a_t o_t) (w_X7_canGo cA h_t a_t o_t)) (va_A (w_X7_canGo cA h_t a_t o_t) sz)) (free := fun sz => va_A (w_X7_canGo cA h_t a_t o_t) sz) (by decide +kernel) rfl rfl (Nat.le_of_ble_eq_true rfl) ?_
  intro p e R s m args below meth c A Q hR hA hQ X hr hin
  unfold f_X7_needOf at hF
  refine z_iload_n X dX7_needOf_0 rfl 1 rfl ?_
  obtain ⟨r1, hc2, hF⟩ := zb1_e hF
  refine z_Si (As := [.int v1]) (rest := []) (wc := ([] : va_W)) (wc' := ([] : va_W)) (ws' := (w_X7_canGo cA h_t a_t o_t)) (rv := r1) X (va_cwS 1 X.2.2.2.2.1 gX7_needOf_J6_bitCount_0f7a4 rfl rfl rfl (by decide +kernel) (by rw [hR]; exact ⟨Nat.le_of_ble_eq_true rfl, Nat.le_of_ble_eq_true rfl⟩)) (fun sz => c_J6_bitCount_0f7a4 l D cA g sz v1 r1 hc2) [] [0, 1, 2, 3] rfl (by decide) rfl (by decide) rfl rfl rfl (Nat.le_of_ble_eq_true rfl) dX7_needOf_1 ⟨Nat.zero_le _, Nat.zero_le _⟩ ?_
  refine z_istore_n (lv' := [(2, .int r1), (0, .ref h_t), (1, .int v1)]) X dX7_needOf_4 rfl (by decide) rfl ?_
  refine z_iload_n X dX7_needOf_5 rfl 2 rfl ?_
  refine z_istore_n (lv' := [(3, .int v1), (2, .int r1), (0, .ref h_t), (1, .int v1)]) X dX7_needOf_6 rfl (by decide) rfl ?_
  obtain ⟨k24, hL, hF⟩ := zb1_e hF
  have L25_x : ∀ (k24' : Int32), k24' = k24 → ZW p l e R s m args below meth c D A 4 0 0 Q (w_X7_canGo cA h_t a_t o_t) [(2, .int k24')] 54 [] := by
    intro k24' hz
    cases hz
    refine z_iload_n X dX7_needOf_54 rfl 0 rfl ?_
    cases hF
    exact z_iret X hA hQ hr rfl dX7_needOf_55 (Nat.le_refl _) (Nat.le_refl _)
  obtain ⟨B43, hBB43, hL⟩ := zl2_b hL
  have L25 : ∀ (n : Nat) (k22 : Int32) (k23 : Int32), zl2 B43 n k22 k23 = some k24 → ZW p l e R s m args below meth c D A 4 0 0 Q (w_X7_canGo cA h_t a_t o_t) [(0, .ref h_t), (1, .int v1), (2, .int k22), (3, .int k23)] 7 [] := by
    intro n
    induction n with
    | zero => intro k22 k23 hL; cases hL
    | succ n ih =>
      intro k22 k23 hL
      obtain ⟨zz26, hF, hL⟩ := zl2_e hL
      rw [hBB43] at hF
      refine z_iload_n X dX7_needOf_7 rfl 3 rfl ?_
      have hF := if_e hF
      refine z_if_le (tgt := 54) X dX7_needOf_8 (by decide) (fun c42 => ?_) (fun c42 => ?_)
      · have hF := hF.1 c42
        cases hF
        have hL := Option.some.inj hL
        refine z_lv (lv' := [(2, .int k22)]) [2] rfl ?_
        exact L25_x k22 hL
      · have hF := hF.2 c42
        refine z_aload_n X dX7_needOf_11 rfl 0 rfl ?_
        refine z_iload_n X dX7_needOf_12 rfl 3 rfl ?_
        refine z_iload_n X dX7_needOf_13 rfl 1 rfl ?_
        obtain ⟨r27, hc28, hF⟩ := zb1_e hF
        refine z_Vi (As := [.int k23, .int v1]) (rest := []) (wc := (w_X7_canGo cA h_t a_t o_t)) (wc' := (w_X7_canGo cA h_t a_t o_t)) (ws' := (w_X7_canGo cA h_t a_t o_t)) (rv := r27) X (cwV 2 X.2.2.2.2.1 gX7_needOf_X7_canGo rfl rfl rfl (by decide +kernel) (by rw [hR]; exact ⟨Nat.le_of_ble_eq_true rfl, Nat.le_of_ble_eq_true rfl⟩)) (fun sz => c_X7_canGo l D cA g sz h_t a_t o_t k23 v1 r27 hc28) [0, 1, 2, 3] [1000, 1001, 1002, 1003] rfl (by decide) rfl (by decide) rfl rfl rfl rfl rfl rfl (Nat.le_of_ble_eq_true rfl) dX7_needOf_14 ⟨Nat.zero_le _, Nat.zero_le _⟩ ?_
        obtain ⟨K35, eK35, hF⟩ := nx_e hF
        have K35_l : ∀ (j34 : Int32), K35 j34 = some zz26 → ZW p l e R s m args below meth c D A 4 0 0 Q (w_X7_canGo cA h_t a_t o_t) [(0, .ref h_t), (1, .int v1), (2, .int j34), (3, .int k23)] 45 [] := by
          intro j34 hF
          rw [eK35] at hF
          refine z_iload_n X dX7_needOf_45 rfl 3 rfl ?_
          refine z_iconst (v := (1 : Int32)) X dX7_needOf_46 (by decide) ?_
          refine z_isub X dX7_needOf_47 ?_
          refine z_iload_n X dX7_needOf_48 rfl 1 rfl ?_
          refine z_iand X dX7_needOf_49 ?_
          obtain ⟨x36, ex36, hF⟩ := nx_e hF
          refine z_nm ex36 ?_
          refine z_istore_n (lv' := [(3, .int x36), (0, .ref h_t), (1, .int v1), (2, .int j34)]) X dX7_needOf_50 rfl (by decide) rfl ?_
          refine z_goto (tgt := 7) X dX7_needOf_51 (by decide) ?_
          cases hF
          refine z_lv (lv' := [(0, .ref h_t), (1, .int v1), (2, .int j34), (3, .int x36)]) [1, 2, 3, 0] rfl ?_
          exact ih j34 x36 hL
        have hF := if_e hF
        refine z_if_eq (tgt := 45) X dX7_needOf_17 (by decide) (fun c41 => ?_) (fun c41 => ?_)
        · have hF := hF.1 c41
          refine z_lv (lv' := [(0, .ref h_t), (1, .int v1), (2, .int k22), (3, .int k23)]) [0, 1, 2, 3] rfl ?_
          exact K35_l k22 hF
        · have hF := hF.2 c41
          refine z_aload_n X dX7_needOf_20 rfl 0 rfl ?_
          refine z_get (v := .ref (a_t 3)) X k_X7_needOf_18 0 rfl rfl dX7_needOf_21 ?_
          refine z_iload_n X dX7_needOf_24 rfl 1 rfl ?_
          refine z_iload_n X dX7_needOf_25 rfl 3 rfl ?_
          refine z_ixor X dX7_needOf_26 ?_
          obtain ⟨g37, hF⟩ := gi_e hF
          refine z_iald X 3 rfl g37 dX7_needOf_27 ?_
          refine z_iconst (v := (1 : Int32)) X dX7_needOf_28 (by decide) ?_
          refine z_iadd X dX7_needOf_29 ?_
          refine z_iload_n X dX7_needOf_30 rfl 2 rfl ?_
          have hF := if_e hF
          refine z_icmp_ge (tgt := 45) X dX7_needOf_31 (by decide) (fun c40 => ?_) (fun c40 => ?_)
          · have hF := hF.1 c40
            refine z_lv (lv' := [(0, .ref h_t), (1, .int v1), (2, .int k22), (3, .int k23)]) [0, 1, 2, 3] rfl ?_
            exact K35_l k22 hF
          · have hF := hF.2 c40
            refine z_aload_n X dX7_needOf_34 rfl 0 rfl ?_
            refine z_get (v := .ref (a_t 3)) X k_X7_needOf_18 0 rfl rfl dX7_needOf_35 ?_
            refine z_iload_n X dX7_needOf_38 rfl 1 rfl ?_
            refine z_iload_n X dX7_needOf_39 rfl 3 rfl ?_
            refine z_ixor X dX7_needOf_40 ?_
            obtain ⟨g38, hF⟩ := gi_e hF
            refine z_iald X 3 rfl g38 dX7_needOf_41 ?_
            refine z_iconst (v := (1 : Int32)) X dX7_needOf_42 (by decide) ?_
            refine z_iadd X dX7_needOf_43 ?_
            obtain ⟨x39, ex39, hF⟩ := nx_e hF
            refine z_nm ex39 ?_
            refine z_istore_n (lv' := [(2, .int x39), (0, .ref h_t), (1, .int v1), (3, .int k23)]) X dX7_needOf_44 rfl (by decide) rfl ?_
            refine z_lv (lv' := [(0, .ref h_t), (1, .int v1), (2, .int x39), (3, .int k23)]) [1, 2, 0, 3] rfl ?_
            exact K35_l x39 hF
  refine z_lv (lv' := [(0, .ref h_t), (1, .int v1), (2, .int r1), (3, .int v1)]) [2, 3, 1, 0] rfl ?_
  exact L25 FU r1 v1 hL
set_option maxRecDepth 20000 in
theorem h_X7_countNeeds_X7 : ∀ w ∈ wsX70, w ∈ wsX7_countNeeds := by decide +kernel
set_option maxRecDepth 20000 in
theorem k_X7_countNeeds_18 : ZF wsX7_countNeeds RX7 18 7 3 RX7 TX7 7 := ⟨rfl, by decide, h_X7_countNeeds_X7, by decide +kernel⟩
set_option maxHeartbeats 8000000 in
set_option maxRecDepth 100000 in
theorem c_X7_countNeeds (l : Launch) (D : va_G) (cA : Nat → ClassId) (g : Nat → Nat) (sz : Nat) (h_t : Nat) (a_t : Nat → Nat) (o_t : Ob) (v1 : Int32) (o_t' : Ob) (hF : f_X7_countNeeds o_t v1 = some o_t') : Met l yX7_countNeeds wsX7_countNeeds ({ frames := 2, cells := 0, slots := 0, locals := 45 }) (va_Pc [.ref h_t, .int v1] (PreW D cA g sz (w_X7_canGo cA h_t a_t o_t))) (va_Qv (fun (_ : Unit) => True) (PostW D cA sz (w_X7_canGo cA h_t a_t o_t) (w_X7_canGo cA h_t a_t o_t')) (va_A (w_X7_canGo cA h_t a_t o_t) sz)) 0 0 (va_A (w_X7_canGo cA h_t a_t o_t) sz) := by
  refine z_start (cc := cX7_countNeeds) (maxL := 3) (ret := none) (lv0 := [(0, .ref h_t), (1, .int v1)]) (Qc := fun sz => va_Qv (fun (_ : Unit) => True) (PostW D cA sz (w_X7_canGo cA h_t a_t o_t) (w_X7_canGo cA h_t a_t o_t')) (va_A (w_X7_canGo cA h_t a_t o_t) sz)) (free := fun sz => va_A (w_X7_canGo cA h_t a_t o_t) sz) (by decide +kernel) rfl rfl (Nat.le_of_ble_eq_true rfl) ?_
  intro p e R s m args below meth c A Q hR hA hQ X hr hin
  unfold f_X7_countNeeds at hF
  refine z_aload_n X dX7_countNeeds_0 rfl 0 rfl ?_
  refine z_get (v := .ref (a_t 3)) X k_X7_countNeeds_18 0 rfl rfl dX7_countNeeds_1 ?_
  refine z_iconst (v := (0 : Int32)) X dX7_countNeeds_4 (by decide) ?_
  refine z_iconst (v := (0 : Int32)) X dX7_countNeeds_5 (by decide) ?_
  obtain ⟨g1, hF⟩ := gi_e hF
  obtain ⟨o2, eo2, hF⟩ := nx_e hF
  refine z_iast (ws' := (w_X7_canGo cA h_t a_t o2)) X 3 rfl g1 (by rw [eo2]; rfl) dX7_countNeeds_6 ?_
  refine z_iconst (v := (1 : Int32)) X dX7_countNeeds_7 (by decide) ?_
  refine z_istore_n (lv' := [(2, .int (1 : Int32)), (0, .ref h_t), (1, .int v1)]) X dX7_countNeeds_8 rfl (by decide) rfl ?_
  obtain ⟨o15, hL, hF⟩ := zb1_e hF
  have L16_x : ∀ (o15' : Ob), o15' = o15 → ZW p l e R s m args below meth c D A 3 0 0 Q (w_X7_canGo cA h_t a_t o15') [] 39 [] := by
    intro o15' hz
    cases hz
    cases hF
    exact z_vret X hA hQ hr dX7_countNeeds_39 (Nat.le_refl _) (Nat.le_refl _)
  obtain ⟨B26, hBB26, hL⟩ := zl2_b hL
  have L16 : ∀ (n : Nat) (o13 : Ob) (k14 : Int32), zl2 B26 n o13 k14 = some o15 → ZW p l e R s m args below meth c D A 3 0 0 Q (w_X7_canGo cA h_t a_t o13) [(0, .ref h_t), (1, .int v1), (2, .int k14)] 9 [] := by
    intro n
    induction n with
    | zero => intro o13 k14 hL; cases hL
    | succ n ih =>
      intro o13 k14 hL
      obtain ⟨zz17, hF, hL⟩ := zl2_e hL
      rw [hBB26] at hF
      refine z_iload_n X dX7_countNeeds_9 rfl 2 rfl ?_
      refine z_iload_n X dX7_countNeeds_10 rfl 1 rfl ?_
      have hF := if_e hF
      refine z_icmp_gt (tgt := 39) X dX7_countNeeds_11 (by decide) (fun c25 => ?_) (fun c25 => ?_)
      · have hF := hF.1 c25
        cases hF
        have hL := Option.some.inj hL
        refine z_lv (lv' := []) [] rfl ?_
        exact L16_x o13 hL
      · have hF := hF.2 c25
        refine z_iload_n X dX7_countNeeds_14 rfl 2 rfl ?_
        refine z_iload_n X dX7_countNeeds_15 rfl 1 rfl ?_
        refine z_iconst (v := (-1 : Int32)) X dX7_countNeeds_16 (by decide) ?_
        refine z_ixor X dX7_countNeeds_17 ?_
        refine z_iand X dX7_countNeeds_18 ?_
        have hF := if_e hF
        refine z_if_ne (tgt := 33) X dX7_countNeeds_19 (by decide) (fun c24 => ?_) (fun c24 => ?_)
        · have hF := hF.2 c24
          obtain ⟨x18, ex18, hF⟩ := nx_e hF
          refine z_iinc (v := x18) (lv' := [(2, .int x18), (0, .ref h_t), (1, .int v1)]) (j := 2) X dX7_countNeeds_33 rfl (by rw [ex18]; rfl) (by decide) rfl ?_
          refine z_goto (tgt := 9) X dX7_countNeeds_36 (by decide) ?_
          cases hF
          refine z_lv (lv' := [(0, .ref h_t), (1, .int v1), (2, .int x18)]) [1, 2, 0] rfl ?_
          exact ih o13 x18 hL
        · have hF := hF.1 c24
          refine z_aload_n X dX7_countNeeds_22 rfl 0 rfl ?_
          refine z_get (v := .ref (a_t 3)) X k_X7_countNeeds_18 0 rfl rfl dX7_countNeeds_23 ?_
          refine z_iload_n X dX7_countNeeds_26 rfl 2 rfl ?_
          refine z_aload_n X dX7_countNeeds_27 rfl 0 rfl ?_
          refine z_iload_n X dX7_countNeeds_28 rfl 2 rfl ?_
          obtain ⟨r19, hc20, hF⟩ := zb1_e hF
          refine z_Vi (As := [.int k14]) (rest := [.int k14, .ref (a_t 3)]) (wc := (w_X7_canGo cA h_t a_t o13)) (wc' := (w_X7_canGo cA h_t a_t o13)) (ws' := (w_X7_canGo cA h_t a_t o13)) (rv := r19) X (cwV 1 X.2.2.2.2.1 gX7_countNeeds_X7_needOf rfl rfl rfl (by decide +kernel) (by rw [hR]; exact ⟨Nat.le_of_ble_eq_true rfl, Nat.le_of_ble_eq_true rfl⟩)) (fun sz => c_X7_needOf l D cA g sz h_t a_t o13 k14 r19 hc20) [0, 1, 2, 3] [1000, 1001, 1002, 1003] rfl (by decide) rfl (by decide) rfl rfl rfl rfl rfl rfl (Nat.le_of_ble_eq_true rfl) dX7_countNeeds_29 ⟨Nat.zero_le _, Nat.zero_le _⟩ ?_
          obtain ⟨g21, hF⟩ := gi_e hF
          obtain ⟨o22, eo22, hF⟩ := nx_e hF
          refine z_iast (ws' := (w_X7_canGo cA h_t a_t o22)) X 3 rfl g21 (by rw [eo22]; rfl) dX7_countNeeds_32 ?_
          obtain ⟨x23, ex23, hF⟩ := nx_e hF
          refine z_iinc (v := x23) (lv' := [(2, .int x23), (0, .ref h_t), (1, .int v1)]) (j := 2) X dX7_countNeeds_33 rfl (by rw [ex23]; rfl) (by decide) rfl ?_
          refine z_goto (tgt := 9) X dX7_countNeeds_36 (by decide) ?_
          cases hF
          refine z_lv (lv' := [(0, .ref h_t), (1, .int v1), (2, .int x23)]) [1, 2, 0] rfl ?_
          exact ih o22 x23 hL
  refine z_lv (lv' := [(0, .ref h_t), (1, .int v1), (2, .int (1 : Int32))]) [1, 2, 0] rfl ?_
  exact L16 FU o2 (1 : Int32) hL
set_option maxRecDepth 20000 in
theorem h_X7_firstGoing_X7 : ∀ w ∈ wsX70, w ∈ wsX7_firstGoing := by decide +kernel
set_option maxRecDepth 20000 in
theorem k_X7_firstGoing_18 : ZF wsX7_firstGoing RX7 18 7 3 RX7 TX7 7 := ⟨rfl, by decide, h_X7_firstGoing_X7, by decide +kernel⟩
set_option maxHeartbeats 8000000 in
set_option maxRecDepth 100000 in
theorem c_X7_firstGoing (l : Launch) (D : va_G) (cA : Nat → ClassId) (g : Nat → Nat) (sz : Nat) (h_t : Nat) (a_t : Nat → Nat) (o_t : Ob) (v1 : Int32) (rv : Int32) (hF : f_X7_firstGoing o_t v1 = some rv) : Met l yX7_firstGoing wsX7_firstGoing ({ frames := 1, cells := 0, slots := 0, locals := 22 }) (va_Pc [.ref h_t, .int v1] (PreW D cA g sz (w_X7_canGo cA h_t a_t o_t))) (va_Qi (fun (r : Int32) (_ : Unit) => r = rv) (PostW D cA sz (w_X7_canGo cA h_t a_t o_t) (w_X7_canGo cA h_t a_t o_t)) (va_A (w_X7_canGo cA h_t a_t o_t) sz)) 0 0 (va_A (w_X7_canGo cA h_t a_t o_t) sz) := by
  refine z_start (cc := cX7_firstGoing) (maxL := 3) (ret := (some .int)) (lv0 := [(0, .ref h_t), (1, .int v1)]) (Qc := fun sz => va_Qi (fun (r : Int32) (_ : Unit) => r = rv) (PostW D cA sz (w_X7_canGo cA h_t a_t o_t) (w_X7_canGo cA h_t a_t o_t)) (va_A (w_X7_canGo cA h_t a_t o_t) sz)) (free := fun sz => va_A (w_X7_canGo cA h_t a_t o_t) sz) (by decide +kernel) rfl rfl (Nat.le_of_ble_eq_true rfl) ?_
  intro p e R s m args below meth c A Q hR hA hQ X hr hin
  unfold f_X7_firstGoing at hF
  refine z_iconst (v := (1 : Int32)) X dX7_firstGoing_0 (by decide) ?_
  refine z_istore_n (lv' := [(2, .int (1 : Int32)), (0, .ref h_t), (1, .int v1)]) X dX7_firstGoing_1 rfl (by decide) rfl ?_
  obtain ⟨z24, hL, hFx, L13_r⟩ := ze0_e hF
  have L13_x : ∀ (_ : True), z24 = .inl () → ZW p l e R s m args below meth c D A 3 0 0 Q (w_X7_canGo cA h_t a_t o_t) [(1, .int v1)] 43 [] := by
    intro _ hz
    have hF := hFx  hz
    refine z_iload_n X dX7_firstGoing_43 rfl 0 rfl ?_
    cases hF
    exact z_iret X hA hQ hr rfl dX7_firstGoing_44 (Nat.le_refl _) (Nat.le_refl _)
  obtain ⟨B25, hBB25, hL⟩ := zl1_b hL
  have L13 : ∀ (n : Nat) (k12 : Int32), zl1 B25 n k12 = some z24 → ZW p l e R s m args below meth c D A 3 0 0 Q (w_X7_canGo cA h_t a_t o_t) [(0, .ref h_t), (1, .int v1), (2, .int k12)] 2 [] := by
    intro n
    induction n with
    | zero => intro k12 hL; cases hL
    | succ n ih =>
      intro k12 hL
      obtain ⟨zz14, hF, hL⟩ := zl1_e hL
      rw [hBB25] at hF
      refine z_iload_n X dX7_firstGoing_2 rfl 2 rfl ?_
      refine z_iload_n X dX7_firstGoing_3 rfl 1 rfl ?_
      have hF := if_e hF
      refine z_icmp_gt (tgt := 43) X dX7_firstGoing_4 (by decide) (fun c23 => ?_) (fun c23 => ?_)
      · have hF := hF.1 c23
        cases hF
        have hL := Option.some.inj hL
        refine z_lv (lv' := [(1, .int v1)]) [1] rfl ?_
        exact L13_x trivial hL.symm
      · have hF := hF.2 c23
        refine z_aload_n X dX7_firstGoing_7 rfl 0 rfl ?_
        refine z_iload_n X dX7_firstGoing_8 rfl 2 rfl ?_
        refine z_iload_n X dX7_firstGoing_9 rfl 1 rfl ?_
        obtain ⟨r15, hc16, hF⟩ := zb1_e hF
        refine z_Vi (As := [.int k12, .int v1]) (rest := []) (wc := (w_X7_canGo cA h_t a_t o_t)) (wc' := (w_X7_canGo cA h_t a_t o_t)) (ws' := (w_X7_canGo cA h_t a_t o_t)) (rv := r15) X (cwV 2 X.2.2.2.2.1 gX7_firstGoing_X7_canGo rfl rfl rfl (by decide +kernel) (by rw [hR]; exact ⟨Nat.le_of_ble_eq_true rfl, Nat.le_of_ble_eq_true rfl⟩)) (fun sz => c_X7_canGo l D cA g sz h_t a_t o_t k12 v1 r15 hc16) [0, 1, 2, 3] [1000, 1001, 1002, 1003] rfl (by decide) rfl (by decide) rfl rfl rfl rfl rfl rfl (Nat.le_of_ble_eq_true rfl) dX7_firstGoing_10 ⟨Nat.zero_le _, Nat.zero_le _⟩ ?_
        have hF := if_e hF
        refine z_if_eq (tgt := 37) X dX7_firstGoing_13 (by decide) (fun c22 => ?_) (fun c22 => ?_)
        · have hF := hF.1 c22
          obtain ⟨x17, ex17, hF⟩ := nx_e hF
          refine z_iinc (v := x17) (lv' := [(2, .int x17), (0, .ref h_t), (1, .int v1)]) (j := 2) X dX7_firstGoing_37 rfl (by rw [ex17]; rfl) (by decide) rfl ?_
          refine z_goto (tgt := 2) X dX7_firstGoing_40 (by decide) ?_
          cases hF
          refine z_lv (lv' := [(0, .ref h_t), (1, .int v1), (2, .int x17)]) [1, 2, 0] rfl ?_
          exact ih x17 hL
        · have hF := hF.2 c22
          refine z_aload_n X dX7_firstGoing_16 rfl 0 rfl ?_
          refine z_get (v := .ref (a_t 3)) X k_X7_firstGoing_18 0 rfl rfl dX7_firstGoing_17 ?_
          refine z_iload_n X dX7_firstGoing_20 rfl 1 rfl ?_
          refine z_iload_n X dX7_firstGoing_21 rfl 2 rfl ?_
          refine z_ixor X dX7_firstGoing_22 ?_
          obtain ⟨g18, hF⟩ := gi_e hF
          refine z_iald X 3 rfl g18 dX7_firstGoing_23 ?_
          refine z_aload_n X dX7_firstGoing_24 rfl 0 rfl ?_
          refine z_get (v := .ref (a_t 3)) X k_X7_firstGoing_18 0 rfl rfl dX7_firstGoing_25 ?_
          refine z_iload_n X dX7_firstGoing_28 rfl 1 rfl ?_
          obtain ⟨g19, hF⟩ := gi_e hF
          refine z_iald X 3 rfl g19 dX7_firstGoing_29 ?_
          refine z_iconst (v := (1 : Int32)) X dX7_firstGoing_30 (by decide) ?_
          refine z_isub X dX7_firstGoing_31 ?_
          have hF := if_e hF
          refine z_icmp_ne (tgt := 37) X dX7_firstGoing_32 (by decide) (fun c21 => ?_) (fun c21 => ?_)
          · have hF := hF.2 c21
            obtain ⟨x20, ex20, hF⟩ := nx_e hF
            refine z_iinc (v := x20) (lv' := [(2, .int x20), (0, .ref h_t), (1, .int v1)]) (j := 2) X dX7_firstGoing_37 rfl (by rw [ex20]; rfl) (by decide) rfl ?_
            refine z_goto (tgt := 2) X dX7_firstGoing_40 (by decide) ?_
            cases hF
            refine z_lv (lv' := [(0, .ref h_t), (1, .int v1), (2, .int x20)]) [1, 2, 0] rfl ?_
            exact ih x20 hL
          · have hF := hF.1 c21
            refine z_iload_n X dX7_firstGoing_35 rfl 2 rfl ?_
            cases hF
            have hL := (Option.some.inj hL).symm
            have hF := L13_r _ hL
            cases hF
            exact z_iret X hA hQ hr rfl dX7_firstGoing_36 (Nat.le_refl _) (Nat.le_refl _)
  refine z_lv (lv' := [(0, .ref h_t), (1, .int v1), (2, .int (1 : Int32))]) [1, 2, 0] rfl ?_
  exact L13 FU (1 : Int32) hL
abbrev w_X7_find (cA : Nat → ClassId) (h_t : Nat) (a_t : Nat → Nat) (o_t : Ob) (h_p1 : Nat) (a_p1 : Nat → Nat) (o_p1 : Ob) (h_p2 : Nat) (a_p2 : Nat → Nat) (o_p2 : Ob) : va_W := [(h_t, .inr (7, [.int (o_t 0 0), .ref (a_t 1), .ref (a_t 2), .ref (a_t 3), .int (o_t 4 0), .int (o_t 5 0), .int (o_t 6 0)])), (a_t 1, .inl (cA 0, 8, .inl (o_t 1))), (a_t 2, .inl (cA 0, 256, .inl (o_t 2))), (a_t 3, .inl (cA 0, 256, .inl (o_t 3))), (h_p1, .inr (10, [.int (o_p1 0 0), .ref (a_p1 1), .ref (a_p1 2), .ref (a_p1 3), .ref (a_p1 4)])), (a_p1 1, .inl (cA 0, 8, .inl (o_p1 1))), (a_p1 2, .inl (cA 0, 8, .inl (o_p1 2))), (a_p1 3, .inl (cA 0, 8, .inl (o_p1 3))), (a_p1 4, .inl (cA 0, 8, .inl (o_p1 4))), (h_p2, .inr (8, [.int (o_p2 0 0), .int (o_p2 1 0), .int (o_p2 2 0), .int (o_p2 3 0), .ref (a_p2 4), .ref (a_p2 5), .ref (a_p2 6)])), (a_p2 4, .inl (cA 0, 8, .inl (o_p2 4))), (a_p2 5, .inl (cA 0, 8, .inl (o_p2 5))), (a_p2 6, .inl (cA 1, 8, .inr (.inr (.inl (fun j => (o_p2 6 j).toUInt32)))))]
set_option maxRecDepth 20000 in
theorem h_X7_find_X7 : ∀ w ∈ wsX70, w ∈ wsX7_find := by decide +kernel
set_option maxRecDepth 20000 in
theorem k_X7_find_9 : ZF wsX7_find RX7 9 7 1 RX7 TX7 7 := ⟨rfl, by decide, h_X7_find_X7, by decide +kernel⟩
set_option maxRecDepth 20000 in
theorem k_X7_find_15 : ZF wsX7_find RX7 15 7 2 RX7 TX7 7 := ⟨rfl, by decide, h_X7_find_X7, by decide +kernel⟩
set_option maxRecDepth 20000 in
theorem k_X7_find_18 : ZF wsX7_find RX7 18 7 3 RX7 TX7 7 := ⟨rfl, by decide, h_X7_find_X7, by decide +kernel⟩
set_option maxRecDepth 20000 in
theorem k_X7_find_21 : ZF wsX7_find RX7 21 7 4 RX7 TX7 7 := ⟨rfl, by decide, h_X7_find_X7, by decide +kernel⟩
set_option maxRecDepth 20000 in
theorem k_X7_find_25 : ZF wsX7_find RX7 25 7 5 RX7 TX7 7 := ⟨rfl, by decide, h_X7_find_X7, by decide +kernel⟩
set_option maxRecDepth 20000 in
theorem h_X7_find_X8 : ∀ w ∈ wsX80, w ∈ wsX7_find := by decide +kernel
set_option maxRecDepth 20000 in
theorem k_X7_find_28 : ZF wsX7_find RX7 28 8 0 RX8 TX8 7 := ⟨rfl, by decide, h_X7_find_X8, by decide +kernel⟩
set_option maxRecDepth 20000 in
theorem k_X7_find_33 : ZF wsX7_find RX7 33 7 6 RX7 TX7 7 := ⟨rfl, by decide, h_X7_find_X7, by decide +kernel⟩
set_option maxRecDepth 20000 in
theorem h_X7_find_X10 : ∀ w ∈ wsX100, w ∈ wsX7_find := by decide +kernel
set_option maxRecDepth 20000 in
theorem k_X7_find_34 : ZF wsX7_find RX7 34 10 1 RX10 TX10 5 := ⟨rfl, by decide, h_X7_find_X10, by decide +kernel⟩
set_option maxRecDepth 20000 in
theorem k_X7_find_43 : ZF wsX7_find RX7 43 8 2 RX8 TX8 7 := ⟨rfl, by decide, h_X7_find_X8, by decide +kernel⟩
set_option maxRecDepth 20000 in
theorem k_X7_find_50 : ZF wsX7_find RX7 50 7 0 RX7 TX7 7 := ⟨rfl, by decide, h_X7_find_X7, by decide +kernel⟩
set_option maxHeartbeats 8000000 in
set_option maxRecDepth 100000 in
theorem c_X7_find (l : Launch) (D : va_G) (cA : Nat → ClassId) (g : Nat → Nat) (sz : Nat) (h_t : Nat) (a_t : Nat → Nat) (o_t : Ob) (h_p1 : Nat) (a_p1 : Nat → Nat) (o_p1 : Ob) (h_p2 : Nat) (a_p2 : Nat → Nat) (o_p2 : Ob) (v3 : Int32) (v4 : Int32) (o_t' : Ob) (hF : f_X7_find o_t o_p1 o_p2 v3 v4 = some o_t') : Met l yX7_find wsX7_find ({ frames := 3, cells := 0, slots := 0, locals := 67 }) (va_Pc [.ref h_t, .ref h_p1, .ref h_p2, .int v3, .int v4] (PreW D cA g sz (w_X7_find cA h_t a_t o_t h_p1 a_p1 o_p1 h_p2 a_p2 o_p2))) (va_Qv (fun (_ : Unit) => True) (PostW D cA sz (w_X7_find cA h_t a_t o_t h_p1 a_p1 o_p1 h_p2 a_p2 o_p2) (w_X7_find cA h_t a_t o_t' h_p1 a_p1 o_p1 h_p2 a_p2 o_p2)) (va_A (w_X7_find cA h_t a_t o_t h_p1 a_p1 o_p1 h_p2 a_p2 o_p2) sz)) 0 0 (va_A (w_X7_find cA h_t a_t o_t h_p1 a_p1 o_p1 h_p2 a_p2 o_p2) sz) := by
  refine z_start (cc := cX7_find) (maxL := 8) (ret := none) (lv0 := [(0, .ref h_t), (1, .ref h_p1), (2, .ref h_p2), (3, .int v3), (4, .int v4)]) (Qc := fun sz => va_Qv (fun (_ : Unit) => True) (PostW D cA sz (w_X7_find cA h_t a_t o_t h_p1 a_p1 o_p1 h_p2 a_p2 o_p2) (w_X7_find cA h_t a_t o_t' h_p1 a_p1 o_p1 h_p2 a_p2 o_p2)) (va_A (w_X7_find cA h_t a_t o_t h_p1 a_p1 o_p1 h_p2 a_p2 o_p2) sz)) (free := fun sz => va_A (w_X7_find cA h_t a_t o_t h_p1 a_p1 o_p1 h_p2 a_p2 o_p2) sz) (by decide +kernel) rfl rfl (Nat.le_of_ble_eq_true rfl) ?_
  intro p e R s m args below meth c A Q hR hA hQ X hr hin
  unfold f_X7_find at hF
  refine z_aload_n X dX7_find_0 rfl 0 rfl ?_
  refine z_iload_n X dX7_find_1 rfl 3 rfl ?_
  obtain ⟨o1, eo1, hF⟩ := nx_e hF
  refine z_put (ws' := (w_X7_find cA h_t a_t o1 h_p1 a_p1 o_p1 h_p2 a_p2 o_p2)) X k_X7_find_21 tyX7 tyX7_ok nmX7 rfl rfl 0 rfl (Nat.le_of_ble_eq_true rfl) (by rw [eo1]; rfl) dX7_find_2 ?_
  refine z_aload_n X dX7_find_5 rfl 0 rfl ?_
  refine z_iload X dX7_find_6 4 rfl ?_
  obtain ⟨o2, eo2, hF⟩ := nx_e hF
  refine z_put (ws' := (w_X7_find cA h_t a_t o2 h_p1 a_p1 o_p1 h_p2 a_p2 o_p2)) X k_X7_find_25 tyX7 tyX7_ok nmX7 rfl rfl 0 rfl (Nat.le_of_ble_eq_true rfl) (by rw [eo2]; rfl) dX7_find_8 ?_
  refine z_aload_n X dX7_find_11 rfl 0 rfl ?_
  refine z_aload_n X dX7_find_12 rfl 2 rfl ?_
  refine z_get (v := .int (o_p2 0 0)) X k_X7_find_28 9 rfl rfl dX7_find_13 ?_
  obtain ⟨o3, eo3, hF⟩ := nx_e hF
  refine z_put (ws' := (w_X7_find cA h_t a_t o3 h_p1 a_p1 o_p1 h_p2 a_p2 o_p2)) X k_X7_find_33 tyX7 tyX7_ok nmX7 rfl rfl 0 rfl (Nat.le_of_ble_eq_true rfl) (by rw [eo3]; rfl) dX7_find_16 ?_
  refine z_aload_n X dX7_find_19 rfl 1 rfl ?_
  refine z_aload_n X dX7_find_20 rfl 1 rfl ?_
  refine z_get (v := .ref (a_p1 1)) X k_X7_find_34 4 rfl rfl dX7_find_21 ?_
  refine z_aload_n X dX7_find_24 rfl 0 rfl ?_
  refine z_get (v := .ref (a_t 2)) X k_X7_find_15 0 rfl rfl dX7_find_25 ?_
  obtain ⟨o4, hc5, hF⟩ := zb1_e hF
  obtain ⟨o6, eo6, hF⟩ := nx_e hF
  refine z_Vv (As := [.ref (a_p1 1), .ref (a_t 2)]) (rest := []) (wc := (w_X10_sumSets__size cA h_p1 a_p1 o_p1 (a_t 2) 256 (o3 2))) (wc' := (w_X10_sumSets__size cA h_p1 a_p1 o_p1 (a_t 2) 256 o4)) (ws' := (w_X7_find cA h_t a_t o6 h_p1 a_p1 o_p1 h_p2 a_p2 o_p2)) X (cwV 2 X.2.2.2.2.1 gX7_find_X10_sumSets rfl rfl rfl (by decide +kernel) (by rw [hR]; exact ⟨Nat.le_of_ble_eq_true rfl, Nat.le_of_ble_eq_true rfl⟩)) (fun sz => c_X10_sumSets__size l D cA g sz h_p1 a_p1 o_p1 (a_t 2) 256 (o3 2) o4 hc5) [4, 5, 6, 7, 8, 2] [0, 1, 1005, 3, 1000, 1001, 1002, 1003, 1004, 9, 10, 11, 12] rfl (by decide) (by rw [eo6]; rfl) (by decide) rfl rfl rfl rfl rfl rfl (Nat.le_of_ble_eq_true rfl) dX7_find_28 ⟨Nat.zero_le _, Nat.zero_le _⟩ ?_
  refine z_aload_n X dX7_find_31 rfl 2 rfl ?_
  refine z_get (v := .int (o_p2 2 0)) X k_X7_find_43 9 rfl rfl dX7_find_32 ?_
  refine z_aload_n X dX7_find_35 rfl 0 rfl ?_
  refine z_get (v := .int (o6 4 0)) X k_X7_find_21 0 rfl rfl dX7_find_36 ?_
  refine z_ixor X dX7_find_39 ?_
  obtain ⟨x7, ex7, hF⟩ := nx_e hF
  refine z_nm ex7 ?_
  refine z_istore (lv' := [(5, .int x7), (0, .ref h_t), (1, .ref h_p1), (2, .ref h_p2), (3, .int v3), (4, .int v4)]) X dX7_find_40 (by decide) rfl ?_
  refine z_aload_n X dX7_find_42 rfl 1 rfl ?_
  refine z_iload X dX7_find_43 0 rfl ?_
  obtain ⟨o8, hc9, hF⟩ := zb1_e hF
  refine z_Vv (As := [.int x7]) (rest := []) (wc := (w_X7_canGo cA h_t a_t o6)) (wc' := (w_X7_canGo cA h_t a_t o8)) (ws' := (w_X7_find cA h_t a_t o8 h_p1 a_p1 o_p1 h_p2 a_p2 o_p2)) X (cwV 1 X.2.2.2.2.1 gX7_find_X7_countNeeds rfl rfl rfl (by decide +kernel) (by rw [hR]; exact ⟨Nat.le_of_ble_eq_true rfl, Nat.le_of_ble_eq_true rfl⟩)) (fun sz => c_X7_countNeeds l D cA g sz h_t a_t o6 x7 o8 hc9) [0, 1, 2, 3] [1000, 1001, 1002, 1003, 4, 5, 6, 7, 8, 9, 10, 11, 12] rfl (by decide) rfl (by decide) rfl rfl rfl rfl rfl rfl (Nat.le_of_ble_eq_true rfl) dX7_find_45 ⟨Nat.zero_le _, Nat.zero_le _⟩ ?_
  refine z_aload_n X dX7_find_48 rfl 1 rfl ?_
  refine z_aload_n X dX7_find_49 rfl 1 rfl ?_
  refine z_get (v := .ref (a_t 3)) X k_X7_find_18 0 rfl rfl dX7_find_50 ?_
  refine z_iload X dX7_find_53 0 rfl ?_
  obtain ⟨g10, hF⟩ := gi_e hF
  refine z_iald X 3 rfl g10 dX7_find_55 ?_
  obtain ⟨o11, eo11, hF⟩ := nx_e hF
  refine z_put (ws' := (w_X7_find cA h_t a_t o11 h_p1 a_p1 o_p1 h_p2 a_p2 o_p2)) X k_X7_find_50 tyX7 tyX7_ok nmX7 rfl rfl 0 rfl (Nat.le_of_ble_eq_true rfl) (by rw [eo11]; rfl) dX7_find_56 ?_
  refine z_iload X dX7_find_59 0 rfl ?_
  refine z_istore (lv' := [(6, .int x7), (5, .int x7), (0, .ref h_t), (1, .ref h_p1), (2, .ref h_p2), (3, .int v3), (4, .int v4)]) X dX7_find_61 (by decide) rfl ?_
  refine z_iconst (v := (0 : Int32)) X dX7_find_63 (by decide) ?_
  refine z_istore (lv' := [(7, .int (0 : Int32)), (6, .int x7), (5, .int x7), (0, .ref h_t), (1, .ref h_p1), (2, .ref h_p2), (3, .int v3), (4, .int v4)]) X dX7_find_64 (by decide) rfl ?_
  obtain ⟨o28, hL, hF⟩ := zb1_e hF
  have L29_x : ∀ (o28' : Ob), o28' = o28 → ZW p l e R s m args below meth c D A 8 0 0 Q (w_X7_find cA h_t a_t o28' h_p1 a_p1 o_p1 h_p2 a_p2 o_p2) [] 106 [] := by
    intro o28' hz
    cases hz
    cases hF
    exact z_vret X hA hQ hr dX7_find_106 (Nat.le_refl _) (Nat.le_refl _)
  obtain ⟨B39, hBB39, hL⟩ := zl3_b hL
  have L29 : ∀ (n : Nat) (o25 : Ob) (k26 : Int32) (k27 : Int32), zl3 B39 n o25 k26 k27 = some o28 → ZW p l e R s m args below meth c D A 8 0 0 Q (w_X7_find cA h_t a_t o25 h_p1 a_p1 o_p1 h_p2 a_p2 o_p2) [(0, .ref h_t), (6, .int k26), (7, .int k27)] 66 [] := by
    intro n
    induction n with
    | zero => intro o25 k26 k27 hL; cases hL
    | succ n ih =>
      intro o25 k26 k27 hL
      obtain ⟨zz30, hF, hL⟩ := zl3_e hL
      rw [hBB39] at hF
      refine z_iload X dX7_find_66 2 rfl ?_
      refine z_aload_n X dX7_find_68 rfl 0 rfl ?_
      refine z_get (v := .int (o25 0 0)) X k_X7_find_50 0 rfl rfl dX7_find_69 ?_
      have hF := if_e hF
      refine z_icmp_ge (tgt := 106) X dX7_find_72 (by decide) (fun c38 => ?_) (fun c38 => ?_)
      · have hF := hF.1 c38
        cases hF
        have hL := Option.some.inj hL
        refine z_lv (lv' := []) [] rfl ?_
        exact L29_x o25 hL
      · have hF := hF.2 c38
        refine z_aload_n X dX7_find_75 rfl 0 rfl ?_
        refine z_get (v := .ref (a_t 1)) X k_X7_find_9 0 rfl rfl dX7_find_76 ?_
        refine z_iload X dX7_find_79 2 rfl ?_
        refine z_aload_n X dX7_find_81 rfl 0 rfl ?_
        refine z_iload X dX7_find_82 1 rfl ?_
        obtain ⟨r31, hc32, hF⟩ := zb1_e hF
        refine z_Vi (As := [.int k26]) (rest := [.int k27, .ref (a_t 1)]) (wc := (w_X7_canGo cA h_t a_t o25)) (wc' := (w_X7_canGo cA h_t a_t o25)) (ws' := (w_X7_find cA h_t a_t o25 h_p1 a_p1 o_p1 h_p2 a_p2 o_p2)) (rv := r31) X (cwV 1 X.2.2.2.2.1 gX7_find_X7_firstGoing rfl rfl rfl (by decide +kernel) (by rw [hR]; exact ⟨Nat.le_of_ble_eq_true rfl, Nat.le_of_ble_eq_true rfl⟩)) (fun sz => c_X7_firstGoing l D cA g sz h_t a_t o25 k26 r31 hc32) [0, 1, 2, 3] [1000, 1001, 1002, 1003, 4, 5, 6, 7, 8, 9, 10, 11, 12] rfl (by decide) rfl (by decide) rfl rfl rfl rfl rfl rfl (Nat.le_of_ble_eq_true rfl) dX7_find_84 ⟨Nat.zero_le _, Nat.zero_le _⟩ ?_
        obtain ⟨g33, hF⟩ := gi_e hF
        obtain ⟨o34, eo34, hF⟩ := nx_e hF
        refine z_iast (ws' := (w_X7_find cA h_t a_t o34 h_p1 a_p1 o_p1 h_p2 a_p2 o_p2)) X 1 rfl g33 (by rw [eo34]; rfl) dX7_find_87 ?_
        refine z_iload X dX7_find_88 1 rfl ?_
        refine z_aload_n X dX7_find_90 rfl 0 rfl ?_
        refine z_get (v := .ref (a_t 1)) X k_X7_find_9 0 rfl rfl dX7_find_91 ?_
        refine z_iload X dX7_find_94 2 rfl ?_
        obtain ⟨g35, hF⟩ := gi_e hF
        refine z_iald X 1 rfl g35 dX7_find_96 ?_
        refine z_ixor X dX7_find_97 ?_
        obtain ⟨x36, ex36, hF⟩ := nx_e hF
        refine z_nm ex36 ?_
        refine z_istore (lv' := [(6, .int x36), (0, .ref h_t), (7, .int k27)]) X dX7_find_98 (by decide) rfl ?_
        obtain ⟨x37, ex37, hF⟩ := nx_e hF
        refine z_iinc (v := x37) (lv' := [(7, .int x37), (6, .int x36), (0, .ref h_t)]) (j := 2) X dX7_find_100 rfl (by rw [ex37]; rfl) (by decide) rfl ?_
        refine z_goto (tgt := 66) X dX7_find_103 (by decide) ?_
        cases hF
        refine z_lv (lv' := [(0, .ref h_t), (6, .int x36), (7, .int x37)]) [2, 1, 0] rfl ?_
        exact ih o34 x36 x37 hL
  refine z_lv (lv' := [(0, .ref h_t), (6, .int x7), (7, .int (0 : Int32))]) [3, 1, 0] rfl ?_
  exact L29 FU o11 x7 (0 : Int32) hL
abbrev w_X8_begin (cA : Nat → ClassId) (h_t : Nat) (a_t : Nat → Nat) (o_t : Ob) : va_W := [(h_t, .inr (8, [.int (o_t 0 0), .int (o_t 1 0), .int (o_t 2 0), .int (o_t 3 0), .ref (a_t 4), .ref (a_t 5), .ref (a_t 6)])), (a_t 4, .inl (cA 0, 8, .inl (o_t 4))), (a_t 5, .inl (cA 0, 8, .inl (o_t 5))), (a_t 6, .inl (cA 1, 8, .inr (.inr (.inl (fun j => (o_t 6 j).toUInt32)))))]
set_option maxRecDepth 20000 in
theorem h_X8_begin_X8 : ∀ w ∈ wsX80, w ∈ wsX8_begin := by decide +kernel
set_option maxRecDepth 20000 in
theorem k_X8_begin_9 : ZF wsX8_begin RX8 9 8 0 RX8 TX8 7 := ⟨rfl, by decide, h_X8_begin_X8, by decide +kernel⟩
set_option maxRecDepth 20000 in
theorem k_X8_begin_15 : ZF wsX8_begin RX8 15 8 1 RX8 TX8 7 := ⟨rfl, by decide, h_X8_begin_X8, by decide +kernel⟩
set_option maxRecDepth 20000 in
theorem k_X8_begin_18 : ZF wsX8_begin RX8 18 8 4 RX8 TX8 7 := ⟨rfl, by decide, h_X8_begin_X8, by decide +kernel⟩
set_option maxRecDepth 20000 in
theorem k_X8_begin_22 : ZF wsX8_begin RX8 22 8 5 RX8 TX8 7 := ⟨rfl, by decide, h_X8_begin_X8, by decide +kernel⟩
set_option maxRecDepth 20000 in
theorem k_X8_begin_25 : ZF wsX8_begin RX8 25 8 6 RX8 TX8 7 := ⟨rfl, by decide, h_X8_begin_X8, by decide +kernel⟩
set_option maxRecDepth 20000 in
theorem k_X8_begin_29 : ZF wsX8_begin RX8 29 8 2 RX8 TX8 7 := ⟨rfl, by decide, h_X8_begin_X8, by decide +kernel⟩
set_option maxRecDepth 20000 in
theorem k_X8_begin_32 : ZF wsX8_begin RX8 32 8 3 RX8 TX8 7 := ⟨rfl, by decide, h_X8_begin_X8, by decide +kernel⟩
set_option maxHeartbeats 8000000 in
set_option maxRecDepth 100000 in
theorem c_X8_begin (l : Launch) (D : va_G) (cA : Nat → ClassId) (g : Nat → Nat) (sz : Nat) (h_t : Nat) (a_t : Nat → Nat) (o_t : Ob) (v1 : Int32) (v2 : Int32) (o_t' : Ob) (hF : f_X8_begin o_t v1 v2 = some o_t') : Met l yX8_begin wsX8_begin ({ frames := 0, cells := 0, slots := 0, locals := 0 }) (va_Pc [.ref h_t, .int v1, .int v2] (PreW D cA g sz (w_X8_begin cA h_t a_t o_t))) (va_Qv (fun (_ : Unit) => True) (PostW D cA sz (w_X8_begin cA h_t a_t o_t) (w_X8_begin cA h_t a_t o_t')) (va_A (w_X8_begin cA h_t a_t o_t) sz)) 0 0 (va_A (w_X8_begin cA h_t a_t o_t) sz) := by
  refine z_start (cc := cX8_begin) (maxL := 4) (ret := none) (lv0 := [(0, .ref h_t), (1, .int v1), (2, .int v2)]) (Qc := fun sz => va_Qv (fun (_ : Unit) => True) (PostW D cA sz (w_X8_begin cA h_t a_t o_t) (w_X8_begin cA h_t a_t o_t')) (va_A (w_X8_begin cA h_t a_t o_t) sz)) (free := fun sz => va_A (w_X8_begin cA h_t a_t o_t) sz) (by decide +kernel) rfl rfl (Nat.le_of_ble_eq_true rfl) ?_
  intro p e R s m args below meth c A Q hR hA hQ X hr hin
  unfold f_X8_begin at hF
  refine z_aload_n X dX8_begin_0 rfl 0 rfl ?_
  refine z_iload_n X dX8_begin_1 rfl 1 rfl ?_
  obtain ⟨o1, eo1, hF⟩ := nx_e hF
  refine z_put (ws' := (w_X8_begin cA h_t a_t o1)) X k_X8_begin_9 tyX8 tyX8_ok nmX8 rfl rfl 0 rfl (Nat.le_of_ble_eq_true rfl) (by rw [eo1]; rfl) dX8_begin_2 ?_
  refine z_aload_n X dX8_begin_5 rfl 0 rfl ?_
  refine z_iload_n X dX8_begin_6 rfl 2 rfl ?_
  obtain ⟨o2, eo2, hF⟩ := nx_e hF
  refine z_put (ws' := (w_X8_begin cA h_t a_t o2)) X k_X8_begin_15 tyX8 tyX8_ok nmX8 rfl rfl 0 rfl (Nat.le_of_ble_eq_true rfl) (by rw [eo2]; rfl) dX8_begin_7 ?_
  refine z_aload_n X dX8_begin_10 rfl 0 rfl ?_
  refine z_iconst (v := (0 : Int32)) X dX8_begin_11 (by decide) ?_
  obtain ⟨o3, eo3, hF⟩ := nx_e hF
  refine z_put (ws' := (w_X8_begin cA h_t a_t o3)) X k_X8_begin_29 tyX8 tyX8_ok nmX8 rfl rfl 0 rfl (Nat.le_of_ble_eq_true rfl) (by rw [eo3]; rfl) dX8_begin_12 ?_
  refine z_aload_n X dX8_begin_15 rfl 0 rfl ?_
  refine z_iconst (v := (0 : Int32)) X dX8_begin_16 (by decide) ?_
  obtain ⟨o4, eo4, hF⟩ := nx_e hF
  refine z_put (ws' := (w_X8_begin cA h_t a_t o4)) X k_X8_begin_32 tyX8 tyX8_ok nmX8 rfl rfl 0 rfl (Nat.le_of_ble_eq_true rfl) (by rw [eo4]; rfl) dX8_begin_17 ?_
  refine z_iconst (v := (0 : Int32)) X dX8_begin_20 (by decide) ?_
  refine z_istore_n (lv' := [(3, .int (0 : Int32)), (0, .ref h_t), (1, .int v1), (2, .int v2)]) X dX8_begin_21 rfl (by decide) rfl ?_
  obtain ⟨o17, hL, hF⟩ := zb1_e hF
  have L18_x : ∀ (o17' : Ob), o17' = o17 → ZW p l e R s m args below meth c D A 4 0 0 Q (w_X8_begin cA h_t a_t o17') [] 55 [] := by
    intro o17' hz
    cases hz
    cases hF
    exact z_vret X hA hQ hr dX8_begin_55 (Nat.le_refl _) (Nat.le_refl _)
  obtain ⟨B28, hBB28, hL⟩ := zl2_b hL
  have L18 : ∀ (n : Nat) (o15 : Ob) (k16 : Int32), zl2 B28 n o15 k16 = some o17 → ZW p l e R s m args below meth c D A 4 0 0 Q (w_X8_begin cA h_t a_t o15) [(0, .ref h_t), (3, .int k16)] 22 [] := by
    intro n
    induction n with
    | zero => intro o15 k16 hL; cases hL
    | succ n ih =>
      intro o15 k16 hL
      obtain ⟨zz19, hF, hL⟩ := zl2_e hL
      rw [hBB28] at hF
      refine z_iload_n X dX8_begin_22 rfl 1 rfl ?_
      refine z_bipush (v := (8 : Int32)) X dX8_begin_23 (by decide) ?_
      have hF := if_e hF
      refine z_icmp_ge (tgt := 55) X dX8_begin_25 (by decide) (fun c27 => ?_) (fun c27 => ?_)
      · have hF := hF.1 c27
        cases hF
        have hL := Option.some.inj hL
        refine z_lv (lv' := []) [] rfl ?_
        exact L18_x o15 hL
      · have hF := hF.2 c27
        refine z_aload_n X dX8_begin_28 rfl 0 rfl ?_
        refine z_get (v := .ref (a_t 4)) X k_X8_begin_18 0 rfl rfl dX8_begin_29 ?_
        refine z_iload_n X dX8_begin_32 rfl 1 rfl ?_
        refine z_iconst (v := (0 : Int32)) X dX8_begin_33 (by decide) ?_
        obtain ⟨g20, hF⟩ := gi_e hF
        obtain ⟨o21, eo21, hF⟩ := nx_e hF
        refine z_iast (ws' := (w_X8_begin cA h_t a_t o21)) X 1 rfl g20 (by rw [eo21]; rfl) dX8_begin_34 ?_
        refine z_aload_n X dX8_begin_35 rfl 0 rfl ?_
        refine z_get (v := .ref (a_t 5)) X k_X8_begin_22 0 rfl rfl dX8_begin_36 ?_
        refine z_iload_n X dX8_begin_39 rfl 1 rfl ?_
        refine z_iconst (v := (0 : Int32)) X dX8_begin_40 (by decide) ?_
        obtain ⟨g22, hF⟩ := gi_e hF
        obtain ⟨o23, eo23, hF⟩ := nx_e hF
        refine z_iast (ws' := (w_X8_begin cA h_t a_t o23)) X 2 rfl g22 (by rw [eo23]; rfl) dX8_begin_41 ?_
        refine z_aload_n X dX8_begin_42 rfl 0 rfl ?_
        refine z_get (v := .ref (a_t 6)) X k_X8_begin_25 0 rfl rfl dX8_begin_43 ?_
        refine z_iload_n X dX8_begin_46 rfl 1 rfl ?_
        refine z_fconst0 X dX8_begin_47 ?_
        obtain ⟨g24, hF⟩ := gi_e hF
        obtain ⟨o25, eo25, hF⟩ := nx_e hF
        refine z_fast (ws' := (w_X8_begin cA h_t a_t o25)) X 3 rfl g24 (by rw [eo25]; rfl) dX8_begin_48 ?_
        obtain ⟨x26, ex26, hF⟩ := nx_e hF
        refine z_iinc (v := x26) (lv' := [(3, .int x26), (0, .ref h_t)]) (j := 1) X dX8_begin_49 rfl (by rw [ex26]; rfl) (by decide) rfl ?_
        refine z_goto (tgt := 22) X dX8_begin_52 (by decide) ?_
        cases hF
        refine z_lv (lv' := [(0, .ref h_t), (3, .int x26)]) [1, 0] rfl ?_
        exact ih o25 x26 hL
  refine z_lv (lv' := [(0, .ref h_t), (3, .int (0 : Int32))]) [1, 0] rfl ?_
  exact L18 FU o4 (0 : Int32) hL
set_option maxRecDepth 20000 in
theorem h_X8_holds_X8 : ∀ w ∈ wsX80, w ∈ wsX8_holds := by decide +kernel
set_option maxRecDepth 20000 in
theorem k_X8_holds_29 : ZF wsX8_holds RX8 29 8 2 RX8 TX8 7 := ⟨rfl, by decide, h_X8_holds_X8, by decide +kernel⟩
set_option maxHeartbeats 8000000 in
set_option maxRecDepth 100000 in
theorem c_X8_holds (l : Launch) (D : va_G) (cA : Nat → ClassId) (g : Nat → Nat) (sz : Nat) (h_t : Nat) (a_t : Nat → Nat) (o_t : Ob) (v1 : Int32) (rv : Int32) (hF : f_X8_holds o_t v1 = some rv) : Met l yX8_holds wsX8_holds ({ frames := 0, cells := 0, slots := 0, locals := 0 }) (va_Pc [.ref h_t, .int v1] (PreW D cA g sz (w_X8_begin cA h_t a_t o_t))) (va_Qi (fun (r : Int32) (_ : Unit) => r = rv) (PostW D cA sz (w_X8_begin cA h_t a_t o_t) (w_X8_begin cA h_t a_t o_t)) (va_A (w_X8_begin cA h_t a_t o_t) sz)) 0 0 (va_A (w_X8_begin cA h_t a_t o_t) sz) := by
  refine z_start (cc := cX8_holds) (maxL := 2) (ret := (some .boolean)) (lv0 := [(0, .ref h_t), (1, .int v1)]) (Qc := fun sz => va_Qi (fun (r : Int32) (_ : Unit) => r = rv) (PostW D cA sz (w_X8_begin cA h_t a_t o_t) (w_X8_begin cA h_t a_t o_t)) (va_A (w_X8_begin cA h_t a_t o_t) sz)) (free := fun sz => va_A (w_X8_begin cA h_t a_t o_t) sz) (by decide +kernel) rfl rfl (Nat.le_of_ble_eq_true rfl) ?_
  intro p e R s m args below meth c A Q hR hA hQ X hr hin
  unfold f_X8_holds at hF
  refine z_aload_n X dX8_holds_0 rfl 0 rfl ?_
  refine z_get (v := .int (o_t 2 0)) X k_X8_holds_29 0 rfl rfl dX8_holds_1 ?_
  refine z_iload_n X dX8_holds_4 rfl 1 rfl ?_
  refine z_ishr X dX8_holds_5 ?_
  refine z_iconst (v := (1 : Int32)) X dX8_holds_6 (by decide) ?_
  refine z_iand X dX8_holds_7 ?_
  refine z_iconst (v := (1 : Int32)) X dX8_holds_8 (by decide) ?_
  have hF := if_e hF
  refine z_icmp_ne (tgt := 16) X dX8_holds_9 (by decide) (fun c1 => ?_) (fun c1 => ?_)
  · have hF := hF.2 c1
    refine z_iconst (v := (0 : Int32)) X dX8_holds_16 (by decide) ?_
    cases hF
    exact z_zret X hA hQ hr (Or.inl rfl)  rfl dX8_holds_17 (Nat.le_refl _) (Nat.le_refl _)
  · have hF := hF.1 c1
    refine z_iconst (v := (1 : Int32)) X dX8_holds_12 (by decide) ?_
    refine z_goto (tgt := 17) X dX8_holds_13 (by decide) ?_
    cases hF
    exact z_zret X hA hQ hr (Or.inr rfl)  rfl dX8_holds_17 (Nat.le_refl _) (Nat.le_refl _)
set_option maxRecDepth 20000 in
theorem h_X8_free_X8 : ∀ w ∈ wsX80, w ∈ wsX8_free := by decide +kernel
set_option maxRecDepth 20000 in
theorem k_X8_free_9 : ZF wsX8_free RX8 9 8 0 RX8 TX8 7 := ⟨rfl, by decide, h_X8_free_X8, by decide +kernel⟩
set_option maxRecDepth 20000 in
theorem k_X8_free_32 : ZF wsX8_free RX8 32 8 3 RX8 TX8 7 := ⟨rfl, by decide, h_X8_free_X8, by decide +kernel⟩
set_option maxHeartbeats 8000000 in
set_option maxRecDepth 100000 in
theorem c_X8_free (l : Launch) (D : va_G) (cA : Nat → ClassId) (g : Nat → Nat) (sz : Nat) (h_t : Nat) (a_t : Nat → Nat) (o_t : Ob)  (rv : Int32) (hF : f_X8_free o_t = some rv) : Met l yX8_free wsX8_free ({ frames := 0, cells := 0, slots := 0, locals := 0 }) (va_Pc [.ref h_t] (PreW D cA g sz (w_X8_begin cA h_t a_t o_t))) (va_Qi (fun (r : Int32) (_ : Unit) => r = rv) (PostW D cA sz (w_X8_begin cA h_t a_t o_t) (w_X8_begin cA h_t a_t o_t)) (va_A (w_X8_begin cA h_t a_t o_t) sz)) 0 0 (va_A (w_X8_begin cA h_t a_t o_t) sz) := by
  refine z_start (cc := cX8_free) (maxL := 1) (ret := (some .int)) (lv0 := [(0, .ref h_t)]) (Qc := fun sz => va_Qi (fun (r : Int32) (_ : Unit) => r = rv) (PostW D cA sz (w_X8_begin cA h_t a_t o_t) (w_X8_begin cA h_t a_t o_t)) (va_A (w_X8_begin cA h_t a_t o_t) sz)) (free := fun sz => va_A (w_X8_begin cA h_t a_t o_t) sz) (by decide +kernel) rfl rfl (Nat.le_of_ble_eq_true rfl) ?_
  intro p e R s m args below meth c A Q hR hA hQ X hr hin
  unfold f_X8_free at hF
  refine z_aload_n X dX8_free_0 rfl 0 rfl ?_
  refine z_get (v := .int (o_t 0 0)) X k_X8_free_9 0 rfl rfl dX8_free_1 ?_
  refine z_aload_n X dX8_free_4 rfl 0 rfl ?_
  refine z_get (v := .int (o_t 3 0)) X k_X8_free_32 0 rfl rfl dX8_free_5 ?_
  refine z_isub X dX8_free_8 ?_
  cases hF
  exact z_iret X hA hQ hr rfl dX8_free_9 (Nat.le_refl _) (Nat.le_refl _)
set_option maxRecDepth 20000 in
theorem h_X8_warm_X8 : ∀ w ∈ wsX80, w ∈ wsX8_warm := by decide +kernel
set_option maxRecDepth 20000 in
theorem k_X8_warm_25 : ZF wsX8_warm RX8 25 8 6 RX8 TX8 7 := ⟨rfl, by decide, h_X8_warm_X8, by decide +kernel⟩
set_option maxRecDepth 20000 in
theorem k_X8_warm_c81 : Cond.constantFloat RX8 81 1063256064 ∈ wsX8_warm := by decide +kernel
set_option maxHeartbeats 8000000 in
set_option maxRecDepth 100000 in
theorem c_X8_warm (l : Launch) (D : va_G) (cA : Nat → ClassId) (g : Nat → Nat) (sz : Nat) (h_t : Nat) (a_t : Nat → Nat) (o_t : Ob) (v1 : Int32) (o_t' : Ob) (hF : f_X8_warm o_t v1 = some o_t') : Met l yX8_warm wsX8_warm ({ frames := 0, cells := 0, slots := 0, locals := 0 }) (va_Pc [.ref h_t, .int v1] (PreW D cA g sz (w_X8_begin cA h_t a_t o_t))) (va_Qv (fun (_ : Unit) => True) (PostW D cA sz (w_X8_begin cA h_t a_t o_t) (w_X8_begin cA h_t a_t o_t')) (va_A (w_X8_begin cA h_t a_t o_t) sz)) 0 0 (va_A (w_X8_begin cA h_t a_t o_t) sz) := by
  refine z_start (cc := cX8_warm) (maxL := 3) (ret := none) (lv0 := [(0, .ref h_t), (1, .int v1)]) (Qc := fun sz => va_Qv (fun (_ : Unit) => True) (PostW D cA sz (w_X8_begin cA h_t a_t o_t) (w_X8_begin cA h_t a_t o_t')) (va_A (w_X8_begin cA h_t a_t o_t) sz)) (free := fun sz => va_A (w_X8_begin cA h_t a_t o_t) sz) (by decide +kernel) rfl rfl (Nat.le_of_ble_eq_true rfl) ?_
  intro p e R s m args below meth c A Q hR hA hQ X hr hin
  unfold f_X8_warm at hF
  refine z_iconst (v := (0 : Int32)) X dX8_warm_0 (by decide) ?_
  refine z_istore_n (lv' := [(2, .int (0 : Int32)), (0, .ref h_t), (1, .int v1)]) X dX8_warm_1 rfl (by decide) rfl ?_
  obtain ⟨o11, hL, hF⟩ := zb1_e hF
  have L16_x : ∀ (o11' : Ob), o11' = o11 → ZW p l e R s m args below meth c D A 3 0 0 Q (w_X8_begin cA h_t a_t o11') [(0, .ref h_t), (1, .int v1)] 29 [] := by
    intro o11' hz
    cases hz
    refine z_aload_n X dX8_warm_29 rfl 0 rfl ?_
    refine z_get (v := .ref (a_t 6)) X k_X8_warm_25 0 rfl rfl dX8_warm_30 ?_
    refine z_iload_n X dX8_warm_33 rfl 1 rfl ?_
    refine z_aload_n X dX8_warm_34 rfl 0 rfl ?_
    refine z_get (v := .ref (a_t 6)) X k_X8_warm_25 0 rfl rfl dX8_warm_35 ?_
    refine z_iload_n X dX8_warm_38 rfl 1 rfl ?_
    obtain ⟨g12, hF⟩ := gi_e hF
    refine z_fald X 3 rfl g12 dX8_warm_39 ?_
    refine z_fconst1 X dX8_warm_40 ?_
    obtain ⟨g13, hF⟩ := gq_e hF
    refine z_fadd X g13 dX8_warm_41 ?_
    obtain ⟨g14, hF⟩ := gi_e hF
    obtain ⟨o15, eo15, hF⟩ := nx_e hF
    refine z_fast (ws' := (w_X8_begin cA h_t a_t o15)) X 3 rfl g14 (by rw [eo15]; rfl) dX8_warm_42 ?_
    cases hF
    exact z_vret X hA hQ hr dX8_warm_43 (Nat.le_refl _) (Nat.le_refl _)
  obtain ⟨B24, hBB24, hL⟩ := zl2_b hL
  have L16 : ∀ (n : Nat) (o9 : Ob) (k10 : Int32), zl2 B24 n o9 k10 = some o11 → ZW p l e R s m args below meth c D A 3 0 0 Q (w_X8_begin cA h_t a_t o9) [(0, .ref h_t), (1, .int v1), (2, .int k10)] 2 [] := by
    intro n
    induction n with
    | zero => intro o9 k10 hL; cases hL
    | succ n ih =>
      intro o9 k10 hL
      obtain ⟨zz17, hF, hL⟩ := zl2_e hL
      rw [hBB24] at hF
      refine z_iload_n X dX8_warm_2 rfl 2 rfl ?_
      refine z_bipush (v := (8 : Int32)) X dX8_warm_3 (by decide) ?_
      have hF := if_e hF
      refine z_icmp_ge (tgt := 29) X dX8_warm_5 (by decide) (fun c23 => ?_) (fun c23 => ?_)
      · have hF := hF.1 c23
        cases hF
        have hL := Option.some.inj hL
        refine z_lv (lv' := [(0, .ref h_t), (1, .int v1)]) [0, 1] rfl ?_
        exact L16_x o9 hL
      · have hF := hF.2 c23
        refine z_aload_n X dX8_warm_8 rfl 0 rfl ?_
        refine z_get (v := .ref (a_t 6)) X k_X8_warm_25 0 rfl rfl dX8_warm_9 ?_
        refine z_iload_n X dX8_warm_12 rfl 2 rfl ?_
        refine z_aload_n X dX8_warm_13 rfl 0 rfl ?_
        refine z_get (v := .ref (a_t 6)) X k_X8_warm_25 0 rfl rfl dX8_warm_14 ?_
        refine z_iload_n X dX8_warm_17 rfl 2 rfl ?_
        obtain ⟨g18, hF⟩ := gi_e hF
        refine z_fald X 3 rfl g18 dX8_warm_18 ?_
        refine z_ldcf X k_X8_warm_c81 dX8_warm_19 ?_
        obtain ⟨g19, hF⟩ := gq_e hF
        refine z_fmul X g19 dX8_warm_21 ?_
        obtain ⟨g20, hF⟩ := gi_e hF
        obtain ⟨o21, eo21, hF⟩ := nx_e hF
        refine z_fast (ws' := (w_X8_begin cA h_t a_t o21)) X 3 rfl g20 (by rw [eo21]; rfl) dX8_warm_22 ?_
        obtain ⟨x22, ex22, hF⟩ := nx_e hF
        refine z_iinc (v := x22) (lv' := [(2, .int x22), (0, .ref h_t), (1, .int v1)]) (j := 2) X dX8_warm_23 rfl (by rw [ex22]; rfl) (by decide) rfl ?_
        refine z_goto (tgt := 2) X dX8_warm_26 (by decide) ?_
        cases hF
        refine z_lv (lv' := [(0, .ref h_t), (1, .int v1), (2, .int x22)]) [1, 2, 0] rfl ?_
        exact ih o21 x22 hL
  refine z_lv (lv' := [(0, .ref h_t), (1, .int v1), (2, .int (0 : Int32))]) [1, 2, 0] rfl ?_
  exact L16 FU o_t (0 : Int32) hL
set_option maxRecDepth 20000 in
theorem h_X10_fullDensity_X10 : ∀ w ∈ wsX100, w ∈ wsX10_fullDensity := by decide +kernel
set_option maxRecDepth 20000 in
theorem k_X10_fullDensity_9 : ZF wsX10_fullDensity RX10 9 10 1 RX10 TX10 5 := ⟨rfl, by decide, h_X10_fullDensity_X10, by decide +kernel⟩
set_option maxRecDepth 20000 in
theorem k_X10_fullDensity_15 : ZF wsX10_fullDensity RX10 15 10 2 RX10 TX10 5 := ⟨rfl, by decide, h_X10_fullDensity_X10, by decide +kernel⟩
set_option maxHeartbeats 8000000 in
set_option maxRecDepth 100000 in
theorem c_X10_fullDensity (l : Launch) (D : va_G) (cA : Nat → ClassId) (g : Nat → Nat) (sz : Nat) (h_t : Nat) (a_t : Nat → Nat) (o_t : Ob) (v1 : Int32) (rv : Int32) (hF : f_X10_fullDensity o_t v1 = some rv) : Met l yX10_fullDensity wsX10_fullDensity ({ frames := 0, cells := 0, slots := 0, locals := 0 }) (va_Pc [.ref h_t, .int v1] (PreW D cA g sz (w_X10_numberOf cA h_t a_t o_t))) (va_Qi (fun (r : Int32) (_ : Unit) => r = rv) (PostW D cA sz (w_X10_numberOf cA h_t a_t o_t) (w_X10_numberOf cA h_t a_t o_t)) (va_A (w_X10_numberOf cA h_t a_t o_t) sz)) 0 0 (va_A (w_X10_numberOf cA h_t a_t o_t) sz) := by
  refine z_start (cc := cX10_fullDensity) (maxL := 2) (ret := (some .int)) (lv0 := [(0, .ref h_t), (1, .int v1)]) (Qc := fun sz => va_Qi (fun (r : Int32) (_ : Unit) => r = rv) (PostW D cA sz (w_X10_numberOf cA h_t a_t o_t) (w_X10_numberOf cA h_t a_t o_t)) (va_A (w_X10_numberOf cA h_t a_t o_t) sz)) (free := fun sz => va_A (w_X10_numberOf cA h_t a_t o_t) sz) (by decide +kernel) rfl rfl (Nat.le_of_ble_eq_true rfl) ?_
  intro p e R s m args below meth c A Q hR hA hQ X hr hin
  unfold f_X10_fullDensity at hF
  refine z_aload_n X dX10_fullDensity_0 rfl 0 rfl ?_
  refine z_get (v := .ref (a_t 1)) X k_X10_fullDensity_9 0 rfl rfl dX10_fullDensity_1 ?_
  refine z_iload_n X dX10_fullDensity_4 rfl 1 rfl ?_
  obtain ⟨g1, hF⟩ := gi_e hF
  refine z_iald X 1 rfl g1 dX10_fullDensity_5 ?_
  refine z_iconst (v := (1 : Int32)) X dX10_fullDensity_6 (by decide) ?_
  have hF := if_e hF
  refine z_icmp_ge (tgt := 14) X dX10_fullDensity_7 (by decide) (fun c5 => ?_) (fun c5 => ?_)
  · have hF := hF.1 c5
    refine z_bipush (v := (60 : Int32)) X dX10_fullDensity_14 (by decide) ?_
    refine z_aload_n X dX10_fullDensity_16 rfl 0 rfl ?_
    refine z_get (v := .ref (a_t 2)) X k_X10_fullDensity_15 0 rfl rfl dX10_fullDensity_17 ?_
    refine z_iload_n X dX10_fullDensity_20 rfl 1 rfl ?_
    obtain ⟨g2, hF⟩ := gi_e hF
    refine z_iald X 2 rfl g2 dX10_fullDensity_21 ?_
    refine z_imul X dX10_fullDensity_22 ?_
    refine z_aload_n X dX10_fullDensity_23 rfl 0 rfl ?_
    refine z_get (v := .ref (a_t 1)) X k_X10_fullDensity_9 0 rfl rfl dX10_fullDensity_24 ?_
    refine z_iload_n X dX10_fullDensity_27 rfl 1 rfl ?_
    obtain ⟨g3, hF⟩ := gi_e hF
    refine z_iald X 1 rfl g3 dX10_fullDensity_28 ?_
    obtain ⟨g4, hF⟩ := gn_e hF
    refine z_idiv X g4 dX10_fullDensity_29 ?_
    cases hF
    exact z_iret X hA hQ hr rfl dX10_fullDensity_30 (Nat.le_refl _) (Nat.le_refl _)
  · have hF := hF.2 c5
    refine z_iconst (v := (0 : Int32)) X dX10_fullDensity_10 (by decide) ?_
    refine z_goto (tgt := 30) X dX10_fullDensity_11 (by decide) ?_
    cases hF
    exact z_iret X hA hQ hr rfl dX10_fullDensity_30 (Nat.le_refl _) (Nat.le_refl _)
abbrev w_X8_isRipe (cA : Nat → ClassId) (h_t : Nat) (a_t : Nat → Nat) (o_t : Ob) (h_p1 : Nat) (a_p1 : Nat → Nat) (o_p1 : Ob) : va_W := [(h_t, .inr (8, [.int (o_t 0 0), .int (o_t 1 0), .int (o_t 2 0), .int (o_t 3 0), .ref (a_t 4), .ref (a_t 5), .ref (a_t 6)])), (a_t 4, .inl (cA 0, 8, .inl (o_t 4))), (a_t 5, .inl (cA 0, 8, .inl (o_t 5))), (a_t 6, .inl (cA 1, 8, .inr (.inr (.inl (fun j => (o_t 6 j).toUInt32))))), (h_p1, .inr (10, [.int (o_p1 0 0), .ref (a_p1 1), .ref (a_p1 2), .ref (a_p1 3), .ref (a_p1 4)])), (a_p1 1, .inl (cA 0, 8, .inl (o_p1 1))), (a_p1 2, .inl (cA 0, 8, .inl (o_p1 2))), (a_p1 3, .inl (cA 0, 8, .inl (o_p1 3))), (a_p1 4, .inl (cA 0, 8, .inl (o_p1 4)))]
set_option maxRecDepth 20000 in
theorem h_X8_isRipe_X8 : ∀ w ∈ wsX80, w ∈ wsX8_isRipe := by decide +kernel
set_option maxRecDepth 20000 in
theorem k_X8_isRipe_15 : ZF wsX8_isRipe RX8 15 8 1 RX8 TX8 7 := ⟨rfl, by decide, h_X8_isRipe_X8, by decide +kernel⟩
set_option maxRecDepth 20000 in
theorem k_X8_isRipe_22 : ZF wsX8_isRipe RX8 22 8 5 RX8 TX8 7 := ⟨rfl, by decide, h_X8_isRipe_X8, by decide +kernel⟩
set_option maxRecDepth 20000 in
theorem k_X8_isRipe_25 : ZF wsX8_isRipe RX8 25 8 6 RX8 TX8 7 := ⟨rfl, by decide, h_X8_isRipe_X8, by decide +kernel⟩
set_option maxRecDepth 20000 in
theorem h_X8_isRipe_X10 : ∀ w ∈ wsX100, w ∈ wsX8_isRipe := by decide +kernel
set_option maxRecDepth 20000 in
theorem k_X8_isRipe_64 : ZF wsX8_isRipe RX8 64 10 3 RX10 TX10 5 := ⟨rfl, by decide, h_X8_isRipe_X10, by decide +kernel⟩
set_option maxRecDepth 20000 in
theorem k_X8_isRipe_78 : ZF wsX8_isRipe RX8 78 10 2 RX10 TX10 5 := ⟨rfl, by decide, h_X8_isRipe_X10, by decide +kernel⟩
set_option maxHeartbeats 8000000 in
set_option maxRecDepth 100000 in
theorem c_X8_isRipe (l : Launch) (D : va_G) (cA : Nat → ClassId) (g : Nat → Nat) (sz : Nat) (h_t : Nat) (a_t : Nat → Nat) (o_t : Ob) (h_p1 : Nat) (a_p1 : Nat → Nat) (o_p1 : Ob) (v2 : Int32) (o_t' : Ob) (rv : Int32) (hF : f_X8_isRipe o_t o_p1 v2 = some (o_t', rv)) : Met l yX8_isRipe wsX8_isRipe ({ frames := 0, cells := 0, slots := 0, locals := 0 }) (va_Pc [.ref h_t, .ref h_p1, .int v2] (PreW D cA g sz (w_X8_isRipe cA h_t a_t o_t h_p1 a_p1 o_p1))) (va_Qi (fun (r : Int32) (_ : Unit) => r = rv) (PostW D cA sz (w_X8_isRipe cA h_t a_t o_t h_p1 a_p1 o_p1) (w_X8_isRipe cA h_t a_t o_t' h_p1 a_p1 o_p1)) (va_A (w_X8_isRipe cA h_t a_t o_t h_p1 a_p1 o_p1) sz)) 0 0 (va_A (w_X8_isRipe cA h_t a_t o_t h_p1 a_p1 o_p1) sz) := by
  refine z_start (cc := cX8_isRipe) (maxL := 3) (ret := (some .boolean)) (lv0 := [(0, .ref h_t), (1, .ref h_p1), (2, .int v2)]) (Qc := fun sz => va_Qi (fun (r : Int32) (_ : Unit) => r = rv) (PostW D cA sz (w_X8_isRipe cA h_t a_t o_t h_p1 a_p1 o_p1) (w_X8_isRipe cA h_t a_t o_t' h_p1 a_p1 o_p1)) (va_A (w_X8_isRipe cA h_t a_t o_t h_p1 a_p1 o_p1) sz)) (free := fun sz => va_A (w_X8_isRipe cA h_t a_t o_t h_p1 a_p1 o_p1) sz) (by decide +kernel) rfl rfl (Nat.le_of_ble_eq_true rfl) ?_
  intro p e R s m args below meth c A Q hR hA hQ X hr hin
  unfold f_X8_isRipe at hF
  refine z_aload_n X dX8_isRipe_0 rfl 0 rfl ?_
  refine z_get (v := .int (o_t 1 0)) X k_X8_isRipe_15 0 rfl rfl dX8_isRipe_1 ?_
  have hF := if_e hF
  refine z_if_ne (tgt := 9) X dX8_isRipe_4 (by decide) (fun c14 => ?_) (fun c14 => ?_)
  · have hF := hF.2 c14
    refine z_aload_n X dX8_isRipe_9 rfl 0 rfl ?_
    refine z_get (v := .int (o_t 1 0)) X k_X8_isRipe_15 0 rfl rfl dX8_isRipe_10 ?_
    refine z_iconst (v := (2 : Int32)) X dX8_isRipe_13 (by decide) ?_
    have hF := if_e hF
    refine z_icmp_ne (tgt := 48) X dX8_isRipe_14 (by decide) (fun c13 => ?_) (fun c13 => ?_)
    · have hF := hF.2 c13
      refine z_aload_n X dX8_isRipe_48 rfl 0 rfl ?_
      refine z_get (v := .ref (a_t 5)) X k_X8_isRipe_22 0 rfl rfl dX8_isRipe_49 ?_
      refine z_iload_n X dX8_isRipe_52 rfl 2 rfl ?_
      refine z_dup2 X dX8_isRipe_53 rfl rfl ?_
      obtain ⟨g1, hF⟩ := gi_e hF
      refine z_iald X 2 rfl g1 dX8_isRipe_54 ?_
      refine z_aload_n X dX8_isRipe_55 rfl 1 rfl ?_
      refine z_get (v := .ref (a_p1 3)) X k_X8_isRipe_64 4 rfl rfl dX8_isRipe_56 ?_
      refine z_iload_n X dX8_isRipe_59 rfl 2 rfl ?_
      obtain ⟨g2, hF⟩ := gi_e hF
      refine z_iald X 7 rfl g2 dX8_isRipe_60 ?_
      refine z_iadd X dX8_isRipe_61 ?_
      obtain ⟨g3, hF⟩ := gi_e hF
      obtain ⟨o4, eo4, hF⟩ := nx_e hF
      refine z_iast (ws' := (w_X8_isRipe cA h_t a_t o4 h_p1 a_p1 o_p1)) X 2 rfl g3 (by rw [eo4]; rfl) dX8_isRipe_62 ?_
      refine z_aload_n X dX8_isRipe_63 rfl 0 rfl ?_
      refine z_get (v := .ref (a_t 5)) X k_X8_isRipe_22 0 rfl rfl dX8_isRipe_64 ?_
      refine z_iload_n X dX8_isRipe_67 rfl 2 rfl ?_
      obtain ⟨g5, hF⟩ := gi_e hF
      refine z_iald X 2 rfl g5 dX8_isRipe_68 ?_
      refine z_aload_n X dX8_isRipe_69 rfl 1 rfl ?_
      refine z_get (v := .ref (a_p1 2)) X k_X8_isRipe_78 4 rfl rfl dX8_isRipe_70 ?_
      refine z_iload_n X dX8_isRipe_73 rfl 2 rfl ?_
      obtain ⟨g6, hF⟩ := gi_e hF
      refine z_iald X 6 rfl g6 dX8_isRipe_74 ?_
      have hF := if_e hF
      refine z_icmp_lt (tgt := 82) X dX8_isRipe_75 (by decide) (fun c7 => ?_) (fun c7 => ?_)
      · have hF := hF.1 c7
        refine z_iconst (v := (0 : Int32)) X dX8_isRipe_82 (by decide) ?_
        cases hF
        exact z_zret X hA hQ hr (Or.inl rfl)  rfl dX8_isRipe_83 (Nat.le_refl _) (Nat.le_refl _)
      · have hF := hF.2 c7
        refine z_iconst (v := (1 : Int32)) X dX8_isRipe_78 (by decide) ?_
        refine z_goto (tgt := 83) X dX8_isRipe_79 (by decide) ?_
        cases hF
        exact z_zret X hA hQ hr (Or.inr rfl)  rfl dX8_isRipe_83 (Nat.le_refl _) (Nat.le_refl _)
    · have hF := hF.1 c13
      refine z_aload_n X dX8_isRipe_17 rfl 0 rfl ?_
      refine z_get (v := .ref (a_t 6)) X k_X8_isRipe_25 0 rfl rfl dX8_isRipe_18 ?_
      refine z_iload_n X dX8_isRipe_21 rfl 2 rfl ?_
      obtain ⟨g8, hF⟩ := gi_e hF
      refine z_fald X 3 rfl g8 dX8_isRipe_22 ?_
      refine z_aload_n X dX8_isRipe_23 rfl 1 rfl ?_
      refine z_get (v := .ref (a_p1 3)) X k_X8_isRipe_64 4 rfl rfl dX8_isRipe_24 ?_
      refine z_iload_n X dX8_isRipe_27 rfl 2 rfl ?_
      obtain ⟨g9, hF⟩ := gi_e hF
      refine z_iald X 7 rfl g9 dX8_isRipe_28 ?_
      refine z_i2f X dX8_isRipe_29 ?_
      obtain ⟨g10, hF⟩ := gq_e hF
      refine z_fmul X g10 dX8_isRipe_30 ?_
      refine z_aload_n X dX8_isRipe_31 rfl 1 rfl ?_
      refine z_get (v := .ref (a_p1 2)) X k_X8_isRipe_78 4 rfl rfl dX8_isRipe_32 ?_
      refine z_iload_n X dX8_isRipe_35 rfl 2 rfl ?_
      obtain ⟨g11, hF⟩ := gi_e hF
      refine z_iald X 6 rfl g11 dX8_isRipe_36 ?_
      refine z_i2f X dX8_isRipe_37 ?_
      refine z_fcmp X dX8_isRipe_38 ?_
      have hF := if_e hF
      refine z_if_lt (tgt := 46) X dX8_isRipe_39 (by decide) (fun c12 => ?_) (fun c12 => ?_)
      · have hF := hF.1 c12
        refine z_iconst (v := (0 : Int32)) X dX8_isRipe_46 (by decide) ?_
        cases hF
        exact z_zret X hA hQ hr (Or.inl rfl)  rfl dX8_isRipe_47 (Nat.le_refl _) (Nat.le_refl _)
      · have hF := hF.2 c12
        refine z_iconst (v := (1 : Int32)) X dX8_isRipe_42 (by decide) ?_
        refine z_goto (tgt := 47) X dX8_isRipe_43 (by decide) ?_
        cases hF
        exact z_zret X hA hQ hr (Or.inr rfl)  rfl dX8_isRipe_47 (Nat.le_refl _) (Nat.le_refl _)
  · have hF := hF.1 c14
    refine z_iconst (v := (1 : Int32)) X dX8_isRipe_7 (by decide) ?_
    cases hF
    exact z_zret X hA hQ hr (Or.inr rfl)  rfl dX8_isRipe_8 (Nat.le_refl _) (Nat.le_refl _)
set_option maxRecDepth 20000 in
theorem h_X8_poorestOnFast_X8 : ∀ w ∈ wsX80, w ∈ wsX8_poorestOnFast := by decide +kernel
set_option maxRecDepth 20000 in
theorem k_X8_poorestOnFast_18 : ZF wsX8_poorestOnFast RX8 18 8 4 RX8 TX8 7 := ⟨rfl, by decide, h_X8_poorestOnFast_X8, by decide +kernel⟩
set_option maxRecDepth 20000 in
theorem h_X8_poorestOnFast_X10 : ∀ w ∈ wsX100, w ∈ wsX8_poorestOnFast := by decide +kernel
set_option maxRecDepth 20000 in
theorem k_X8_poorestOnFast_97 : ZF wsX8_poorestOnFast RX8 97 10 0 RX10 TX10 5 := ⟨rfl, by decide, h_X8_poorestOnFast_X10, by decide +kernel⟩
set_option maxHeartbeats 8000000 in
set_option maxRecDepth 100000 in
theorem c_X8_poorestOnFast (l : Launch) (D : va_G) (cA : Nat → ClassId) (g : Nat → Nat) (sz : Nat) (h_t : Nat) (a_t : Nat → Nat) (o_t : Ob) (h_p1 : Nat) (a_p1 : Nat → Nat) (o_p1 : Ob)  (rv : Int32) (hF : f_X8_poorestOnFast o_t o_p1 = some rv) : Met l yX8_poorestOnFast wsX8_poorestOnFast ({ frames := 1, cells := 0, slots := 0, locals := 21 }) (va_Pc [.ref h_t, .ref h_p1] (PreW D cA g sz (w_X8_isRipe cA h_t a_t o_t h_p1 a_p1 o_p1))) (va_Qi (fun (r : Int32) (_ : Unit) => r = rv) (PostW D cA sz (w_X8_isRipe cA h_t a_t o_t h_p1 a_p1 o_p1) (w_X8_isRipe cA h_t a_t o_t h_p1 a_p1 o_p1)) (va_A (w_X8_isRipe cA h_t a_t o_t h_p1 a_p1 o_p1) sz)) 0 0 (va_A (w_X8_isRipe cA h_t a_t o_t h_p1 a_p1 o_p1) sz) := by
  refine z_start (cc := cX8_poorestOnFast) (maxL := 4) (ret := (some .int)) (lv0 := [(0, .ref h_t), (1, .ref h_p1)]) (Qc := fun sz => va_Qi (fun (r : Int32) (_ : Unit) => r = rv) (PostW D cA sz (w_X8_isRipe cA h_t a_t o_t h_p1 a_p1 o_p1) (w_X8_isRipe cA h_t a_t o_t h_p1 a_p1 o_p1)) (va_A (w_X8_isRipe cA h_t a_t o_t h_p1 a_p1 o_p1) sz)) (free := fun sz => va_A (w_X8_isRipe cA h_t a_t o_t h_p1 a_p1 o_p1) sz) (by decide +kernel) rfl rfl (Nat.le_of_ble_eq_true rfl) ?_
  intro p e R s m args below meth c A Q hR hA hQ X hr hin
  unfold f_X8_poorestOnFast at hF
  refine z_iconst (v := (-1 : Int32)) X dX8_poorestOnFast_0 (by decide) ?_
  refine z_istore_n (lv' := [(2, .int (-1 : Int32)), (0, .ref h_t), (1, .ref h_p1)]) X dX8_poorestOnFast_1 rfl (by decide) rfl ?_
  refine z_iconst (v := (0 : Int32)) X dX8_poorestOnFast_2 (by decide) ?_
  refine z_istore_n (lv' := [(3, .int (0 : Int32)), (2, .int (-1 : Int32)), (0, .ref h_t), (1, .ref h_p1)]) X dX8_poorestOnFast_3 rfl (by decide) rfl ?_
  obtain ⟨k24, hL, hF⟩ := zb1_e hF
  have L25_x : ∀ (k24' : Int32), k24' = k24 → ZW p l e R s m args below meth c D A 4 0 0 Q (w_X8_isRipe cA h_t a_t o_t h_p1 a_p1 o_p1) [(2, .int k24')] 48 [] := by
    intro k24' hz
    cases hz
    refine z_iload_n X dX8_poorestOnFast_48 rfl 0 rfl ?_
    cases hF
    exact z_iret X hA hQ hr rfl dX8_poorestOnFast_49 (Nat.le_refl _) (Nat.le_refl _)
  obtain ⟨B44, hBB44, hL⟩ := zl2_b hL
  have L25 : ∀ (n : Nat) (k22 : Int32) (k23 : Int32), zl2 B44 n k22 k23 = some k24 → ZW p l e R s m args below meth c D A 4 0 0 Q (w_X8_isRipe cA h_t a_t o_t h_p1 a_p1 o_p1) [(0, .ref h_t), (1, .ref h_p1), (2, .int k22), (3, .int k23)] 4 [] := by
    intro n
    induction n with
    | zero => intro k22 k23 hL; cases hL
    | succ n ih =>
      intro k22 k23 hL
      obtain ⟨zz26, hF, hL⟩ := zl2_e hL
      rw [hBB44] at hF
      refine z_iload_n X dX8_poorestOnFast_4 rfl 3 rfl ?_
      refine z_aload_n X dX8_poorestOnFast_5 rfl 1 rfl ?_
      refine z_get (v := .int (o_p1 0 0)) X k_X8_poorestOnFast_97 4 rfl rfl dX8_poorestOnFast_6 ?_
      have hF := if_e hF
      refine z_icmp_ge (tgt := 48) X dX8_poorestOnFast_9 (by decide) (fun c43 => ?_) (fun c43 => ?_)
      · have hF := hF.1 c43
        cases hF
        have hL := Option.some.inj hL
        refine z_lv (lv' := [(2, .int k22)]) [2] rfl ?_
        exact L25_x k22 hL
      · have hF := hF.2 c43
        refine z_aload_n X dX8_poorestOnFast_12 rfl 0 rfl ?_
        refine z_iload_n X dX8_poorestOnFast_13 rfl 3 rfl ?_
        obtain ⟨r27, hc28, hF⟩ := zb1_e hF
        refine z_Vi (As := [.int k23]) (rest := []) (wc := (w_X8_begin cA h_t a_t o_t)) (wc' := (w_X8_begin cA h_t a_t o_t)) (ws' := (w_X8_isRipe cA h_t a_t o_t h_p1 a_p1 o_p1)) (rv := r27) X (cwV 1 X.2.2.2.2.1 gX8_poorestOnFast_X8_holds rfl rfl rfl (by decide +kernel) (by rw [hR]; exact ⟨Nat.le_of_ble_eq_true rfl, Nat.le_of_ble_eq_true rfl⟩)) (fun sz => c_X8_holds l D cA g sz h_t a_t o_t k23 r27 hc28) [0, 1, 2, 3] [1000, 1001, 1002, 1003, 4, 5, 6, 7, 8] rfl (by decide) rfl (by decide) rfl rfl rfl rfl rfl rfl (Nat.le_of_ble_eq_true rfl) dX8_poorestOnFast_14 ⟨Nat.zero_le _, Nat.zero_le _⟩ ?_
        have hF := if_e hF
        refine z_if_eq (tgt := 42) X dX8_poorestOnFast_17 (by decide) (fun c42 => ?_) (fun c42 => ?_)
        · have hF := hF.1 c42
          obtain ⟨x29, ex29, hF⟩ := nx_e hF
          refine z_iinc (v := x29) (lv' := [(3, .int x29), (0, .ref h_t), (1, .ref h_p1), (2, .int k22)]) (j := 3) X dX8_poorestOnFast_42 rfl (by rw [ex29]; rfl) (by decide) rfl ?_
          refine z_goto (tgt := 4) X dX8_poorestOnFast_45 (by decide) ?_
          cases hF
          refine z_lv (lv' := [(0, .ref h_t), (1, .ref h_p1), (2, .int k22), (3, .int x29)]) [1, 2, 3, 0] rfl ?_
          exact ih k22 x29 hL
        · have hF := hF.2 c42
          refine z_iload_n X dX8_poorestOnFast_20 rfl 2 rfl ?_
          refine z_iconst (v := (-1 : Int32)) X dX8_poorestOnFast_21 (by decide) ?_
          obtain ⟨K35, eK35, hF⟩ := nx_e hF
          have K35_l : ∀ (_ : Unit), K35 () = some zz26 → ZW p l e R s m args below meth c D A 4 0 0 Q (w_X8_isRipe cA h_t a_t o_t h_p1 a_p1 o_p1) [(0, .ref h_t), (1, .ref h_p1), (3, .int k23)] 40 [] := by
            intro _ hF
            rw [eK35] at hF
            refine z_iload_n X dX8_poorestOnFast_40 rfl 2 rfl ?_
            refine z_istore_n (lv' := [(2, .int k23), (0, .ref h_t), (1, .ref h_p1), (3, .int k23)]) X dX8_poorestOnFast_41 rfl (by decide) rfl ?_
            obtain ⟨x36, ex36, hF⟩ := nx_e hF
            refine z_iinc (v := x36) (lv' := [(3, .int x36), (2, .int k23), (0, .ref h_t), (1, .ref h_p1)]) (j := 3) X dX8_poorestOnFast_42 rfl (by rw [ex36]; rfl) (by decide) rfl ?_
            refine z_goto (tgt := 4) X dX8_poorestOnFast_45 (by decide) ?_
            cases hF
            refine z_lv (lv' := [(0, .ref h_t), (1, .ref h_p1), (2, .int k23), (3, .int x36)]) [2, 3, 1, 0] rfl ?_
            exact ih k23 x36 hL
          have hF := if_e hF
          refine z_icmp_eq (tgt := 40) X dX8_poorestOnFast_22 (by decide) (fun c41 => ?_) (fun c41 => ?_)
          · have hF := hF.1 c41
            refine z_lv (lv' := [(0, .ref h_t), (1, .ref h_p1), (3, .int k23)]) [0, 1, 3] rfl ?_
            exact K35_l () hF
          · have hF := hF.2 c41
            refine z_aload_n X dX8_poorestOnFast_25 rfl 0 rfl ?_
            refine z_get (v := .ref (a_t 4)) X k_X8_poorestOnFast_18 0 rfl rfl dX8_poorestOnFast_26 ?_
            refine z_iload_n X dX8_poorestOnFast_29 rfl 3 rfl ?_
            obtain ⟨g37, hF⟩ := gi_e hF
            refine z_iald X 1 rfl g37 dX8_poorestOnFast_30 ?_
            refine z_aload_n X dX8_poorestOnFast_31 rfl 0 rfl ?_
            refine z_get (v := .ref (a_t 4)) X k_X8_poorestOnFast_18 0 rfl rfl dX8_poorestOnFast_32 ?_
            refine z_iload_n X dX8_poorestOnFast_35 rfl 2 rfl ?_
            obtain ⟨g38, hF⟩ := gi_e hF
            refine z_iald X 1 rfl g38 dX8_poorestOnFast_36 ?_
            have hF := if_e hF
            refine z_icmp_ge (tgt := 42) X dX8_poorestOnFast_37 (by decide) (fun c40 => ?_) (fun c40 => ?_)
            · have hF := hF.1 c40
              obtain ⟨x39, ex39, hF⟩ := nx_e hF
              refine z_iinc (v := x39) (lv' := [(3, .int x39), (0, .ref h_t), (1, .ref h_p1), (2, .int k22)]) (j := 3) X dX8_poorestOnFast_42 rfl (by rw [ex39]; rfl) (by decide) rfl ?_
              refine z_goto (tgt := 4) X dX8_poorestOnFast_45 (by decide) ?_
              cases hF
              refine z_lv (lv' := [(0, .ref h_t), (1, .ref h_p1), (2, .int k22), (3, .int x39)]) [1, 2, 3, 0] rfl ?_
              exact ih k22 x39 hL
            · have hF := hF.2 c40
              refine z_lv (lv' := [(0, .ref h_t), (1, .ref h_p1), (3, .int k23)]) [0, 1, 3] rfl ?_
              exact K35_l () hF
  refine z_lv (lv' := [(0, .ref h_t), (1, .ref h_p1), (2, .int (-1 : Int32)), (3, .int (0 : Int32))]) [2, 3, 1, 0] rfl ?_
  exact L25 FU (-1 : Int32) (0 : Int32) hL
