def f_X12_isIn (v0 : Int32) (v1 : Int32) (v2 : Int32) : Option (Int32) :=
  if v0 < v1 then (
  some (0 : Int32)
  ) else (
  if v2 < v0 then (
  some (0 : Int32)
  ) else (
  some (1 : Int32)
  )
  )
set_option maxHeartbeats 8000000 in
set_option maxRecDepth 100000 in
theorem c_X12_isIn (l : Launch) (D : va_G) (cA : Nat → ClassId) (g : Nat → Nat) (sz : Nat)  (v0 : Int32) (v1 : Int32) (v2 : Int32) (rv : Int32) (hF : f_X12_isIn v0 v1 v2 = some rv) : Met l yX12_isIn wsX12_isIn ({ frames := 0, cells := 0, slots := 0, locals := 0 }) (va_Pc [.int v0, .int v1, .int v2] (PreW D cA g sz ([] : va_W))) (va_Qi (fun (r : Int32) (_ : Unit) => r = rv) (PostW D cA sz ([] : va_W) ([] : va_W)) (va_A ([] : va_W) sz)) 0 0 (va_A ([] : va_W) sz) := by
  refine z_start (cc := cX12_isIn) (maxL := 3) (ret := (some .boolean)) (lv0 := [(0, .int v0), (1, .int v1), (2, .int v2)]) (Qc := fun sz => va_Qi (fun (r : Int32) (_ : Unit) => r = rv) (PostW D cA sz ([] : va_W) ([] : va_W)) (va_A ([] : va_W) sz)) (free := fun sz => va_A ([] : va_W) sz) (by decide) rfl rfl (Nat.le_of_ble_eq_true rfl) ?_
  intro p e R s m args below meth c A Q hR hA hQ X hr hin
  unfold f_X12_isIn at hF
  refine z_iload_n X dX12_isIn_0 rfl 0 rfl ?_
  refine z_iload_n X dX12_isIn_1 rfl 1 rfl ?_
  have hF := if_e hF
  refine z_icmp_lt (tgt := 14) X dX12_isIn_2 (by decide) (fun c2 => ?_) (fun c2 => ?_)
  · have hF := hF.1 c2
    refine z_iconst (v := (0 : Int32)) X dX12_isIn_14 (by decide) ?_
    cases hF
    exact z_zret X hA hQ hr (Or.inl rfl)  rfl dX12_isIn_15 (Nat.le_refl _) (Nat.le_refl _)
  · have hF := hF.2 c2
    refine z_iload_n X dX12_isIn_5 rfl 0 rfl ?_
    refine z_iload_n X dX12_isIn_6 rfl 2 rfl ?_
    have hF := if_e hF
    refine z_icmp_gt (tgt := 14) X dX12_isIn_7 (by decide) (fun c1 => ?_) (fun c1 => ?_)
    · have hF := hF.1 c1
      refine z_iconst (v := (0 : Int32)) X dX12_isIn_14 (by decide) ?_
      cases hF
      exact z_zret X hA hQ hr (Or.inl rfl)  rfl dX12_isIn_15 (Nat.le_refl _) (Nat.le_refl _)
    · have hF := hF.2 c1
      refine z_iconst (v := (1 : Int32)) X dX12_isIn_10 (by decide) ?_
      refine z_goto (tgt := 15) X dX12_isIn_11 (by decide) ?_
      cases hF
      exact z_zret X hA hQ hr (Or.inr rfl)  rfl dX12_isIn_15 (Nat.le_refl _) (Nat.le_refl _)
def f_X12_bitOf (v0 : Int32) (v1 : Int32) : Option (Int32) :=
  if (v0 >>> (v1 &&& 31)) &&& (1 : Int32) = (1 : Int32) then (
  some (1 : Int32)
  ) else (
  some (0 : Int32)
  )
set_option maxHeartbeats 8000000 in
set_option maxRecDepth 100000 in
theorem c_X12_bitOf (l : Launch) (D : va_G) (cA : Nat → ClassId) (g : Nat → Nat) (sz : Nat)  (v0 : Int32) (v1 : Int32) (rv : Int32) (hF : f_X12_bitOf v0 v1 = some rv) : Met l yX12_bitOf wsX12_bitOf ({ frames := 0, cells := 0, slots := 0, locals := 0 }) (va_Pc [.int v0, .int v1] (PreW D cA g sz ([] : va_W))) (va_Qi (fun (r : Int32) (_ : Unit) => r = rv) (PostW D cA sz ([] : va_W) ([] : va_W)) (va_A ([] : va_W) sz)) 0 0 (va_A ([] : va_W) sz) := by
  refine z_start (cc := cX12_bitOf) (maxL := 2) (ret := (some .boolean)) (lv0 := [(0, .int v0), (1, .int v1)]) (Qc := fun sz => va_Qi (fun (r : Int32) (_ : Unit) => r = rv) (PostW D cA sz ([] : va_W) ([] : va_W)) (va_A ([] : va_W) sz)) (free := fun sz => va_A ([] : va_W) sz) (by decide) rfl rfl (Nat.le_of_ble_eq_true rfl) ?_
  intro p e R s m args below meth c A Q hR hA hQ X hr hin
  unfold f_X12_bitOf at hF
  refine z_iload_n X dX12_bitOf_0 rfl 0 rfl ?_
  refine z_iload_n X dX12_bitOf_1 rfl 1 rfl ?_
  refine z_ishr X dX12_bitOf_2 ?_
  refine z_iconst (v := (1 : Int32)) X dX12_bitOf_3 (by decide) ?_
  refine z_iand X dX12_bitOf_4 ?_
  refine z_iconst (v := (1 : Int32)) X dX12_bitOf_5 (by decide) ?_
  have hF := if_e hF
  refine z_icmp_ne (tgt := 13) X dX12_bitOf_6 (by decide) (fun c1 => ?_) (fun c1 => ?_)
  · have hF := hF.2 c1
    refine z_iconst (v := (0 : Int32)) X dX12_bitOf_13 (by decide) ?_
    cases hF
    exact z_zret X hA hQ hr (Or.inl rfl)  rfl dX12_bitOf_14 (Nat.le_refl _) (Nat.le_refl _)
  · have hF := hF.1 c1
    refine z_iconst (v := (1 : Int32)) X dX12_bitOf_9 (by decide) ?_
    refine z_goto (tgt := 14) X dX12_bitOf_10 (by decide) ?_
    cases hF
    exact z_zret X hA hQ hr (Or.inr rfl)  rfl dX12_bitOf_14 (Nat.le_refl _) (Nat.le_refl _)
abbrev w_X12_four (cA : Nat → ClassId) (h_t : Nat) (a_t : Nat → Nat) (o_t : Ob) : va_W := [(h_t, .inr (12, [.ref (a_t 0), .ref (a_t 1), .ref (a_t 2), .ref (a_t 3), .ref (a_t 4), .int (o_t 5 0), .ref (a_t 6), .int (o_t 7 0), .int (o_t 8 0), .int (o_t 9 0), .int (o_t 10 0), .int (o_t 11 0), .int (o_t 12 0), .int (o_t 13 0), .int (o_t 14 0), .ref (a_t 15), .int (o_t 16 0), .int (o_t 17 0), .int (o_t 18 0), .ref (a_t 19), .int (o_t 20 0), .int (o_t 21 0), .ref (a_t 22), .ref (a_t 23), .ref (a_t 24), .ref (a_t 25), .int (o_t 26 0), .int (o_t 27 0), .ref (a_t 28), .ref (a_t 29), .ref (a_t 30), .int (o_t 31 0), .int (o_t 32 0), .int (o_t 33 0), .ref (a_t 34), .ref (a_t 35), .int (o_t 36 0), .int (o_t 37 0), .ref (a_t 38), .int (o_t 39 0), .ref (a_t 40), .ref (a_t 41), .int (o_t 42 0), .int (o_t 43 0), .int (o_t 44 0), .ref (a_t 45), .int (o_t 46 0)])), (a_t 0, .inl (cA 0, 835, .inl (o_t 0))), (a_t 1, .inl (cA 0, 1670, .inl (o_t 1))), (a_t 2, .inl (cA 0, 6680, .inl (o_t 2))), (a_t 3, .inl (cA 0, 835, .inl (o_t 3))), (a_t 4, .inl (cA 3, 2, .inl (o_t 4))), (a_t 6, .inl (cA 2, 440, .inl (o_t 6))), (a_t 15, .inl (cA 2, 6, .inl (o_t 15))), (a_t 19, .inl (cA 0, 60, .inl (o_t 19))), (a_t 22, .inl (cA 0, 402, .inl (o_t 22))), (a_t 23, .inl (cA 0, 402, .inl (o_t 23))), (a_t 24, .inl (cA 0, 2, .inl (o_t 24))), (a_t 25, .inl (cA 0, 2, .inl (o_t 25))), (a_t 28, .inl (cA 0, 10240, .inl (o_t 28))), (a_t 29, .inl (cA 0, 40, .inl (o_t 29))), (a_t 30, .inl (cA 0, 256, .inl (o_t 30))), (a_t 34, .inl (cA 0, 835, .inl (o_t 34))), (a_t 35, .inl (cA 0, 60, .inl (o_t 35))), (a_t 38, .inl (cA 2, 20, .inl (o_t 38))), (a_t 40, .inl (cA 0, 256, .inl (o_t 40))), (a_t 41, .inl (cA 0, 8, .inl (o_t 41))), (a_t 45, .inl (cA 0, 8, .inl (o_t 45)))]
def f_X12_four (o_t : Ob) (v1 : Int32) : Option (Ob) :=
  zb1 (zl2 (fun (o8 : Ob) (k9 : Int32) => (
  if k9 < 0 then (
  some (.inr o8)
  ) else (
  gi (o8 7 0) 440 <|
  nx (sa o8 6 (upd (o8 6) (Int32.toNatClampNeg (o8 7 0)) (vp_nar .byte ((Int32.toInt8 (v1 >>> (k9 &&& 31))).toInt32)))) fun o14 =>
  nx (si o14 7 ((o14 7 0) + (1 : Int32))) fun o15 =>
  nx (k9 + (-8 : Int32)) fun x16 =>
  some (.inl (o15, x16))
  )
  )) FU o_t (24 : Int32)) <| fun (o10 : Ob) =>
  some o10
set_option maxRecDepth 20000 in
theorem h_X12_four_X12 : ∀ w ∈ wsX120, w ∈ wsX12_four := by decide +kernel
set_option maxRecDepth 20000 in
theorem k_X12_four_26 : ZF wsX12_four RX12 26 12 6 RX12 TX12 47 := ⟨rfl, by decide, h_X12_four_X12, by decide +kernel⟩
set_option maxRecDepth 20000 in
theorem k_X12_four_75 : ZF wsX12_four RX12 75 12 7 RX12 TX12 47 := ⟨rfl, by decide, h_X12_four_X12, by decide +kernel⟩
set_option maxHeartbeats 8000000 in
set_option maxRecDepth 100000 in
theorem c_X12_four (l : Launch) (D : va_G) (cA : Nat → ClassId) (g : Nat → Nat) (sz : Nat) (h_t : Nat) (a_t : Nat → Nat) (o_t : Ob) (v1 : Int32) (o_t' : Ob) (hF : f_X12_four o_t v1 = some o_t') : Met l yX12_four wsX12_four ({ frames := 0, cells := 0, slots := 0, locals := 0 }) (va_Pc [.ref h_t, .int v1] (PreW D cA g sz (w_X12_four cA h_t a_t o_t))) (va_Qv (fun (_ : Unit) => True) (PostW D cA sz (w_X12_four cA h_t a_t o_t) (w_X12_four cA h_t a_t o_t')) (va_A (w_X12_four cA h_t a_t o_t) sz)) 0 0 (va_A (w_X12_four cA h_t a_t o_t) sz) := by
  refine z_start (cc := cX12_four) (maxL := 3) (ret := none) (lv0 := [(0, .ref h_t), (1, .int v1)]) (Qc := fun sz => va_Qv (fun (_ : Unit) => True) (PostW D cA sz (w_X12_four cA h_t a_t o_t) (w_X12_four cA h_t a_t o_t')) (va_A (w_X12_four cA h_t a_t o_t) sz)) (free := fun sz => va_A (w_X12_four cA h_t a_t o_t) sz) (by decide) rfl rfl (Nat.le_of_ble_eq_true rfl) ?_
  intro p e R s m args below meth c A Q hR hA hQ X hr hin
  unfold f_X12_four at hF
  refine z_bipush (v := (24 : Int32)) X dX12_four_0 (by decide) ?_
  refine z_istore_n (lv' := [(2, .int (24 : Int32)), (0, .ref h_t), (1, .int v1)]) X dX12_four_2 rfl (by decide) rfl ?_
  obtain ⟨o10, hL, hF⟩ := zb1_e hF
  have L11_x : ∀ (o10' : Ob), o10' = o10 → ZW p l e R s m args below meth c D A 3 0 0 Q (w_X12_four cA h_t a_t o10') [] 36 [] := by
    intro o10' hz
    cases hz
    cases hF
    exact z_vret X hA hQ hr dX12_four_36 (Nat.le_refl _) (Nat.le_refl _)
  obtain ⟨B18, hBB18, hL⟩ := zl2_b hL
  have L11 : ∀ (n : Nat) (o8 : Ob) (k9 : Int32), zl2 B18 n o8 k9 = some o10 → ZW p l e R s m args below meth c D A 3 0 0 Q (w_X12_four cA h_t a_t o8) [(0, .ref h_t), (1, .int v1), (2, .int k9)] 3 [] := by
    intro n
    induction n with
    | zero => intro o8 k9 hL; cases hL
    | succ n ih =>
      intro o8 k9 hL
      obtain ⟨zz12, hF, hL⟩ := zl2_e hL
      rw [hBB18] at hF
      refine z_iload_n X dX12_four_3 rfl 2 rfl ?_
      have hF := if_e hF
      refine z_if_lt (tgt := 36) X dX12_four_4 (by decide) (fun c17 => ?_) (fun c17 => ?_)
      · have hF := hF.1 c17
        cases hF
        have hL := Option.some.inj hL
        refine z_lv (lv' := []) [] rfl ?_
        exact L11_x o8 hL
      · have hF := hF.2 c17
        refine z_aload_n X dX12_four_7 rfl 0 rfl ?_
        refine z_get (v := .ref (a_t 6)) X k_X12_four_26 0 rfl rfl dX12_four_8 ?_
        refine z_aload_n X dX12_four_11 rfl 0 rfl ?_
        refine z_get (v := .int (o8 7 0)) X k_X12_four_75 0 rfl rfl dX12_four_12 ?_
        refine z_iload_n X dX12_four_15 rfl 1 rfl ?_
        refine z_iload_n X dX12_four_16 rfl 2 rfl ?_
        refine z_ishr X dX12_four_17 ?_
        refine z_i2b X dX12_four_18 ?_
        obtain ⟨g13, hF⟩ := gi_e hF
        obtain ⟨o14, eo14, hF⟩ := nx_e hF
        refine z_bast (ws' := (w_X12_four cA h_t a_t o14)) X 6 rfl g13 (by rw [eo14]; rfl) dX12_four_19 ?_
        refine z_aload_n X dX12_four_20 rfl 0 rfl ?_
        refine z_dup X dX12_four_21 rfl ?_
        refine z_get (v := .int (o14 7 0)) X k_X12_four_75 0 rfl rfl dX12_four_22 ?_
        refine z_iconst (v := (1 : Int32)) X dX12_four_25 (by decide) ?_
        refine z_iadd X dX12_four_26 ?_
        obtain ⟨o15, eo15, hF⟩ := nx_e hF
        refine z_put (ws' := (w_X12_four cA h_t a_t o15)) X k_X12_four_75 tyX12 tyX12_ok nmX12 rfl rfl 0 rfl (Nat.le_of_ble_eq_true rfl) (by rw [eo15]; rfl) dX12_four_27 ?_
        obtain ⟨x16, ex16, hF⟩ := nx_e hF
        refine z_iinc (v := x16) (lv' := [(2, .int x16), (0, .ref h_t), (1, .int v1)]) (j := 2) X dX12_four_30 rfl (by rw [ex16]; rfl) (by decide) rfl ?_
        refine z_goto (tgt := 3) X dX12_four_33 (by decide) ?_
        cases hF
        refine z_lv (lv' := [(0, .ref h_t), (1, .int v1), (2, .int x16)]) [1, 2, 0] rfl ?_
        exact ih o15 x16 hL
  refine z_lv (lv' := [(0, .ref h_t), (1, .int v1), (2, .int (24 : Int32))]) [1, 2, 0] rfl ?_
  exact L11 FU o_t (24 : Int32) hL
def f_X12_feed (o_t : Ob) (v1 : Int32) (v2 : Int32) (v3 : Int32) (v4 : Int32) (v5 : Int32) : Option (Ob × Int32) :=
  if (o_t 7 0) + (20 : Int32) ≤ (440 : Int32) then (
  zb1 (f_X12_four o_t v1) fun (o1 : Ob) =>
  zb1 (f_X12_four o1 v2) fun (o3 : Ob) =>
  zb1 (f_X12_four o3 v3) fun (o5 : Ob) =>
  zb1 (f_X12_four o5 v4) fun (o7 : Ob) =>
  zb1 (f_X12_four o7 v5) fun (o9 : Ob) =>
  some (o9, o9 7 0)
  ) else (
  some (o_t, (-1 : Int32))
  )
set_option maxRecDepth 20000 in
theorem h_X12_feed_X12 : ∀ w ∈ wsX120, w ∈ wsX12_feed := by decide +kernel
set_option maxRecDepth 20000 in
theorem k_X12_feed_75 : ZF wsX12_feed RX12 75 12 7 RX12 TX12 47 := ⟨rfl, by decide, h_X12_feed_X12, by decide +kernel⟩
set_option maxHeartbeats 8000000 in
set_option maxRecDepth 100000 in
theorem c_X12_feed (l : Launch) (D : va_G) (cA : Nat → ClassId) (g : Nat → Nat) (sz : Nat) (h_t : Nat) (a_t : Nat → Nat) (o_t : Ob) (v1 : Int32) (v2 : Int32) (v3 : Int32) (v4 : Int32) (v5 : Int32) (o_t' : Ob) (rv : Int32) (hF : f_X12_feed o_t v1 v2 v3 v4 v5 = some (o_t', rv)) : Met l yX12_feed wsX12_feed ({ frames := 1, cells := 0, slots := 0, locals := 22 }) (va_Pc [.ref h_t, .int v1, .int v2, .int v3, .int v4, .int v5] (PreW D cA g sz (w_X12_four cA h_t a_t o_t))) (va_Qi (fun (r : Int32) (_ : Unit) => r = rv) (PostW D cA sz (w_X12_four cA h_t a_t o_t) (w_X12_four cA h_t a_t o_t')) (va_A (w_X12_four cA h_t a_t o_t) sz)) 0 0 (va_A (w_X12_four cA h_t a_t o_t) sz) := by
  refine z_start (cc := cX12_feed) (maxL := 6) (ret := (some .int)) (lv0 := [(0, .ref h_t), (1, .int v1), (2, .int v2), (3, .int v3), (4, .int v4), (5, .int v5)]) (Qc := fun sz => va_Qi (fun (r : Int32) (_ : Unit) => r = rv) (PostW D cA sz (w_X12_four cA h_t a_t o_t) (w_X12_four cA h_t a_t o_t')) (va_A (w_X12_four cA h_t a_t o_t) sz)) (free := fun sz => va_A (w_X12_four cA h_t a_t o_t) sz) (by decide) rfl rfl (Nat.le_of_ble_eq_true rfl) ?_
  intro p e R s m args below meth c A Q hR hA hQ X hr hin
  unfold f_X12_feed at hF
  refine z_aload_n X dX12_feed_0 rfl 0 rfl ?_
  refine z_get (v := .int (o_t 7 0)) X k_X12_feed_75 0 rfl rfl dX12_feed_1 ?_
  refine z_bipush (v := (20 : Int32)) X dX12_feed_4 (by decide) ?_
  refine z_iadd X dX12_feed_6 ?_
  refine z_sipush (v := (440 : Int32)) X dX12_feed_7 (by decide) ?_
  have hF := if_e hF
  refine z_icmp_le (tgt := 15) X dX12_feed_10 (by decide) (fun c11 => ?_) (fun c11 => ?_)
  · have hF := hF.1 c11
    refine z_aload_n X dX12_feed_15 rfl 0 rfl ?_
    refine z_iload_n X dX12_feed_16 rfl 1 rfl ?_
    obtain ⟨o1, hc2, hF⟩ := zb1_e hF
    refine z_Vv (As := [.int v1]) (rest := []) (wc := (w_X12_four cA h_t a_t o_t)) (wc' := (w_X12_four cA h_t a_t o1)) (ws' := (w_X12_four cA h_t a_t o1)) X (cwV 1 X.2.2.2.2.1 gX12_feed_X12_four rfl rfl rfl (by decide +kernel) (by rw [hR]; exact ⟨Nat.le_of_ble_eq_true rfl, Nat.le_of_ble_eq_true rfl⟩)) (fun sz => c_X12_four l D cA g sz h_t a_t o_t v1 o1 hc2) [0, 1, 2, 3, 4, 5, 6, 7, 8, 9, 10, 11, 12, 13, 14, 15, 16, 17, 18, 19, 20, 21] [1000, 1001, 1002, 1003, 1004, 1005, 1006, 1007, 1008, 1009, 1010, 1011, 1012, 1013, 1014, 1015, 1016, 1017, 1018, 1019, 1020, 1021] rfl (by decide) rfl (by decide) rfl rfl rfl rfl rfl rfl (Nat.le_of_ble_eq_true rfl) dX12_feed_17 ⟨Nat.zero_le _, Nat.zero_le _⟩ ?_
    refine z_aload_n X dX12_feed_20 rfl 0 rfl ?_
    refine z_iload_n X dX12_feed_21 rfl 2 rfl ?_
    obtain ⟨o3, hc4, hF⟩ := zb1_e hF
    refine z_Vv (As := [.int v2]) (rest := []) (wc := (w_X12_four cA h_t a_t o1)) (wc' := (w_X12_four cA h_t a_t o3)) (ws' := (w_X12_four cA h_t a_t o3)) X (cwV 1 X.2.2.2.2.1 gX12_feed_X12_four rfl rfl rfl (by decide +kernel) (by rw [hR]; exact ⟨Nat.le_of_ble_eq_true rfl, Nat.le_of_ble_eq_true rfl⟩)) (fun sz => c_X12_four l D cA g sz h_t a_t o1 v2 o3 hc4) [0, 1, 2, 3, 4, 5, 6, 7, 8, 9, 10, 11, 12, 13, 14, 15, 16, 17, 18, 19, 20, 21] [1000, 1001, 1002, 1003, 1004, 1005, 1006, 1007, 1008, 1009, 1010, 1011, 1012, 1013, 1014, 1015, 1016, 1017, 1018, 1019, 1020, 1021] rfl (by decide) rfl (by decide) rfl rfl rfl rfl rfl rfl (Nat.le_of_ble_eq_true rfl) dX12_feed_22 ⟨Nat.zero_le _, Nat.zero_le _⟩ ?_
    refine z_aload_n X dX12_feed_25 rfl 0 rfl ?_
    refine z_iload_n X dX12_feed_26 rfl 3 rfl ?_
    obtain ⟨o5, hc6, hF⟩ := zb1_e hF
    refine z_Vv (As := [.int v3]) (rest := []) (wc := (w_X12_four cA h_t a_t o3)) (wc' := (w_X12_four cA h_t a_t o5)) (ws' := (w_X12_four cA h_t a_t o5)) X (cwV 1 X.2.2.2.2.1 gX12_feed_X12_four rfl rfl rfl (by decide +kernel) (by rw [hR]; exact ⟨Nat.le_of_ble_eq_true rfl, Nat.le_of_ble_eq_true rfl⟩)) (fun sz => c_X12_four l D cA g sz h_t a_t o3 v3 o5 hc6) [0, 1, 2, 3, 4, 5, 6, 7, 8, 9, 10, 11, 12, 13, 14, 15, 16, 17, 18, 19, 20, 21] [1000, 1001, 1002, 1003, 1004, 1005, 1006, 1007, 1008, 1009, 1010, 1011, 1012, 1013, 1014, 1015, 1016, 1017, 1018, 1019, 1020, 1021] rfl (by decide) rfl (by decide) rfl rfl rfl rfl rfl rfl (Nat.le_of_ble_eq_true rfl) dX12_feed_27 ⟨Nat.zero_le _, Nat.zero_le _⟩ ?_
    refine z_aload_n X dX12_feed_30 rfl 0 rfl ?_
    refine z_iload X dX12_feed_31 4 rfl ?_
    obtain ⟨o7, hc8, hF⟩ := zb1_e hF
    refine z_Vv (As := [.int v4]) (rest := []) (wc := (w_X12_four cA h_t a_t o5)) (wc' := (w_X12_four cA h_t a_t o7)) (ws' := (w_X12_four cA h_t a_t o7)) X (cwV 1 X.2.2.2.2.1 gX12_feed_X12_four rfl rfl rfl (by decide +kernel) (by rw [hR]; exact ⟨Nat.le_of_ble_eq_true rfl, Nat.le_of_ble_eq_true rfl⟩)) (fun sz => c_X12_four l D cA g sz h_t a_t o5 v4 o7 hc8) [0, 1, 2, 3, 4, 5, 6, 7, 8, 9, 10, 11, 12, 13, 14, 15, 16, 17, 18, 19, 20, 21] [1000, 1001, 1002, 1003, 1004, 1005, 1006, 1007, 1008, 1009, 1010, 1011, 1012, 1013, 1014, 1015, 1016, 1017, 1018, 1019, 1020, 1021] rfl (by decide) rfl (by decide) rfl rfl rfl rfl rfl rfl (Nat.le_of_ble_eq_true rfl) dX12_feed_33 ⟨Nat.zero_le _, Nat.zero_le _⟩ ?_
    refine z_aload_n X dX12_feed_36 rfl 0 rfl ?_
    refine z_iload X dX12_feed_37 5 rfl ?_
    obtain ⟨o9, hc10, hF⟩ := zb1_e hF
    refine z_Vv (As := [.int v5]) (rest := []) (wc := (w_X12_four cA h_t a_t o7)) (wc' := (w_X12_four cA h_t a_t o9)) (ws' := (w_X12_four cA h_t a_t o9)) X (cwV 1 X.2.2.2.2.1 gX12_feed_X12_four rfl rfl rfl (by decide +kernel) (by rw [hR]; exact ⟨Nat.le_of_ble_eq_true rfl, Nat.le_of_ble_eq_true rfl⟩)) (fun sz => c_X12_four l D cA g sz h_t a_t o7 v5 o9 hc10) [0, 1, 2, 3, 4, 5, 6, 7, 8, 9, 10, 11, 12, 13, 14, 15, 16, 17, 18, 19, 20, 21] [1000, 1001, 1002, 1003, 1004, 1005, 1006, 1007, 1008, 1009, 1010, 1011, 1012, 1013, 1014, 1015, 1016, 1017, 1018, 1019, 1020, 1021] rfl (by decide) rfl (by decide) rfl rfl rfl rfl rfl rfl (Nat.le_of_ble_eq_true rfl) dX12_feed_39 ⟨Nat.zero_le _, Nat.zero_le _⟩ ?_
    refine z_aload_n X dX12_feed_42 rfl 0 rfl ?_
    refine z_get (v := .int (o9 7 0)) X k_X12_feed_75 0 rfl rfl dX12_feed_43 ?_
    cases hF
    exact z_iret X hA hQ hr rfl dX12_feed_46 (Nat.le_refl _) (Nat.le_refl _)
  · have hF := hF.2 c11
    refine z_iconst (v := (-1 : Int32)) X dX12_feed_13 (by decide) ?_
    cases hF
    exact z_iret X hA hQ hr rfl dX12_feed_14 (Nat.le_refl _) (Nat.le_refl _)
def f_X12_end (o_t : Ob) (v1 : Int32) : Option (Ob × Int32) :=
  if v1 < 0 then (
  some (o_t, (0 : Int32))
  ) else (
  if v1 ≤ o_t 7 0 then (
  nx (si o_t 7 v1) fun o1 =>
  some (o1, (1 : Int32))
  ) else (
  some (o_t, (0 : Int32))
  )
  )
set_option maxRecDepth 20000 in
theorem h_X12_end_X12 : ∀ w ∈ wsX120, w ∈ wsX12_end := by decide +kernel
set_option maxRecDepth 20000 in
theorem k_X12_end_75 : ZF wsX12_end RX12 75 12 7 RX12 TX12 47 := ⟨rfl, by decide, h_X12_end_X12, by decide +kernel⟩
set_option maxHeartbeats 8000000 in
set_option maxRecDepth 100000 in
theorem c_X12_end (l : Launch) (D : va_G) (cA : Nat → ClassId) (g : Nat → Nat) (sz : Nat) (h_t : Nat) (a_t : Nat → Nat) (o_t : Ob) (v1 : Int32) (o_t' : Ob) (rv : Int32) (hF : f_X12_end o_t v1 = some (o_t', rv)) : Met l yX12_end wsX12_end ({ frames := 0, cells := 0, slots := 0, locals := 0 }) (va_Pc [.ref h_t, .int v1] (PreW D cA g sz (w_X12_four cA h_t a_t o_t))) (va_Qi (fun (r : Int32) (_ : Unit) => r = rv) (PostW D cA sz (w_X12_four cA h_t a_t o_t) (w_X12_four cA h_t a_t o_t')) (va_A (w_X12_four cA h_t a_t o_t) sz)) 0 0 (va_A (w_X12_four cA h_t a_t o_t) sz) := by
  refine z_start (cc := cX12_end) (maxL := 2) (ret := (some .boolean)) (lv0 := [(0, .ref h_t), (1, .int v1)]) (Qc := fun sz => va_Qi (fun (r : Int32) (_ : Unit) => r = rv) (PostW D cA sz (w_X12_four cA h_t a_t o_t) (w_X12_four cA h_t a_t o_t')) (va_A (w_X12_four cA h_t a_t o_t) sz)) (free := fun sz => va_A (w_X12_four cA h_t a_t o_t) sz) (by decide) rfl rfl (Nat.le_of_ble_eq_true rfl) ?_
  intro p e R s m args below meth c A Q hR hA hQ X hr hin
  unfold f_X12_end at hF
  refine z_iload_n X dX12_end_0 rfl 1 rfl ?_
  have hF := if_e hF
  refine z_if_lt (tgt := 12) X dX12_end_1 (by decide) (fun c3 => ?_) (fun c3 => ?_)
  · have hF := hF.1 c3
    refine z_iconst (v := (0 : Int32)) X dX12_end_12 (by decide) ?_
    cases hF
    exact z_zret X hA hQ hr (Or.inl rfl)  rfl dX12_end_13 (Nat.le_refl _) (Nat.le_refl _)
  · have hF := hF.2 c3
    refine z_iload_n X dX12_end_4 rfl 1 rfl ?_
    refine z_aload_n X dX12_end_5 rfl 0 rfl ?_
    refine z_get (v := .int (o_t 7 0)) X k_X12_end_75 0 rfl rfl dX12_end_6 ?_
    have hF := if_e hF
    refine z_icmp_le (tgt := 14) X dX12_end_9 (by decide) (fun c2 => ?_) (fun c2 => ?_)
    · have hF := hF.1 c2
      refine z_aload_n X dX12_end_14 rfl 0 rfl ?_
      refine z_iload_n X dX12_end_15 rfl 1 rfl ?_
      obtain ⟨o1, eo1, hF⟩ := nx_e hF
      refine z_put (ws' := (w_X12_four cA h_t a_t o1)) X k_X12_end_75 tyX12 tyX12_ok nmX12 rfl rfl 0 rfl (Nat.le_of_ble_eq_true rfl) (by rw [eo1]; rfl) dX12_end_16 ?_
      refine z_iconst (v := (1 : Int32)) X dX12_end_19 (by decide) ?_
      cases hF
      exact z_zret X hA hQ hr (Or.inr rfl)  rfl dX12_end_20 (Nat.le_refl _) (Nat.le_refl _)
    · have hF := hF.2 c2
      refine z_iconst (v := (0 : Int32)) X dX12_end_12 (by decide) ?_
      cases hF
      exact z_zret X hA hQ hr (Or.inl rfl)  rfl dX12_end_13 (Nat.le_refl _) (Nat.le_refl _)
def f_X12_ones (v0 : Int32) : Option (Int32) :=
  zb1 (zl2 (fun (k6 : Int32) (k7 : Int32) => (
  if (32 : Int32) ≤ k7 then (
  some (.inr k6)
  ) else (
  nx (k6 + ((v0 >>> (k7 &&& 31)) &&& (1 : Int32))) fun x11 =>
  nx (k7 + (1 : Int32)) fun x12 =>
  some (.inl (x11, x12))
  )
  )) FU (0 : Int32) (0 : Int32)) <| fun (k8 : Int32) =>
  some k8
set_option maxHeartbeats 8000000 in
set_option maxRecDepth 100000 in
theorem c_X12_ones (l : Launch) (D : va_G) (cA : Nat → ClassId) (g : Nat → Nat) (sz : Nat)  (v0 : Int32) (rv : Int32) (hF : f_X12_ones v0 = some rv) : Met l yX12_ones wsX12_ones ({ frames := 0, cells := 0, slots := 0, locals := 0 }) (va_Pc [.int v0] (PreW D cA g sz ([] : va_W))) (va_Qi (fun (r : Int32) (_ : Unit) => r = rv) (PostW D cA sz ([] : va_W) ([] : va_W)) (va_A ([] : va_W) sz)) 0 0 (va_A ([] : va_W) sz) := by
  refine z_start (cc := cX12_ones) (maxL := 3) (ret := (some .int)) (lv0 := [(0, .int v0)]) (Qc := fun sz => va_Qi (fun (r : Int32) (_ : Unit) => r = rv) (PostW D cA sz ([] : va_W) ([] : va_W)) (va_A ([] : va_W) sz)) (free := fun sz => va_A ([] : va_W) sz) (by decide) rfl rfl (Nat.le_of_ble_eq_true rfl) ?_
  intro p e R s m args below meth c A Q hR hA hQ X hr hin
  unfold f_X12_ones at hF
  refine z_iconst (v := (0 : Int32)) X dX12_ones_0 (by decide) ?_
  refine z_istore_n (lv' := [(1, .int (0 : Int32)), (0, .int v0)]) X dX12_ones_1 rfl (by decide) rfl ?_
  refine z_iconst (v := (0 : Int32)) X dX12_ones_2 (by decide) ?_
  refine z_istore_n (lv' := [(2, .int (0 : Int32)), (1, .int (0 : Int32)), (0, .int v0)]) X dX12_ones_3 rfl (by decide) rfl ?_
  obtain ⟨k8, hL, hF⟩ := zb1_e hF
  have L9_x : ∀ (k8' : Int32), k8' = k8 → ZW p l e R s m args below meth c D A 3 0 0 Q ([] : va_W) [(1, .int k8')] 24 [] := by
    intro k8' hz
    cases hz
    refine z_iload_n X dX12_ones_24 rfl 0 rfl ?_
    cases hF
    exact z_iret X hA hQ hr rfl dX12_ones_25 (Nat.le_refl _) (Nat.le_refl _)
  obtain ⟨B14, hBB14, hL⟩ := zl2_b hL
  have L9 : ∀ (n : Nat) (k6 : Int32) (k7 : Int32), zl2 B14 n k6 k7 = some k8 → ZW p l e R s m args below meth c D A 3 0 0 Q ([] : va_W) [(0, .int v0), (1, .int k6), (2, .int k7)] 4 [] := by
    intro n
    induction n with
    | zero => intro k6 k7 hL; cases hL
    | succ n ih =>
      intro k6 k7 hL
      obtain ⟨zz10, hF, hL⟩ := zl2_e hL
      rw [hBB14] at hF
      refine z_iload_n X dX12_ones_4 rfl 2 rfl ?_
      refine z_bipush (v := (32 : Int32)) X dX12_ones_5 (by decide) ?_
      have hF := if_e hF
      refine z_icmp_ge (tgt := 24) X dX12_ones_7 (by decide) (fun c13 => ?_) (fun c13 => ?_)
      · have hF := hF.1 c13
        cases hF
        have hL := Option.some.inj hL
        refine z_lv (lv' := [(1, .int k6)]) [1] rfl ?_
        exact L9_x k6 hL
      · have hF := hF.2 c13
        refine z_iload_n X dX12_ones_10 rfl 1 rfl ?_
        refine z_iload_n X dX12_ones_11 rfl 0 rfl ?_
        refine z_iload_n X dX12_ones_12 rfl 2 rfl ?_
        refine z_ishr X dX12_ones_13 ?_
        refine z_iconst (v := (1 : Int32)) X dX12_ones_14 (by decide) ?_
        refine z_iand X dX12_ones_15 ?_
        refine z_iadd X dX12_ones_16 ?_
        obtain ⟨x11, ex11, hF⟩ := nx_e hF
        refine z_nm ex11 ?_
        refine z_istore_n (lv' := [(1, .int x11), (0, .int v0), (2, .int k7)]) X dX12_ones_17 rfl (by decide) rfl ?_
        obtain ⟨x12, ex12, hF⟩ := nx_e hF
        refine z_iinc (v := x12) (lv' := [(2, .int x12), (1, .int x11), (0, .int v0)]) (j := 2) X dX12_ones_18 rfl (by rw [ex12]; rfl) (by decide) rfl ?_
        refine z_goto (tgt := 4) X dX12_ones_21 (by decide) ?_
        cases hF
        refine z_lv (lv' := [(0, .int v0), (1, .int x11), (2, .int x12)]) [2, 1, 0] rfl ?_
        exact ih x11 x12 hL
  refine z_lv (lv' := [(0, .int v0), (1, .int (0 : Int32)), (2, .int (0 : Int32))]) [2, 1, 0] rfl ?_
  exact L9 FU (0 : Int32) (0 : Int32) hL
abbrev w_X12_copies (cA : Nat → ClassId) (h_p0 n_p0 : Nat) (f_p0 : Fn) (h_p2 n_p2 : Nat) (f_p2 : Fn) : va_W := [(h_p0, .inl (cA 0, n_p0, .inl f_p0)), (h_p2, .inl (cA 0, n_p2, .inl f_p2))]
def f_X12_copies (n_p0 : Nat) (f_p0 : Fn) (n_p2 : Nat) (f_p2 : Fn) (v1 : Int32) (v3 : Int32) : Option (Fn) :=
  zb1 (zl2 (fun (o9 : Fn) (k10 : Int32) => (
  if (835 : Int32) ≤ k10 then (
  some (.inr o9)
  ) else (
  gi (v1 + k10) n_p0 <|
  gi (v3 + k10) n_p2 <|
  nx ((upd (o9) (Int32.toNatClampNeg (v3 + k10)) (f_p0 (Int32.toNatClampNeg (v1 + k10))))) fun o16 =>
  nx (k10 + (1 : Int32)) fun x17 =>
  some (.inl (o16, x17))
  )
  )) FU f_p2 (0 : Int32)) <| fun (o11 : Fn) =>
  some o11
set_option maxHeartbeats 8000000 in
set_option maxRecDepth 100000 in
theorem c_X12_copies (l : Launch) (D : va_G) (cA : Nat → ClassId) (g : Nat → Nat) (sz : Nat) (h_p0 n_p0 : Nat) (f_p0 : Fn) (h_p2 n_p2 : Nat) (f_p2 : Fn) (v1 : Int32) (v3 : Int32) (f_p2' : Fn) (hF : f_X12_copies n_p0 f_p0 n_p2 f_p2 v1 v3 = some f_p2') : Met l yX12_copies wsX12_copies ({ frames := 0, cells := 0, slots := 0, locals := 0 }) (va_Pc [.ref h_p0, .int v1, .ref h_p2, .int v3] (PreW D cA g sz (w_X12_copies cA h_p0 n_p0 f_p0 h_p2 n_p2 f_p2))) (va_Qv (fun (_ : Unit) => True) (PostW D cA sz (w_X12_copies cA h_p0 n_p0 f_p0 h_p2 n_p2 f_p2) (w_X12_copies cA h_p0 n_p0 f_p0 h_p2 n_p2 f_p2')) (va_A (w_X12_copies cA h_p0 n_p0 f_p0 h_p2 n_p2 f_p2) sz)) 0 0 (va_A (w_X12_copies cA h_p0 n_p0 f_p0 h_p2 n_p2 f_p2) sz) := by
  refine z_start (cc := cX12_copies) (maxL := 5) (ret := none) (lv0 := [(0, .ref h_p0), (1, .int v1), (2, .ref h_p2), (3, .int v3)]) (Qc := fun sz => va_Qv (fun (_ : Unit) => True) (PostW D cA sz (w_X12_copies cA h_p0 n_p0 f_p0 h_p2 n_p2 f_p2) (w_X12_copies cA h_p0 n_p0 f_p0 h_p2 n_p2 f_p2')) (va_A (w_X12_copies cA h_p0 n_p0 f_p0 h_p2 n_p2 f_p2) sz)) (free := fun sz => va_A (w_X12_copies cA h_p0 n_p0 f_p0 h_p2 n_p2 f_p2) sz) (by decide) rfl rfl (Nat.le_of_ble_eq_true rfl) ?_
  intro p e R s m args below meth c A Q hR hA hQ X hr hin
  unfold f_X12_copies at hF
  refine z_iconst (v := (0 : Int32)) X dX12_copies_0 (by decide) ?_
  refine z_istore (lv' := [(4, .int (0 : Int32)), (0, .ref h_p0), (1, .int v1), (2, .ref h_p2), (3, .int v3)]) X dX12_copies_1 (by decide) rfl ?_
  obtain ⟨o11, hL, hF⟩ := zb1_e hF
  have L12_x : ∀ (o11' : Fn), o11' = o11 → ZW p l e R s m args below meth c D A 5 0 0 Q (w_X12_copies cA h_p0 n_p0 f_p0 h_p2 n_p2 o11') [] 29 [] := by
    intro o11' hz
    cases hz
    cases hF
    exact z_vret X hA hQ hr dX12_copies_29 (Nat.le_refl _) (Nat.le_refl _)
  obtain ⟨B19, hBB19, hL⟩ := zl2_b hL
  have L12 : ∀ (n : Nat) (o9 : Fn) (k10 : Int32), zl2 B19 n o9 k10 = some o11 → ZW p l e R s m args below meth c D A 5 0 0 Q (w_X12_copies cA h_p0 n_p0 f_p0 h_p2 n_p2 o9) [(0, .ref h_p0), (1, .int v1), (2, .ref h_p2), (3, .int v3), (4, .int k10)] 3 [] := by
    intro n
    induction n with
    | zero => intro o9 k10 hL; cases hL
    | succ n ih =>
      intro o9 k10 hL
      obtain ⟨zz13, hF, hL⟩ := zl2_e hL
      rw [hBB19] at hF
      refine z_iload X dX12_copies_3 4 rfl ?_
      refine z_sipush (v := (835 : Int32)) X dX12_copies_5 (by decide) ?_
      have hF := if_e hF
      refine z_icmp_ge (tgt := 29) X dX12_copies_8 (by decide) (fun c18 => ?_) (fun c18 => ?_)
      · have hF := hF.1 c18
        cases hF
        have hL := Option.some.inj hL
        refine z_lv (lv' := []) [] rfl ?_
        exact L12_x o9 hL
      · have hF := hF.2 c18
        refine z_aload_n X dX12_copies_11 rfl 2 rfl ?_
        refine z_iload_n X dX12_copies_12 rfl 3 rfl ?_
        refine z_iload X dX12_copies_13 4 rfl ?_
        refine z_iadd X dX12_copies_15 ?_
        refine z_aload_n X dX12_copies_16 rfl 0 rfl ?_
        refine z_iload_n X dX12_copies_17 rfl 1 rfl ?_
        refine z_iload X dX12_copies_18 4 rfl ?_
        refine z_iadd X dX12_copies_20 ?_
        obtain ⟨g14, hF⟩ := gi_e hF
        refine z_iald X 0 rfl g14 dX12_copies_21 ?_
        obtain ⟨g15, hF⟩ := gi_e hF
        obtain ⟨o16, eo16, hF⟩ := nx_e hF
        refine z_iast (ws' := (w_X12_copies cA h_p0 n_p0 f_p0 h_p2 n_p2 o16)) X 1 rfl g15 (by rw [eo16]; rfl) dX12_copies_22 ?_
        obtain ⟨x17, ex17, hF⟩ := nx_e hF
        refine z_iinc (v := x17) (lv' := [(4, .int x17), (0, .ref h_p0), (1, .int v1), (2, .ref h_p2), (3, .int v3)]) (j := 4) X dX12_copies_23 rfl (by rw [ex17]; rfl) (by decide) rfl ?_
        refine z_goto (tgt := 3) X dX12_copies_26 (by decide) ?_
        cases hF
        refine z_lv (lv' := [(0, .ref h_p0), (1, .int v1), (2, .ref h_p2), (3, .int v3), (4, .int x17)]) [1, 2, 3, 4, 0] rfl ?_
        exact ih o16 x17 hL
  refine z_lv (lv' := [(0, .ref h_p0), (1, .int v1), (2, .ref h_p2), (3, .int v3), (4, .int (0 : Int32))]) [1, 2, 3, 4, 0] rfl ?_
  exact L12 FU f_p2 (0 : Int32) hL
def f_X12_isItem (o_t : Ob) (v1 : Int32) : Option (Int32) :=
  gi (2 : Int32) 835 <|
  zb1 (f_X12_isIn v1 (0 : Int32) ((o_t 0 (Int32.toNatClampNeg (2 : Int32))) - (1 : Int32))) fun (r2 : Int32) =>
  gz r2 <|
  some r2
set_option maxRecDepth 20000 in
theorem h_X12_isItem_X12 : ∀ w ∈ wsX120, w ∈ wsX12_isItem := by decide +kernel
set_option maxRecDepth 20000 in
theorem k_X12_isItem_7 : ZF wsX12_isItem RX12 7 12 0 RX12 TX12 47 := ⟨rfl, by decide, h_X12_isItem_X12, by decide +kernel⟩
set_option maxHeartbeats 8000000 in
set_option maxRecDepth 100000 in
theorem c_X12_isItem (l : Launch) (D : va_G) (cA : Nat → ClassId) (g : Nat → Nat) (sz : Nat) (h_t : Nat) (a_t : Nat → Nat) (o_t : Ob) (v1 : Int32) (rv : Int32) (hF : f_X12_isItem o_t v1 = some rv) : Met l yX12_isItem wsX12_isItem ({ frames := 1, cells := 0, slots := 0, locals := 22 }) (va_Pc [.ref h_t, .int v1] (PreW D cA g sz (w_X12_four cA h_t a_t o_t))) (va_Qi (fun (r : Int32) (_ : Unit) => r = rv) (PostW D cA sz (w_X12_four cA h_t a_t o_t) (w_X12_four cA h_t a_t o_t)) (va_A (w_X12_four cA h_t a_t o_t) sz)) 0 0 (va_A (w_X12_four cA h_t a_t o_t) sz) := by
  refine z_start (cc := cX12_isItem) (maxL := 2) (ret := (some .boolean)) (lv0 := [(0, .ref h_t), (1, .int v1)]) (Qc := fun sz => va_Qi (fun (r : Int32) (_ : Unit) => r = rv) (PostW D cA sz (w_X12_four cA h_t a_t o_t) (w_X12_four cA h_t a_t o_t)) (va_A (w_X12_four cA h_t a_t o_t) sz)) (free := fun sz => va_A (w_X12_four cA h_t a_t o_t) sz) (by decide) rfl rfl (Nat.le_of_ble_eq_true rfl) ?_
  intro p e R s m args below meth c A Q hR hA hQ X hr hin
  unfold f_X12_isItem at hF
  refine z_iload_n X dX12_isItem_0 rfl 1 rfl ?_
  refine z_iconst (v := (0 : Int32)) X dX12_isItem_1 (by decide) ?_
  refine z_aload_n X dX12_isItem_2 rfl 0 rfl ?_
  refine z_get (v := .ref (a_t 0)) X k_X12_isItem_7 0 rfl rfl dX12_isItem_3 ?_
  refine z_iconst (v := (2 : Int32)) X dX12_isItem_6 (by decide) ?_
  obtain ⟨g1, hF⟩ := gi_e hF
  refine z_iald X 1 rfl g1 dX12_isItem_7 ?_
  refine z_iconst (v := (1 : Int32)) X dX12_isItem_8 (by decide) ?_
  refine z_isub X dX12_isItem_9 ?_
  obtain ⟨r2, hc3, hF⟩ := zb1_e hF
  refine z_Si (As := [.int v1, .int (0 : Int32), .int ((o_t 0 (Int32.toNatClampNeg (2 : Int32))) - (1 : Int32))]) (rest := []) (wc := ([] : va_W)) (wc' := ([] : va_W)) (ws' := (w_X12_four cA h_t a_t o_t)) (rv := r2) X (va_cwS 3 X.2.2.2.2.1 gX12_isItem_X12_isIn rfl rfl rfl (by decide +kernel) (by rw [hR]; exact ⟨Nat.le_of_ble_eq_true rfl, Nat.le_of_ble_eq_true rfl⟩)) (fun sz => c_X12_isIn l D cA g sz v1 (0 : Int32) ((o_t 0 (Int32.toNatClampNeg (2 : Int32))) - (1 : Int32)) r2 hc3) [] [0, 1, 2, 3, 4, 5, 6, 7, 8, 9, 10, 11, 12, 13, 14, 15, 16, 17, 18, 19, 20, 21] rfl (by decide) rfl (by decide) rfl rfl rfl (Nat.le_of_ble_eq_true rfl) dX12_isItem_10 ⟨Nat.zero_le _, Nat.zero_le _⟩ ?_
  obtain ⟨g4, hF⟩ := gz_e hF
  cases hF
  exact z_zret X hA hQ hr g4  rfl dX12_isItem_13 (Nat.le_refl _) (Nat.le_refl _)
def f_X12_peek (o_t : Ob) : Option (Int32) :=
  if o_t 8 0 ≤ o_t 9 0 then (
  some (-1 : Int32)
  ) else (
  gi (o_t 9 0) 440 <|
  some ((o_t 6 (Int32.toNatClampNeg (o_t 9 0))) &&& (255 : Int32))
  )
set_option maxRecDepth 20000 in
theorem h_X12_peek_X12 : ∀ w ∈ wsX120, w ∈ wsX12_peek := by decide +kernel
set_option maxRecDepth 20000 in
theorem k_X12_peek_26 : ZF wsX12_peek RX12 26 12 6 RX12 TX12 47 := ⟨rfl, by decide, h_X12_peek_X12, by decide +kernel⟩
set_option maxRecDepth 20000 in
theorem k_X12_peek_87 : ZF wsX12_peek RX12 87 12 9 RX12 TX12 47 := ⟨rfl, by decide, h_X12_peek_X12, by decide +kernel⟩
set_option maxRecDepth 20000 in
theorem k_X12_peek_90 : ZF wsX12_peek RX12 90 12 8 RX12 TX12 47 := ⟨rfl, by decide, h_X12_peek_X12, by decide +kernel⟩
set_option maxHeartbeats 8000000 in
set_option maxRecDepth 100000 in
theorem c_X12_peek (l : Launch) (D : va_G) (cA : Nat → ClassId) (g : Nat → Nat) (sz : Nat) (h_t : Nat) (a_t : Nat → Nat) (o_t : Ob)  (rv : Int32) (hF : f_X12_peek o_t = some rv) : Met l yX12_peek wsX12_peek ({ frames := 0, cells := 0, slots := 0, locals := 0 }) (va_Pc [.ref h_t] (PreW D cA g sz (w_X12_four cA h_t a_t o_t))) (va_Qi (fun (r : Int32) (_ : Unit) => r = rv) (PostW D cA sz (w_X12_four cA h_t a_t o_t) (w_X12_four cA h_t a_t o_t)) (va_A (w_X12_four cA h_t a_t o_t) sz)) 0 0 (va_A (w_X12_four cA h_t a_t o_t) sz) := by
  refine z_start (cc := cX12_peek) (maxL := 1) (ret := (some .int)) (lv0 := [(0, .ref h_t)]) (Qc := fun sz => va_Qi (fun (r : Int32) (_ : Unit) => r = rv) (PostW D cA sz (w_X12_four cA h_t a_t o_t) (w_X12_four cA h_t a_t o_t)) (va_A (w_X12_four cA h_t a_t o_t) sz)) (free := fun sz => va_A (w_X12_four cA h_t a_t o_t) sz) (by decide) rfl rfl (Nat.le_of_ble_eq_true rfl) ?_
  intro p e R s m args below meth c A Q hR hA hQ X hr hin
  unfold f_X12_peek at hF
  refine z_aload_n X dX12_peek_0 rfl 0 rfl ?_
  refine z_get (v := .int (o_t 9 0)) X k_X12_peek_87 0 rfl rfl dX12_peek_1 ?_
  refine z_aload_n X dX12_peek_4 rfl 0 rfl ?_
  refine z_get (v := .int (o_t 8 0)) X k_X12_peek_90 0 rfl rfl dX12_peek_5 ?_
  have hF := if_e hF
  refine z_icmp_ge (tgt := 27) X dX12_peek_8 (by decide) (fun c2 => ?_) (fun c2 => ?_)
  · have hF := hF.1 c2
    refine z_iconst (v := (-1 : Int32)) X dX12_peek_27 (by decide) ?_
    cases hF
    exact z_iret X hA hQ hr rfl dX12_peek_28 (Nat.le_refl _) (Nat.le_refl _)
  · have hF := hF.2 c2
    refine z_aload_n X dX12_peek_11 rfl 0 rfl ?_
    refine z_get (v := .ref (a_t 6)) X k_X12_peek_26 0 rfl rfl dX12_peek_12 ?_
    refine z_aload_n X dX12_peek_15 rfl 0 rfl ?_
    refine z_get (v := .int (o_t 9 0)) X k_X12_peek_87 0 rfl rfl dX12_peek_16 ?_
    obtain ⟨g1, hF⟩ := gi_e hF
    refine z_bald X 6 rfl g1 dX12_peek_19 ?_
    refine z_sipush (v := (255 : Int32)) X dX12_peek_20 (by decide) ?_
    refine z_iand X dX12_peek_23 ?_
    refine z_goto (tgt := 28) X dX12_peek_24 (by decide) ?_
    cases hF
    exact z_iret X hA hQ hr rfl dX12_peek_28 (Nat.le_refl _) (Nat.le_refl _)
def f_X12_bad (o_t : Ob) (v1 : Int32) (v2 : Int32) : Option (Ob × Int32) :=
  nx (si o_t 13 v1) fun o1 =>
  nx (si o1 14 v2) fun o2 =>
  some (o2, (0 : Int32))
set_option maxRecDepth 20000 in
theorem h_X12_bad_X12 : ∀ w ∈ wsX120, w ∈ wsX12_bad := by decide +kernel
set_option maxRecDepth 20000 in
theorem k_X12_bad_93 : ZF wsX12_bad RX12 93 12 13 RX12 TX12 47 := ⟨rfl, by decide, h_X12_bad_X12, by decide +kernel⟩
set_option maxRecDepth 20000 in
theorem k_X12_bad_96 : ZF wsX12_bad RX12 96 12 14 RX12 TX12 47 := ⟨rfl, by decide, h_X12_bad_X12, by decide +kernel⟩
set_option maxHeartbeats 8000000 in
set_option maxRecDepth 100000 in
theorem c_X12_bad (l : Launch) (D : va_G) (cA : Nat → ClassId) (g : Nat → Nat) (sz : Nat) (h_t : Nat) (a_t : Nat → Nat) (o_t : Ob) (v1 : Int32) (v2 : Int32) (o_t' : Ob) (rv : Int32) (hF : f_X12_bad o_t v1 v2 = some (o_t', rv)) : Met l yX12_bad wsX12_bad ({ frames := 0, cells := 0, slots := 0, locals := 0 }) (va_Pc [.ref h_t, .int v1, .int v2] (PreW D cA g sz (w_X12_four cA h_t a_t o_t))) (va_Qi (fun (r : Int32) (_ : Unit) => r = rv) (PostW D cA sz (w_X12_four cA h_t a_t o_t) (w_X12_four cA h_t a_t o_t')) (va_A (w_X12_four cA h_t a_t o_t) sz)) 0 0 (va_A (w_X12_four cA h_t a_t o_t) sz) := by
  refine z_start (cc := cX12_bad) (maxL := 3) (ret := (some .boolean)) (lv0 := [(0, .ref h_t), (1, .int v1), (2, .int v2)]) (Qc := fun sz => va_Qi (fun (r : Int32) (_ : Unit) => r = rv) (PostW D cA sz (w_X12_four cA h_t a_t o_t) (w_X12_four cA h_t a_t o_t')) (va_A (w_X12_four cA h_t a_t o_t) sz)) (free := fun sz => va_A (w_X12_four cA h_t a_t o_t) sz) (by decide) rfl rfl (Nat.le_of_ble_eq_true rfl) ?_
  intro p e R s m args below meth c A Q hR hA hQ X hr hin
  unfold f_X12_bad at hF
  refine z_aload_n X dX12_bad_0 rfl 0 rfl ?_
  refine z_iload_n X dX12_bad_1 rfl 1 rfl ?_
  obtain ⟨o1, eo1, hF⟩ := nx_e hF
  refine z_put (ws' := (w_X12_four cA h_t a_t o1)) X k_X12_bad_93 tyX12 tyX12_ok nmX12 rfl rfl 0 rfl (Nat.le_of_ble_eq_true rfl) (by rw [eo1]; rfl) dX12_bad_2 ?_
  refine z_aload_n X dX12_bad_5 rfl 0 rfl ?_
  refine z_iload_n X dX12_bad_6 rfl 2 rfl ?_
  obtain ⟨o2, eo2, hF⟩ := nx_e hF
  refine z_put (ws' := (w_X12_four cA h_t a_t o2)) X k_X12_bad_96 tyX12 tyX12_ok nmX12 rfl rfl 0 rfl (Nat.le_of_ble_eq_true rfl) (by rw [eo2]; rfl) dX12_bad_7 ?_
  refine z_iconst (v := (0 : Int32)) X dX12_bad_10 (by decide) ?_
  cases hF
  exact z_zret X hA hQ hr (Or.inl rfl)  rfl dX12_bad_11 (Nat.le_refl _) (Nat.le_refl _)
def f_X12_badHere (o_t : Ob) (v1 : Int32) : Option (Ob × Int32) :=
  zb2 (f_X12_bad o_t v1 (o_t 10 0)) fun (o1 : Ob) (r2 : Int32) =>
  gz r2 <|
  some (o1, r2)
set_option maxRecDepth 20000 in
theorem h_X12_badHere_X12 : ∀ w ∈ wsX120, w ∈ wsX12_badHere := by decide +kernel
set_option maxRecDepth 20000 in
theorem k_X12_badHere_99 : ZF wsX12_badHere RX12 99 12 10 RX12 TX12 47 := ⟨rfl, by decide, h_X12_badHere_X12, by decide +kernel⟩
set_option maxHeartbeats 8000000 in
set_option maxRecDepth 100000 in
theorem c_X12_badHere (l : Launch) (D : va_G) (cA : Nat → ClassId) (g : Nat → Nat) (sz : Nat) (h_t : Nat) (a_t : Nat → Nat) (o_t : Ob) (v1 : Int32) (o_t' : Ob) (rv : Int32) (hF : f_X12_badHere o_t v1 = some (o_t', rv)) : Met l yX12_badHere wsX12_badHere ({ frames := 1, cells := 0, slots := 0, locals := 22 }) (va_Pc [.ref h_t, .int v1] (PreW D cA g sz (w_X12_four cA h_t a_t o_t))) (va_Qi (fun (r : Int32) (_ : Unit) => r = rv) (PostW D cA sz (w_X12_four cA h_t a_t o_t) (w_X12_four cA h_t a_t o_t')) (va_A (w_X12_four cA h_t a_t o_t) sz)) 0 0 (va_A (w_X12_four cA h_t a_t o_t) sz) := by
  refine z_start (cc := cX12_badHere) (maxL := 2) (ret := (some .boolean)) (lv0 := [(0, .ref h_t), (1, .int v1)]) (Qc := fun sz => va_Qi (fun (r : Int32) (_ : Unit) => r = rv) (PostW D cA sz (w_X12_four cA h_t a_t o_t) (w_X12_four cA h_t a_t o_t')) (va_A (w_X12_four cA h_t a_t o_t) sz)) (free := fun sz => va_A (w_X12_four cA h_t a_t o_t) sz) (by decide) rfl rfl (Nat.le_of_ble_eq_true rfl) ?_
  intro p e R s m args below meth c A Q hR hA hQ X hr hin
  unfold f_X12_badHere at hF
  refine z_aload_n X dX12_badHere_0 rfl 0 rfl ?_
  refine z_iload_n X dX12_badHere_1 rfl 1 rfl ?_
  refine z_aload_n X dX12_badHere_2 rfl 0 rfl ?_
  refine z_get (v := .int (o_t 10 0)) X k_X12_badHere_99 0 rfl rfl dX12_badHere_3 ?_
  obtain ⟨o1, r2, hc3, hF⟩ := zb2_e hF
  refine z_Vi (As := [.int v1, .int (o_t 10 0)]) (rest := []) (wc := (w_X12_four cA h_t a_t o_t)) (wc' := (w_X12_four cA h_t a_t o1)) (ws' := (w_X12_four cA h_t a_t o1)) (rv := r2) X (cwV 2 X.2.2.2.2.1 gX12_badHere_X12_bad rfl rfl rfl (by decide +kernel) (by rw [hR]; exact ⟨Nat.le_of_ble_eq_true rfl, Nat.le_of_ble_eq_true rfl⟩)) (fun sz => c_X12_bad l D cA g sz h_t a_t o_t v1 (o_t 10 0) o1 r2 hc3) [0, 1, 2, 3, 4, 5, 6, 7, 8, 9, 10, 11, 12, 13, 14, 15, 16, 17, 18, 19, 20, 21] [1000, 1001, 1002, 1003, 1004, 1005, 1006, 1007, 1008, 1009, 1010, 1011, 1012, 1013, 1014, 1015, 1016, 1017, 1018, 1019, 1020, 1021] rfl (by decide) rfl (by decide) rfl rfl rfl rfl rfl rfl (Nat.le_of_ble_eq_true rfl) dX12_badHere_6 ⟨Nat.zero_le _, Nat.zero_le _⟩ ?_
  obtain ⟨g4, hF⟩ := gz_e hF
  cases hF
  exact z_zret X hA hQ hr g4  rfl dX12_badHere_9 (Nat.le_refl _) (Nat.le_refl _)
def f_X12_call (o_t : Ob) : Option (Ob) :=
  nx (si o_t 21 (0 : Int32)) fun o1 =>
  some o1
set_option maxRecDepth 20000 in
theorem h_X12_call_X12 : ∀ w ∈ wsX120, w ∈ wsX12_call := by decide +kernel
set_option maxRecDepth 20000 in
theorem k_X12_call_184 : ZF wsX12_call RX12 184 12 21 RX12 TX12 47 := ⟨rfl, by decide, h_X12_call_X12, by decide +kernel⟩
set_option maxHeartbeats 8000000 in
set_option maxRecDepth 100000 in
theorem c_X12_call (l : Launch) (D : va_G) (cA : Nat → ClassId) (g : Nat → Nat) (sz : Nat) (h_t : Nat) (a_t : Nat → Nat) (o_t : Ob)  (o_t' : Ob) (hF : f_X12_call o_t = some o_t') : Met l yX12_call wsX12_call ({ frames := 0, cells := 0, slots := 0, locals := 0 }) (va_Pc [.ref h_t] (PreW D cA g sz (w_X12_four cA h_t a_t o_t))) (va_Qv (fun (_ : Unit) => True) (PostW D cA sz (w_X12_four cA h_t a_t o_t) (w_X12_four cA h_t a_t o_t')) (va_A (w_X12_four cA h_t a_t o_t) sz)) 0 0 (va_A (w_X12_four cA h_t a_t o_t) sz) := by
  refine z_start (cc := cX12_call) (maxL := 1) (ret := none) (lv0 := [(0, .ref h_t)]) (Qc := fun sz => va_Qv (fun (_ : Unit) => True) (PostW D cA sz (w_X12_four cA h_t a_t o_t) (w_X12_four cA h_t a_t o_t')) (va_A (w_X12_four cA h_t a_t o_t) sz)) (free := fun sz => va_A (w_X12_four cA h_t a_t o_t) sz) (by decide) rfl rfl (Nat.le_of_ble_eq_true rfl) ?_
  intro p e R s m args below meth c A Q hR hA hQ X hr hin
  unfold f_X12_call at hF
  refine z_aload_n X dX12_call_0 rfl 0 rfl ?_
  refine z_iconst (v := (0 : Int32)) X dX12_call_1 (by decide) ?_
  obtain ⟨o1, eo1, hF⟩ := nx_e hF
  refine z_putZ (ws' := (w_X12_four cA h_t a_t o1)) X k_X12_call_184 tyX12 tyX12_ok nmX12 rfl rfl 0 rfl (Nat.le_of_ble_eq_true rfl) (by rw [eo1]; rfl) (Or.inl rfl) dX12_call_2 ?_
  cases hF
  exact z_vret X hA hQ hr dX12_call_5 (Nat.le_refl _) (Nat.le_refl _)
def f_X12_gatesOpen (o_t : Ob) : Option (Ob) :=
  nx (fun (q3 : Ob) => (
  nx (si q3 21 (1 : Int32)) fun o5 =>
  ze1 (zl2 (fun (o14 : Ob) (k15 : Int32) => (
  if (5 : Int32) ≤ k15 then (
  some (.inr (.inl o14))
  ) else (
  if o14 20 0 = (60 : Int32) then (
  some (.inr (.inr o14))
  ) else (
  gi (o14 20 0) 60 <|
  nx (sa o14 19 (upd (o14 19) (Int32.toNatClampNeg (o14 20 0)) k15)) fun o20 =>
  nx (si o20 20 ((o20 20 0) + (1 : Int32))) fun o21 =>
  nx (k15 + (1 : Int32)) fun x22 =>
  some (.inl (o21, x22))
  )
  )
  )) FU o5 (1 : Int32)) (fun r => some r) <| fun (o16 : Ob) =>
  some o16
  )) fun K4 =>
  if o_t 21 0 = 0 then (
  nx (si o_t 20 (0 : Int32)) fun o27 =>
  K4 o27
  ) else (
  K4 o_t
  )
set_option maxRecDepth 20000 in
theorem h_X12_gatesOpen_X12 : ∀ w ∈ wsX120, w ∈ wsX12_gatesOpen := by decide +kernel
set_option maxRecDepth 20000 in
theorem k_X12_gatesOpen_33 : ZF wsX12_gatesOpen RX12 33 12 19 RX12 TX12 47 := ⟨rfl, by decide, h_X12_gatesOpen_X12, by decide +kernel⟩
set_option maxRecDepth 20000 in
theorem k_X12_gatesOpen_184 : ZF wsX12_gatesOpen RX12 184 12 21 RX12 TX12 47 := ⟨rfl, by decide, h_X12_gatesOpen_X12, by decide +kernel⟩
set_option maxRecDepth 20000 in
theorem k_X12_gatesOpen_187 : ZF wsX12_gatesOpen RX12 187 12 20 RX12 TX12 47 := ⟨rfl, by decide, h_X12_gatesOpen_X12, by decide +kernel⟩
set_option maxHeartbeats 8000000 in
set_option maxRecDepth 100000 in
theorem c_X12_gatesOpen (l : Launch) (D : va_G) (cA : Nat → ClassId) (g : Nat → Nat) (sz : Nat) (h_t : Nat) (a_t : Nat → Nat) (o_t : Ob)  (o_t' : Ob) (hF : f_X12_gatesOpen o_t = some o_t') : Met l yX12_gatesOpen wsX12_gatesOpen ({ frames := 0, cells := 0, slots := 0, locals := 0 }) (va_Pc [.ref h_t] (PreW D cA g sz (w_X12_four cA h_t a_t o_t))) (va_Qv (fun (_ : Unit) => True) (PostW D cA sz (w_X12_four cA h_t a_t o_t) (w_X12_four cA h_t a_t o_t')) (va_A (w_X12_four cA h_t a_t o_t) sz)) 0 0 (va_A (w_X12_four cA h_t a_t o_t) sz) := by
  refine z_start (cc := cX12_gatesOpen) (maxL := 2) (ret := none) (lv0 := [(0, .ref h_t)]) (Qc := fun sz => va_Qv (fun (_ : Unit) => True) (PostW D cA sz (w_X12_four cA h_t a_t o_t) (w_X12_four cA h_t a_t o_t')) (va_A (w_X12_four cA h_t a_t o_t) sz)) (free := fun sz => va_A (w_X12_four cA h_t a_t o_t) sz) (by decide) rfl rfl (Nat.le_of_ble_eq_true rfl) ?_
  intro p e R s m args below meth c A Q hR hA hQ X hr hin
  unfold f_X12_gatesOpen at hF
  refine z_aload_n X dX12_gatesOpen_0 rfl 0 rfl ?_
  refine z_get (v := .int (o_t 21 0)) X k_X12_gatesOpen_184 0 rfl rfl dX12_gatesOpen_1 ?_
  obtain ⟨K4, eK4, hF⟩ := nx_e hF
  have K4_l : ∀ (q3 : Ob), K4 q3 = some o_t' → ZW p l e R s m args below meth c D A 2 0 0 Q (w_X12_four cA h_t a_t q3) [(0, .ref h_t)] 12 [] := by
    intro q3 hF
    rw [eK4] at hF
    refine z_aload_n X dX12_gatesOpen_12 rfl 0 rfl ?_
    refine z_iconst (v := (1 : Int32)) X dX12_gatesOpen_13 (by decide) ?_
    obtain ⟨o5, eo5, hF⟩ := nx_e hF
    refine z_putZ (ws' := (w_X12_four cA h_t a_t o5)) X k_X12_gatesOpen_184 tyX12 tyX12_ok nmX12 rfl rfl 0 rfl (Nat.le_of_ble_eq_true rfl) (by rw [eo5]; rfl) (Or.inr rfl) dX12_gatesOpen_14 ?_
    refine z_iconst (v := (1 : Int32)) X dX12_gatesOpen_17 (by decide) ?_
    refine z_istore_n (lv' := [(1, .int (1 : Int32)), (0, .ref h_t)]) X dX12_gatesOpen_18 rfl (by decide) rfl ?_
    obtain ⟨z25, hL, hFx, L17_r⟩ := ze1_e hF
    have L17_x : ∀ (o16 : Ob), z25 = .inl o16 → ZW p l e R s m args below meth c D A 2 0 0 Q (w_X12_four cA h_t a_t o16) [] 60 [] := by
      intro o16 hz
      have hF := hFx o16 hz
      cases hF
      exact z_vret X hA hQ hr dX12_gatesOpen_60 (Nat.le_refl _) (Nat.le_refl _)
    obtain ⟨B26, hBB26, hL⟩ := zl2_b hL
    have L17 : ∀ (n : Nat) (o14 : Ob) (k15 : Int32), zl2 B26 n o14 k15 = some z25 → ZW p l e R s m args below meth c D A 2 0 0 Q (w_X12_four cA h_t a_t o14) [(0, .ref h_t), (1, .int k15)] 19 [] := by
      intro n
      induction n with
      | zero => intro o14 k15 hL; cases hL
      | succ n ih =>
        intro o14 k15 hL
        obtain ⟨zz18, hF, hL⟩ := zl2_e hL
        rw [hBB26] at hF
        refine z_iload_n X dX12_gatesOpen_19 rfl 1 rfl ?_
        refine z_iconst (v := (5 : Int32)) X dX12_gatesOpen_20 (by decide) ?_
        have hF := if_e hF
        refine z_icmp_ge (tgt := 60) X dX12_gatesOpen_21 (by decide) (fun c24 => ?_) (fun c24 => ?_)
        · have hF := hF.1 c24
          cases hF
          have hL := Option.some.inj hL
          refine z_lv (lv' := []) [] rfl ?_
          exact L17_x o14 hL.symm
        · have hF := hF.2 c24
          refine z_aload_n X dX12_gatesOpen_24 rfl 0 rfl ?_
          refine z_get (v := .int (o14 20 0)) X k_X12_gatesOpen_187 0 rfl rfl dX12_gatesOpen_25 ?_
          refine z_bipush (v := (60 : Int32)) X dX12_gatesOpen_28 (by decide) ?_
          have hF := if_e hF
          refine z_icmp_ne (tgt := 34) X dX12_gatesOpen_30 (by decide) (fun c23 => ?_) (fun c23 => ?_)
          · have hF := hF.2 c23
            refine z_aload_n X dX12_gatesOpen_34 rfl 0 rfl ?_
            refine z_get (v := .ref (a_t 19)) X k_X12_gatesOpen_33 0 rfl rfl dX12_gatesOpen_35 ?_
            refine z_aload_n X dX12_gatesOpen_38 rfl 0 rfl ?_
            refine z_get (v := .int (o14 20 0)) X k_X12_gatesOpen_187 0 rfl rfl dX12_gatesOpen_39 ?_
            refine z_iload_n X dX12_gatesOpen_42 rfl 1 rfl ?_
            obtain ⟨g19, hF⟩ := gi_e hF
            obtain ⟨o20, eo20, hF⟩ := nx_e hF
            refine z_iast (ws' := (w_X12_four cA h_t a_t o20)) X 8 rfl g19 (by rw [eo20]; rfl) dX12_gatesOpen_43 ?_
            refine z_aload_n X dX12_gatesOpen_44 rfl 0 rfl ?_
            refine z_dup X dX12_gatesOpen_45 rfl ?_
            refine z_get (v := .int (o20 20 0)) X k_X12_gatesOpen_187 0 rfl rfl dX12_gatesOpen_46 ?_
            refine z_iconst (v := (1 : Int32)) X dX12_gatesOpen_49 (by decide) ?_
            refine z_iadd X dX12_gatesOpen_50 ?_
            obtain ⟨o21, eo21, hF⟩ := nx_e hF
            refine z_put (ws' := (w_X12_four cA h_t a_t o21)) X k_X12_gatesOpen_187 tyX12 tyX12_ok nmX12 rfl rfl 0 rfl (Nat.le_of_ble_eq_true rfl) (by rw [eo21]; rfl) dX12_gatesOpen_51 ?_
            obtain ⟨x22, ex22, hF⟩ := nx_e hF
            refine z_iinc (v := x22) (lv' := [(1, .int x22), (0, .ref h_t)]) (j := 1) X dX12_gatesOpen_54 rfl (by rw [ex22]; rfl) (by decide) rfl ?_
            refine z_goto (tgt := 19) X dX12_gatesOpen_57 (by decide) ?_
            cases hF
            refine z_lv (lv' := [(0, .ref h_t), (1, .int x22)]) [1, 0] rfl ?_
            exact ih o21 x22 hL
          · have hF := hF.1 c23
            cases hF
            have hL := (Option.some.inj hL).symm
            have hF := L17_r _ hL
            cases hF
            exact z_vret X hA hQ hr dX12_gatesOpen_33 (Nat.le_refl _) (Nat.le_refl _)
    refine z_lv (lv' := [(0, .ref h_t), (1, .int (1 : Int32))]) [1, 0] rfl ?_
    exact L17 FU o5 (1 : Int32) hL
  have hF := if_e hF
  refine z_if_ne (tgt := 12) X dX12_gatesOpen_4 (by decide) (fun c28 => ?_) (fun c28 => ?_)
  · have hF := hF.2 c28
    refine z_lv (lv' := [(0, .ref h_t)]) [0] rfl ?_
    exact K4_l o_t hF
  · have hF := hF.1 c28
    refine z_aload_n X dX12_gatesOpen_7 rfl 0 rfl ?_
    refine z_iconst (v := (0 : Int32)) X dX12_gatesOpen_8 (by decide) ?_
    obtain ⟨o27, eo27, hF⟩ := nx_e hF
    refine z_put (ws' := (w_X12_four cA h_t a_t o27)) X k_X12_gatesOpen_187 tyX12 tyX12_ok nmX12 rfl rfl 0 rfl (Nat.le_of_ble_eq_true rfl) (by rw [eo27]; rfl) dX12_gatesOpen_9 ?_
    refine z_lv (lv' := [(0, .ref h_t)]) [0] rfl ?_
    exact K4_l o27 hF
def f_X12_gate (o_t : Ob) (v1 : Int32) : Option (Int32) :=
  zb1 (f_X12_isIn v1 (0 : Int32) ((o_t 20 0) - (1 : Int32))) fun (r1 : Int32) =>
  if r1 = 0 then (
  some (-1 : Int32)
  ) else (
  gi v1 60 <|
  some (o_t 19 (Int32.toNatClampNeg v1))
  )
set_option maxRecDepth 20000 in
theorem h_X12_gate_X12 : ∀ w ∈ wsX120, w ∈ wsX12_gate := by decide +kernel
set_option maxRecDepth 20000 in
theorem k_X12_gate_33 : ZF wsX12_gate RX12 33 12 19 RX12 TX12 47 := ⟨rfl, by decide, h_X12_gate_X12, by decide +kernel⟩
set_option maxRecDepth 20000 in
theorem k_X12_gate_187 : ZF wsX12_gate RX12 187 12 20 RX12 TX12 47 := ⟨rfl, by decide, h_X12_gate_X12, by decide +kernel⟩
set_option maxHeartbeats 8000000 in
set_option maxRecDepth 100000 in
theorem c_X12_gate (l : Launch) (D : va_G) (cA : Nat → ClassId) (g : Nat → Nat) (sz : Nat) (h_t : Nat) (a_t : Nat → Nat) (o_t : Ob) (v1 : Int32) (rv : Int32) (hF : f_X12_gate o_t v1 = some rv) : Met l yX12_gate wsX12_gate ({ frames := 1, cells := 0, slots := 0, locals := 22 }) (va_Pc [.ref h_t, .int v1] (PreW D cA g sz (w_X12_four cA h_t a_t o_t))) (va_Qi (fun (r : Int32) (_ : Unit) => r = rv) (PostW D cA sz (w_X12_four cA h_t a_t o_t) (w_X12_four cA h_t a_t o_t)) (va_A (w_X12_four cA h_t a_t o_t) sz)) 0 0 (va_A (w_X12_four cA h_t a_t o_t) sz) := by
  refine z_start (cc := cX12_gate) (maxL := 2) (ret := (some .int)) (lv0 := [(0, .ref h_t), (1, .int v1)]) (Qc := fun sz => va_Qi (fun (r : Int32) (_ : Unit) => r = rv) (PostW D cA sz (w_X12_four cA h_t a_t o_t) (w_X12_four cA h_t a_t o_t)) (va_A (w_X12_four cA h_t a_t o_t) sz)) (free := fun sz => va_A (w_X12_four cA h_t a_t o_t) sz) (by decide) rfl rfl (Nat.le_of_ble_eq_true rfl) ?_
  intro p e R s m args below meth c A Q hR hA hQ X hr hin
  unfold f_X12_gate at hF
  refine z_iload_n X dX12_gate_0 rfl 1 rfl ?_
  refine z_iconst (v := (0 : Int32)) X dX12_gate_1 (by decide) ?_
  refine z_aload_n X dX12_gate_2 rfl 0 rfl ?_
  refine z_get (v := .int (o_t 20 0)) X k_X12_gate_187 0 rfl rfl dX12_gate_3 ?_
  refine z_iconst (v := (1 : Int32)) X dX12_gate_6 (by decide) ?_
  refine z_isub X dX12_gate_7 ?_
  obtain ⟨r1, hc2, hF⟩ := zb1_e hF
  refine z_Si (As := [.int v1, .int (0 : Int32), .int ((o_t 20 0) - (1 : Int32))]) (rest := []) (wc := ([] : va_W)) (wc' := ([] : va_W)) (ws' := (w_X12_four cA h_t a_t o_t)) (rv := r1) X (va_cwS 3 X.2.2.2.2.1 gX12_gate_X12_isIn rfl rfl rfl (by decide +kernel) (by rw [hR]; exact ⟨Nat.le_of_ble_eq_true rfl, Nat.le_of_ble_eq_true rfl⟩)) (fun sz => c_X12_isIn l D cA g sz v1 (0 : Int32) ((o_t 20 0) - (1 : Int32)) r1 hc2) [] [0, 1, 2, 3, 4, 5, 6, 7, 8, 9, 10, 11, 12, 13, 14, 15, 16, 17, 18, 19, 20, 21] rfl (by decide) rfl (by decide) rfl rfl rfl (Nat.le_of_ble_eq_true rfl) dX12_gate_8 ⟨Nat.zero_le _, Nat.zero_le _⟩ ?_
  have hF := if_e hF
  refine z_if_eq (tgt := 23) X dX12_gate_11 (by decide) (fun c4 => ?_) (fun c4 => ?_)
  · have hF := hF.1 c4
    refine z_iconst (v := (-1 : Int32)) X dX12_gate_23 (by decide) ?_
    cases hF
    exact z_iret X hA hQ hr rfl dX12_gate_24 (Nat.le_refl _) (Nat.le_refl _)
  · have hF := hF.2 c4
    refine z_aload_n X dX12_gate_14 rfl 0 rfl ?_
    refine z_get (v := .ref (a_t 19)) X k_X12_gate_33 0 rfl rfl dX12_gate_15 ?_
    refine z_iload_n X dX12_gate_18 rfl 1 rfl ?_
    obtain ⟨g3, hF⟩ := gi_e hF
    refine z_iald X 8 rfl g3 dX12_gate_19 ?_
    refine z_goto (tgt := 24) X dX12_gate_20 (by decide) ?_
    cases hF
    exact z_iret X hA hQ hr rfl dX12_gate_24 (Nat.le_refl _) (Nat.le_refl _)
def f_X12_isTaken (v0 : Int32) (v1 : Int32) : Option (Int32) :=
  if v0 = 0 then (
  some (1 : Int32)
  ) else (
  nx (fun (_ : Unit) => (
  nx (fun (_ : Unit) => (
  if v0 = (3 : Int32) then (
  if v1 = (3 : Int32) then (
  some (1 : Int32)
  ) else (
  some (0 : Int32)
  )
  ) else (
  some (0 : Int32)
  )
  )) fun K6 =>
  if v0 = (2 : Int32) then (
  if (1 : Int32) < v1 then (
  some (1 : Int32)
  ) else (
  K6 ()
  )
  ) else (
  K6 ()
  )
  )) fun K3 =>
  if v0 = (1 : Int32) then (
  if v1 < (2 : Int32) then (
  some (1 : Int32)
  ) else (
  K3 ()
  )
  ) else (
  K3 ()
  )
  )
set_option maxHeartbeats 8000000 in
set_option maxRecDepth 100000 in
theorem c_X12_isTaken (l : Launch) (D : va_G) (cA : Nat → ClassId) (g : Nat → Nat) (sz : Nat)  (v0 : Int32) (v1 : Int32) (rv : Int32) (hF : f_X12_isTaken v0 v1 = some rv) : Met l yX12_isTaken wsX12_isTaken ({ frames := 0, cells := 0, slots := 0, locals := 0 }) (va_Pc [.int v0, .int v1] (PreW D cA g sz ([] : va_W))) (va_Qi (fun (r : Int32) (_ : Unit) => r = rv) (PostW D cA sz ([] : va_W) ([] : va_W)) (va_A ([] : va_W) sz)) 0 0 (va_A ([] : va_W) sz) := by
  refine z_start (cc := cX12_isTaken) (maxL := 2) (ret := (some .boolean)) (lv0 := [(0, .int v0), (1, .int v1)]) (Qc := fun sz => va_Qi (fun (r : Int32) (_ : Unit) => r = rv) (PostW D cA sz ([] : va_W) ([] : va_W)) (va_A ([] : va_W) sz)) (free := fun sz => va_A ([] : va_W) sz) (by decide) rfl rfl (Nat.le_of_ble_eq_true rfl) ?_
  intro p e R s m args below meth c A Q hR hA hQ X hr hin
  unfold f_X12_isTaken at hF
  refine z_iload_n X dX12_isTaken_0 rfl 0 rfl ?_
  have hF := if_e hF
  refine z_if_eq (tgt := 34) X dX12_isTaken_1 (by decide) (fun c13 => ?_) (fun c13 => ?_)
  · have hF := hF.1 c13
    refine z_iconst (v := (1 : Int32)) X dX12_isTaken_34 (by decide) ?_
    refine z_goto (tgt := 39) X dX12_isTaken_35 (by decide) ?_
    cases hF
    exact z_zret X hA hQ hr (Or.inr rfl)  rfl dX12_isTaken_39 (Nat.le_refl _) (Nat.le_refl _)
  · have hF := hF.2 c13
    refine z_iload_n X dX12_isTaken_4 rfl 0 rfl ?_
    refine z_iconst (v := (1 : Int32)) X dX12_isTaken_5 (by decide) ?_
    obtain ⟨K3, eK3, hF⟩ := nx_e hF
    have K3_l : ∀ (_ : Unit), K3 () = some rv → ZW p l e R s m args below meth c D A 2 0 0 Q ([] : va_W) [(0, .int v0), (1, .int v1)] 14 [] := by
      intro _ hF
      rw [eK3] at hF
      refine z_iload_n X dX12_isTaken_14 rfl 0 rfl ?_
      refine z_iconst (v := (2 : Int32)) X dX12_isTaken_15 (by decide) ?_
      obtain ⟨K6, eK6, hF⟩ := nx_e hF
      have K6_l : ∀ (_ : Unit), K6 () = some rv → ZW p l e R s m args below meth c D A 2 0 0 Q ([] : va_W) [(0, .int v0), (1, .int v1)] 24 [] := by
        intro _ hF
        rw [eK6] at hF
        refine z_iload_n X dX12_isTaken_24 rfl 0 rfl ?_
        refine z_iconst (v := (3 : Int32)) X dX12_isTaken_25 (by decide) ?_
        have hF := if_e hF
        refine z_icmp_ne (tgt := 38) X dX12_isTaken_26 (by decide) (fun c8 => ?_) (fun c8 => ?_)
        · have hF := hF.2 c8
          refine z_iconst (v := (0 : Int32)) X dX12_isTaken_38 (by decide) ?_
          cases hF
          exact z_zret X hA hQ hr (Or.inl rfl)  rfl dX12_isTaken_39 (Nat.le_refl _) (Nat.le_refl _)
        · have hF := hF.1 c8
          refine z_iload_n X dX12_isTaken_29 rfl 1 rfl ?_
          refine z_iconst (v := (3 : Int32)) X dX12_isTaken_30 (by decide) ?_
          have hF := if_e hF
          refine z_icmp_ne (tgt := 38) X dX12_isTaken_31 (by decide) (fun c7 => ?_) (fun c7 => ?_)
          · have hF := hF.2 c7
            refine z_iconst (v := (0 : Int32)) X dX12_isTaken_38 (by decide) ?_
            cases hF
            exact z_zret X hA hQ hr (Or.inl rfl)  rfl dX12_isTaken_39 (Nat.le_refl _) (Nat.le_refl _)
          · have hF := hF.1 c7
            refine z_iconst (v := (1 : Int32)) X dX12_isTaken_34 (by decide) ?_
            refine z_goto (tgt := 39) X dX12_isTaken_35 (by decide) ?_
            cases hF
            exact z_zret X hA hQ hr (Or.inr rfl)  rfl dX12_isTaken_39 (Nat.le_refl _) (Nat.le_refl _)
      have hF := if_e hF
      refine z_icmp_ne (tgt := 24) X dX12_isTaken_16 (by decide) (fun c10 => ?_) (fun c10 => ?_)
      · have hF := hF.2 c10
        refine z_lv (lv' := [(0, .int v0), (1, .int v1)]) [0, 1] rfl ?_
        exact K6_l () hF
      · have hF := hF.1 c10
        refine z_iload_n X dX12_isTaken_19 rfl 1 rfl ?_
        refine z_iconst (v := (1 : Int32)) X dX12_isTaken_20 (by decide) ?_
        have hF := if_e hF
        refine z_icmp_gt (tgt := 34) X dX12_isTaken_21 (by decide) (fun c9 => ?_) (fun c9 => ?_)
        · have hF := hF.1 c9
          refine z_iconst (v := (1 : Int32)) X dX12_isTaken_34 (by decide) ?_
          refine z_goto (tgt := 39) X dX12_isTaken_35 (by decide) ?_
          cases hF
          exact z_zret X hA hQ hr (Or.inr rfl)  rfl dX12_isTaken_39 (Nat.le_refl _) (Nat.le_refl _)
        · have hF := hF.2 c9
          refine z_lv (lv' := [(0, .int v0), (1, .int v1)]) [0, 1] rfl ?_
          exact K6_l () hF
    have hF := if_e hF
    refine z_icmp_ne (tgt := 14) X dX12_isTaken_6 (by decide) (fun c12 => ?_) (fun c12 => ?_)
    · have hF := hF.2 c12
      refine z_lv (lv' := [(0, .int v0), (1, .int v1)]) [0, 1] rfl ?_
      exact K3_l () hF
    · have hF := hF.1 c12
      refine z_iload_n X dX12_isTaken_9 rfl 1 rfl ?_
      refine z_iconst (v := (2 : Int32)) X dX12_isTaken_10 (by decide) ?_
      have hF := if_e hF
      refine z_icmp_lt (tgt := 34) X dX12_isTaken_11 (by decide) (fun c11 => ?_) (fun c11 => ?_)
      · have hF := hF.1 c11
        refine z_iconst (v := (1 : Int32)) X dX12_isTaken_34 (by decide) ?_
        refine z_goto (tgt := 39) X dX12_isTaken_35 (by decide) ?_
        cases hF
        exact z_zret X hA hQ hr (Or.inr rfl)  rfl dX12_isTaken_39 (Nat.le_refl _) (Nat.le_refl _)
      · have hF := hF.2 c11
        refine z_lv (lv' := [(0, .int v0), (1, .int v1)]) [0, 1] rfl ?_
        exact K3_l () hF
def f_X12_entry (o_t : Ob) (v1 : Int32) (v2 : Int32) (v3 : Int32) : Option (Ob) :=
  zb1 (zl2 (fun (o38 : Ob) (k39 : Int32) => (
  if (3 : Int32) ≤ k39 then (
  some (.inr o38)
  ) else (
  nx ((544 : Int32) + ((7 : Int32) * k39)) fun x43 =>
  gi x43 835 <|
  if o38 0 (Int32.toNatClampNeg x43) = 0 then (
  nx (k39 + (1 : Int32)) fun x75 =>
  some (.inl (o38, x75))
  ) else (
  gi (x43 + (3 : Int32)) 835 <|
  gi (x43 + (2 : Int32)) 835 <|
  if o38 0 (Int32.toNatClampNeg (x43 + (3 : Int32))) = o38 0 (Int32.toNatClampNeg (x43 + (2 : Int32))) then (
  gi (x43 + (5 : Int32)) 835 <|
  gi (x43 + (5 : Int32)) 835 <|
  nx (sa o38 0 (upd (o38 0) (Int32.toNatClampNeg (x43 + (5 : Int32))) ((o38 0 (Int32.toNatClampNeg (x43 + (5 : Int32)))) + (1 : Int32)))) fun o72 =>
  nx (k39 + (1 : Int32)) fun x73 =>
  some (.inl (o72, x73))
  ) else (
  gi (x43 + (1 : Int32)) 835 <|
  zb1 (f_X12_isTaken (o38 0 (Int32.toNatClampNeg (x43 + (1 : Int32)))) v1) fun (r48 : Int32) =>
  if r48 = 0 then (
  gi (x43 + (4 : Int32)) 835 <|
  gi (x43 + (4 : Int32)) 835 <|
  nx (sa o38 0 (upd (o38 0) (Int32.toNatClampNeg (x43 + (4 : Int32))) ((o38 0 (Int32.toNatClampNeg (x43 + (4 : Int32)))) + (1 : Int32)))) fun o67 =>
  nx (k39 + (1 : Int32)) fun x68 =>
  some (.inl (o67, x68))
  ) else (
  gi (x43 + (3 : Int32)) 835 <|
  nx (((565 : Int32) + ((90 : Int32) * k39)) + ((3 : Int32) * (o38 0 (Int32.toNatClampNeg (x43 + (3 : Int32)))))) fun x51 =>
  gi x51 835 <|
  nx (sa o38 0 (upd (o38 0) (Int32.toNatClampNeg x51) v1)) fun o53 =>
  gi (x51 + (1 : Int32)) 835 <|
  nx (sa o53 0 (upd (o53 0) (Int32.toNatClampNeg (x51 + (1 : Int32))) v2)) fun o55 =>
  gi (x51 + (2 : Int32)) 835 <|
  nx (sa o55 0 (upd (o55 0) (Int32.toNatClampNeg (x51 + (2 : Int32))) v3)) fun o57 =>
  gi (x43 + (3 : Int32)) 835 <|
  gi (x43 + (3 : Int32)) 835 <|
  nx (sa o57 0 (upd (o57 0) (Int32.toNatClampNeg (x43 + (3 : Int32))) ((o57 0 (Int32.toNatClampNeg (x43 + (3 : Int32)))) + (1 : Int32)))) fun o60 =>
  gi (x43 + (6 : Int32)) 835 <|
  gi (x43 + (6 : Int32)) 835 <|
  nx (sa o60 0 (upd (o60 0) (Int32.toNatClampNeg (x43 + (6 : Int32))) ((o60 0 (Int32.toNatClampNeg (x43 + (6 : Int32)))) + v3))) fun o63 =>
  nx (k39 + (1 : Int32)) fun x64 =>
  some (.inl (o63, x64))
  )
  )
  )
  )
  )) FU o_t (0 : Int32)) <| fun (o40 : Ob) =>
  some o40
set_option maxRecDepth 20000 in
theorem h_X12_entry_X12 : ∀ w ∈ wsX120, w ∈ wsX12_entry := by decide +kernel
set_option maxRecDepth 20000 in
theorem k_X12_entry_7 : ZF wsX12_entry RX12 7 12 0 RX12 TX12 47 := ⟨rfl, by decide, h_X12_entry_X12, by decide +kernel⟩
set_option maxHeartbeats 8000000 in
set_option maxRecDepth 100000 in
theorem c_X12_entry (l : Launch) (D : va_G) (cA : Nat → ClassId) (g : Nat → Nat) (sz : Nat) (h_t : Nat) (a_t : Nat → Nat) (o_t : Ob) (v1 : Int32) (v2 : Int32) (v3 : Int32) (o_t' : Ob) (hF : f_X12_entry o_t v1 v2 v3 = some o_t') : Met l yX12_entry wsX12_entry ({ frames := 1, cells := 0, slots := 0, locals := 21 }) (va_Pc [.ref h_t, .int v1, .int v2, .int v3] (PreW D cA g sz (w_X12_four cA h_t a_t o_t))) (va_Qv (fun (_ : Unit) => True) (PostW D cA sz (w_X12_four cA h_t a_t o_t) (w_X12_four cA h_t a_t o_t')) (va_A (w_X12_four cA h_t a_t o_t) sz)) 0 0 (va_A (w_X12_four cA h_t a_t o_t) sz) := by
  refine z_start (cc := cX12_entry) (maxL := 7) (ret := none) (lv0 := [(0, .ref h_t), (1, .int v1), (2, .int v2), (3, .int v3)]) (Qc := fun sz => va_Qv (fun (_ : Unit) => True) (PostW D cA sz (w_X12_four cA h_t a_t o_t) (w_X12_four cA h_t a_t o_t')) (va_A (w_X12_four cA h_t a_t o_t) sz)) (free := fun sz => va_A (w_X12_four cA h_t a_t o_t) sz) (by decide) rfl rfl (Nat.le_of_ble_eq_true rfl) ?_
  intro p e R s m args below meth c A Q hR hA hQ X hr hin
  unfold f_X12_entry at hF
  refine z_iconst (v := (0 : Int32)) X dX12_entry_0 (by decide) ?_
  refine z_istore (lv' := [(4, .int (0 : Int32)), (0, .ref h_t), (1, .int v1), (2, .int v2), (3, .int v3)]) X dX12_entry_1 (by decide) rfl ?_
  obtain ⟨o40, hL, hF⟩ := zb1_e hF
  have L41_x : ∀ (o40' : Ob), o40' = o40 → ZW p l e R s m args below meth c D A 7 0 0 Q (w_X12_four cA h_t a_t o40') [] 186 [] := by
    intro o40' hz
    cases hz
    cases hF
    exact z_vret X hA hQ hr dX12_entry_186 (Nat.le_refl _) (Nat.le_refl _)
  obtain ⟨B78, hBB78, hL⟩ := zl2_b hL
  have L41 : ∀ (n : Nat) (o38 : Ob) (k39 : Int32), zl2 B78 n o38 k39 = some o40 → ZW p l e R s m args below meth c D A 7 0 0 Q (w_X12_four cA h_t a_t o38) [(0, .ref h_t), (1, .int v1), (2, .int v2), (3, .int v3), (4, .int k39)] 3 [] := by
    intro n
    induction n with
    | zero => intro o38 k39 hL; cases hL
    | succ n ih =>
      intro o38 k39 hL
      obtain ⟨zz42, hF, hL⟩ := zl2_e hL
      rw [hBB78] at hF
      refine z_iload X dX12_entry_3 4 rfl ?_
      refine z_iconst (v := (3 : Int32)) X dX12_entry_5 (by decide) ?_
      have hF := if_e hF
      refine z_icmp_ge (tgt := 186) X dX12_entry_6 (by decide) (fun c77 => ?_) (fun c77 => ?_)
      · have hF := hF.1 c77
        cases hF
        have hL := Option.some.inj hL
        refine z_lv (lv' := []) [] rfl ?_
        exact L41_x o38 hL
      · have hF := hF.2 c77
        refine z_sipush (v := (544 : Int32)) X dX12_entry_9 (by decide) ?_
        refine z_bipush (v := (7 : Int32)) X dX12_entry_12 (by decide) ?_
        refine z_iload X dX12_entry_14 4 rfl ?_
        refine z_imul X dX12_entry_16 ?_
        refine z_iadd X dX12_entry_17 ?_
        obtain ⟨x43, ex43, hF⟩ := nx_e hF
        refine z_nm ex43 ?_
        refine z_istore (lv' := [(5, .int x43), (0, .ref h_t), (1, .int v1), (2, .int v2), (3, .int v3), (4, .int k39)]) X dX12_entry_18 (by decide) rfl ?_
        refine z_aload_n X dX12_entry_20 rfl 1 rfl ?_
        refine z_get (v := .ref (a_t 0)) X k_X12_entry_7 0 rfl rfl dX12_entry_21 ?_
        refine z_iload X dX12_entry_24 0 rfl ?_
        obtain ⟨g44, hF⟩ := gi_e hF
        refine z_iald X 1 rfl g44 dX12_entry_26 ?_
        have hF := if_e hF
        refine z_if_ne (tgt := 33) X dX12_entry_27 (by decide) (fun c76 => ?_) (fun c76 => ?_)
        · have hF := hF.2 c76
          refine z_aload_n X dX12_entry_33 rfl 1 rfl ?_
          refine z_get (v := .ref (a_t 0)) X k_X12_entry_7 0 rfl rfl dX12_entry_34 ?_
          refine z_iload X dX12_entry_37 0 rfl ?_
          refine z_iconst (v := (3 : Int32)) X dX12_entry_39 (by decide) ?_
          refine z_iadd X dX12_entry_40 ?_
          obtain ⟨g45, hF⟩ := gi_e hF
          refine z_iald X 1 rfl g45 dX12_entry_41 ?_
          refine z_aload_n X dX12_entry_42 rfl 1 rfl ?_
          refine z_get (v := .ref (a_t 0)) X k_X12_entry_7 0 rfl rfl dX12_entry_43 ?_
          refine z_iload X dX12_entry_46 0 rfl ?_
          refine z_iconst (v := (2 : Int32)) X dX12_entry_48 (by decide) ?_
          refine z_iadd X dX12_entry_49 ?_
          obtain ⟨g46, hF⟩ := gi_e hF
          refine z_iald X 1 rfl g46 dX12_entry_50 ?_
          have hF := if_e hF
          refine z_icmp_ne (tgt := 70) X dX12_entry_51 (by decide) (fun c74 => ?_) (fun c74 => ?_)
          · have hF := hF.2 c74
            refine z_aload_n X dX12_entry_70 rfl 1 rfl ?_
            refine z_get (v := .ref (a_t 0)) X k_X12_entry_7 0 rfl rfl dX12_entry_71 ?_
            refine z_iload X dX12_entry_74 0 rfl ?_
            refine z_iconst (v := (1 : Int32)) X dX12_entry_76 (by decide) ?_
            refine z_iadd X dX12_entry_77 ?_
            obtain ⟨g47, hF⟩ := gi_e hF
            refine z_iald X 1 rfl g47 dX12_entry_78 ?_
            refine z_iload_n X dX12_entry_79 rfl 2 rfl ?_
            obtain ⟨r48, hc49, hF⟩ := zb1_e hF
            refine z_Si (As := [.int (o38 0 (Int32.toNatClampNeg (x43 + (1 : Int32)))), .int v1]) (rest := []) (wc := ([] : va_W)) (wc' := ([] : va_W)) (ws' := (w_X12_four cA h_t a_t o38)) (rv := r48) X (va_cwS 2 X.2.2.2.2.1 gX12_entry_X12_isTaken rfl rfl rfl (by decide +kernel) (by rw [hR]; exact ⟨Nat.le_of_ble_eq_true rfl, Nat.le_of_ble_eq_true rfl⟩)) (fun sz => c_X12_isTaken l D cA g sz (o38 0 (Int32.toNatClampNeg (x43 + (1 : Int32)))) v1 r48 hc49) [] [0, 1, 2, 3, 4, 5, 6, 7, 8, 9, 10, 11, 12, 13, 14, 15, 16, 17, 18, 19, 20, 21] rfl (by decide) rfl (by decide) rfl rfl rfl (Nat.le_of_ble_eq_true rfl) dX12_entry_80 ⟨Nat.zero_le _, Nat.zero_le _⟩ ?_
            have hF := if_e hF
            refine z_if_ne (tgt := 102) X dX12_entry_83 (by decide) (fun c69 => ?_) (fun c69 => ?_)
            · have hF := hF.2 c69
              refine z_sipush (v := (565 : Int32)) X dX12_entry_102 (by decide) ?_
              refine z_bipush (v := (90 : Int32)) X dX12_entry_105 (by decide) ?_
              refine z_iload X dX12_entry_107 5 rfl ?_
              refine z_imul X dX12_entry_109 ?_
              refine z_iadd X dX12_entry_110 ?_
              refine z_iconst (v := (3 : Int32)) X dX12_entry_111 (by decide) ?_
              refine z_aload_n X dX12_entry_112 rfl 1 rfl ?_
              refine z_get (v := .ref (a_t 0)) X k_X12_entry_7 0 rfl rfl dX12_entry_113 ?_
              refine z_iload X dX12_entry_116 0 rfl ?_
              refine z_iconst (v := (3 : Int32)) X dX12_entry_118 (by decide) ?_
              refine z_iadd X dX12_entry_119 ?_
              obtain ⟨g50, hF⟩ := gi_e hF
              refine z_iald X 1 rfl g50 dX12_entry_120 ?_
              refine z_imul X dX12_entry_121 ?_
              refine z_iadd X dX12_entry_122 ?_
              obtain ⟨x51, ex51, hF⟩ := nx_e hF
              refine z_nm ex51 ?_
              refine z_istore (lv' := [(6, .int x51), (5, .int x43), (0, .ref h_t), (1, .int v1), (2, .int v2), (3, .int v3), (4, .int k39)]) X dX12_entry_123 (by decide) rfl ?_
              refine z_aload_n X dX12_entry_125 rfl 2 rfl ?_
              refine z_get (v := .ref (a_t 0)) X k_X12_entry_7 0 rfl rfl dX12_entry_126 ?_
              refine z_iload X dX12_entry_129 0 rfl ?_
              refine z_iload_n X dX12_entry_131 rfl 3 rfl ?_
              obtain ⟨g52, hF⟩ := gi_e hF
              obtain ⟨o53, eo53, hF⟩ := nx_e hF
              refine z_iast (ws' := (w_X12_four cA h_t a_t o53)) X 1 rfl g52 (by rw [eo53]; rfl) dX12_entry_132 ?_
              refine z_aload_n X dX12_entry_133 rfl 2 rfl ?_
              refine z_get (v := .ref (a_t 0)) X k_X12_entry_7 0 rfl rfl dX12_entry_134 ?_
              refine z_iload X dX12_entry_137 0 rfl ?_
              refine z_iconst (v := (1 : Int32)) X dX12_entry_139 (by decide) ?_
              refine z_iadd X dX12_entry_140 ?_
              refine z_iload_n X dX12_entry_141 rfl 4 rfl ?_
              obtain ⟨g54, hF⟩ := gi_e hF
              obtain ⟨o55, eo55, hF⟩ := nx_e hF
              refine z_iast (ws' := (w_X12_four cA h_t a_t o55)) X 1 rfl g54 (by rw [eo55]; rfl) dX12_entry_142 ?_
              refine z_aload_n X dX12_entry_143 rfl 2 rfl ?_
              refine z_get (v := .ref (a_t 0)) X k_X12_entry_7 0 rfl rfl dX12_entry_144 ?_
              refine z_iload X dX12_entry_147 0 rfl ?_
              refine z_iconst (v := (2 : Int32)) X dX12_entry_149 (by decide) ?_
              refine z_iadd X dX12_entry_150 ?_
              refine z_iload_n X dX12_entry_151 rfl 5 rfl ?_
              obtain ⟨g56, hF⟩ := gi_e hF
              obtain ⟨o57, eo57, hF⟩ := nx_e hF
              refine z_iast (ws' := (w_X12_four cA h_t a_t o57)) X 1 rfl g56 (by rw [eo57]; rfl) dX12_entry_152 ?_
              refine z_aload_n X dX12_entry_153 rfl 2 rfl ?_
              refine z_get (v := .ref (a_t 0)) X k_X12_entry_7 0 rfl rfl dX12_entry_154 ?_
              refine z_iload X dX12_entry_157 1 rfl ?_
              refine z_iconst (v := (3 : Int32)) X dX12_entry_159 (by decide) ?_
              refine z_iadd X dX12_entry_160 ?_
              refine z_dup2 X dX12_entry_161 rfl rfl ?_
              obtain ⟨g58, hF⟩ := gi_e hF
              refine z_iald X 1 rfl g58 dX12_entry_162 ?_
              refine z_iconst (v := (1 : Int32)) X dX12_entry_163 (by decide) ?_
              refine z_iadd X dX12_entry_164 ?_
              obtain ⟨g59, hF⟩ := gi_e hF
              obtain ⟨o60, eo60, hF⟩ := nx_e hF
              refine z_iast (ws' := (w_X12_four cA h_t a_t o60)) X 1 rfl g59 (by rw [eo60]; rfl) dX12_entry_165 ?_
              refine z_aload_n X dX12_entry_166 rfl 2 rfl ?_
              refine z_get (v := .ref (a_t 0)) X k_X12_entry_7 0 rfl rfl dX12_entry_167 ?_
              refine z_iload X dX12_entry_170 1 rfl ?_
              refine z_bipush (v := (6 : Int32)) X dX12_entry_172 (by decide) ?_
              refine z_iadd X dX12_entry_174 ?_
              refine z_dup2 X dX12_entry_175 rfl rfl ?_
              obtain ⟨g61, hF⟩ := gi_e hF
              refine z_iald X 1 rfl g61 dX12_entry_176 ?_
              refine z_iload_n X dX12_entry_177 rfl 5 rfl ?_
              refine z_iadd X dX12_entry_178 ?_
              obtain ⟨g62, hF⟩ := gi_e hF
              obtain ⟨o63, eo63, hF⟩ := nx_e hF
              refine z_iast (ws' := (w_X12_four cA h_t a_t o63)) X 1 rfl g62 (by rw [eo63]; rfl) dX12_entry_179 ?_
              obtain ⟨x64, ex64, hF⟩ := nx_e hF
              refine z_iinc (v := x64) (lv' := [(4, .int x64), (6, .int x51), (5, .int x43), (0, .ref h_t), (1, .int v1), (2, .int v2), (3, .int v3)]) (j := 6) X dX12_entry_180 rfl (by rw [ex64]; rfl) (by decide) rfl ?_
              refine z_goto (tgt := 3) X dX12_entry_183 (by decide) ?_
              cases hF
              refine z_lv (lv' := [(0, .ref h_t), (1, .int v1), (2, .int v2), (3, .int v3), (4, .int x64)]) [3, 4, 5, 6, 0] rfl ?_
              exact ih o63 x64 hL
            · have hF := hF.1 c69
              refine z_aload_n X dX12_entry_86 rfl 1 rfl ?_
              refine z_get (v := .ref (a_t 0)) X k_X12_entry_7 0 rfl rfl dX12_entry_87 ?_
              refine z_iload X dX12_entry_90 0 rfl ?_
              refine z_iconst (v := (4 : Int32)) X dX12_entry_92 (by decide) ?_
              refine z_iadd X dX12_entry_93 ?_
              refine z_dup2 X dX12_entry_94 rfl rfl ?_
              obtain ⟨g65, hF⟩ := gi_e hF
              refine z_iald X 1 rfl g65 dX12_entry_95 ?_
              refine z_iconst (v := (1 : Int32)) X dX12_entry_96 (by decide) ?_
              refine z_iadd X dX12_entry_97 ?_
              obtain ⟨g66, hF⟩ := gi_e hF
              obtain ⟨o67, eo67, hF⟩ := nx_e hF
              refine z_iast (ws' := (w_X12_four cA h_t a_t o67)) X 1 rfl g66 (by rw [eo67]; rfl) dX12_entry_98 ?_
              refine z_goto (tgt := 180) X dX12_entry_99 (by decide) ?_
              obtain ⟨x68, ex68, hF⟩ := nx_e hF
              refine z_iinc (v := x68) (lv' := [(4, .int x68), (5, .int x43), (0, .ref h_t), (1, .int v1), (2, .int v2), (3, .int v3)]) (j := 5) X dX12_entry_180 rfl (by rw [ex68]; rfl) (by decide) rfl ?_
              refine z_goto (tgt := 3) X dX12_entry_183 (by decide) ?_
              cases hF
              refine z_lv (lv' := [(0, .ref h_t), (1, .int v1), (2, .int v2), (3, .int v3), (4, .int x68)]) [2, 3, 4, 5, 0] rfl ?_
              exact ih o67 x68 hL
          · have hF := hF.1 c74
            refine z_aload_n X dX12_entry_54 rfl 1 rfl ?_
            refine z_get (v := .ref (a_t 0)) X k_X12_entry_7 0 rfl rfl dX12_entry_55 ?_
            refine z_iload X dX12_entry_58 0 rfl ?_
            refine z_iconst (v := (5 : Int32)) X dX12_entry_60 (by decide) ?_
            refine z_iadd X dX12_entry_61 ?_
            refine z_dup2 X dX12_entry_62 rfl rfl ?_
            obtain ⟨g70, hF⟩ := gi_e hF
            refine z_iald X 1 rfl g70 dX12_entry_63 ?_
            refine z_iconst (v := (1 : Int32)) X dX12_entry_64 (by decide) ?_
            refine z_iadd X dX12_entry_65 ?_
            obtain ⟨g71, hF⟩ := gi_e hF
            obtain ⟨o72, eo72, hF⟩ := nx_e hF
            refine z_iast (ws' := (w_X12_four cA h_t a_t o72)) X 1 rfl g71 (by rw [eo72]; rfl) dX12_entry_66 ?_
            refine z_goto (tgt := 180) X dX12_entry_67 (by decide) ?_
            obtain ⟨x73, ex73, hF⟩ := nx_e hF
            refine z_iinc (v := x73) (lv' := [(4, .int x73), (5, .int x43), (0, .ref h_t), (1, .int v1), (2, .int v2), (3, .int v3)]) (j := 5) X dX12_entry_180 rfl (by rw [ex73]; rfl) (by decide) rfl ?_
            refine z_goto (tgt := 3) X dX12_entry_183 (by decide) ?_
            cases hF
            refine z_lv (lv' := [(0, .ref h_t), (1, .int v1), (2, .int v2), (3, .int v3), (4, .int x73)]) [2, 3, 4, 5, 0] rfl ?_
            exact ih o72 x73 hL
        · have hF := hF.1 c76
          refine z_goto (tgt := 180) X dX12_entry_30 (by decide) ?_
          obtain ⟨x75, ex75, hF⟩ := nx_e hF
          refine z_iinc (v := x75) (lv' := [(4, .int x75), (5, .int x43), (0, .ref h_t), (1, .int v1), (2, .int v2), (3, .int v3)]) (j := 5) X dX12_entry_180 rfl (by rw [ex75]; rfl) (by decide) rfl ?_
          refine z_goto (tgt := 3) X dX12_entry_183 (by decide) ?_
          cases hF
          refine z_lv (lv' := [(0, .ref h_t), (1, .int v1), (2, .int v2), (3, .int v3), (4, .int x75)]) [2, 3, 4, 5, 0] rfl ?_
          exact ih o38 x75 hL
  refine z_lv (lv' := [(0, .ref h_t), (1, .int v1), (2, .int v2), (3, .int v3), (4, .int (0 : Int32))]) [1, 2, 3, 4, 0] rfl ?_
  exact L41 FU o_t (0 : Int32) hL
def f_X12_book (o_t : Ob) (v1 : Int32) (v2 : Int32) (v3 : Int32) : Option (Ob × Int32) :=
  zb1 (f_X12_isIn v1 (0 : Int32) (2 : Int32)) fun (r1 : Int32) =>
  if r1 = 0 then (
  some (o_t, (-1 : Int32))
  ) else (
  zb1 (f_X12_isIn v2 (0 : Int32) (3 : Int32)) fun (r3 : Int32) =>
  if r3 = 0 then (
  some (o_t, (-1 : Int32))
  ) else (
  zb1 (f_X12_isIn v3 (0 : Int32) (30 : Int32)) fun (r5 : Int32) =>
  if r5 = 0 then (
  some (o_t, (-1 : Int32))
  ) else (
  nx ((544 : Int32) + ((7 : Int32) * v1)) fun x7 =>
  zb1 (zl2 (fun (o14 : Ob) (k15 : Int32) => (
  if (7 : Int32) ≤ k15 then (
  some (.inr o14)
  ) else (
  gi (x7 + k15) 835 <|
  nx (sa o14 0 (upd (o14 0) (Int32.toNatClampNeg (x7 + k15)) (0 : Int32))) fun o26 =>
  nx (k15 + (1 : Int32)) fun x27 =>
  some (.inl (o26, x27))
  )
  )) FU o_t (0 : Int32)) <| fun (o16 : Ob) =>
  gi x7 835 <|
  nx (sa o16 0 (upd (o16 0) (Int32.toNatClampNeg x7) (1 : Int32))) fun o18 =>
  gi (x7 + (1 : Int32)) 835 <|
  nx (sa o18 0 (upd (o18 0) (Int32.toNatClampNeg (x7 + (1 : Int32))) v2)) fun o20 =>
  gi (x7 + (2 : Int32)) 835 <|
  nx (sa o20 0 (upd (o20 0) (Int32.toNatClampNeg (x7 + (2 : Int32))) v3)) fun o22 =>
  some (o22, (0 : Int32))
  )
  )
  )
set_option maxRecDepth 20000 in
theorem h_X12_book_X12 : ∀ w ∈ wsX120, w ∈ wsX12_book := by decide +kernel
set_option maxRecDepth 20000 in
theorem k_X12_book_7 : ZF wsX12_book RX12 7 12 0 RX12 TX12 47 := ⟨rfl, by decide, h_X12_book_X12, by decide +kernel⟩
set_option maxHeartbeats 8000000 in
set_option maxRecDepth 100000 in
theorem c_X12_book (l : Launch) (D : va_G) (cA : Nat → ClassId) (g : Nat → Nat) (sz : Nat) (h_t : Nat) (a_t : Nat → Nat) (o_t : Ob) (v1 : Int32) (v2 : Int32) (v3 : Int32) (o_t' : Ob) (rv : Int32) (hF : f_X12_book o_t v1 v2 v3 = some (o_t', rv)) : Met l yX12_book wsX12_book ({ frames := 1, cells := 0, slots := 0, locals := 22 }) (va_Pc [.ref h_t, .int v1, .int v2, .int v3] (PreW D cA g sz (w_X12_four cA h_t a_t o_t))) (va_Qi (fun (r : Int32) (_ : Unit) => r = rv) (PostW D cA sz (w_X12_four cA h_t a_t o_t) (w_X12_four cA h_t a_t o_t')) (va_A (w_X12_four cA h_t a_t o_t) sz)) 0 0 (va_A (w_X12_four cA h_t a_t o_t) sz) := by
  refine z_start (cc := cX12_book) (maxL := 6) (ret := (some .int)) (lv0 := [(0, .ref h_t), (1, .int v1), (2, .int v2), (3, .int v3)]) (Qc := fun sz => va_Qi (fun (r : Int32) (_ : Unit) => r = rv) (PostW D cA sz (w_X12_four cA h_t a_t o_t) (w_X12_four cA h_t a_t o_t')) (va_A (w_X12_four cA h_t a_t o_t) sz)) (free := fun sz => va_A (w_X12_four cA h_t a_t o_t) sz) (by decide) rfl rfl (Nat.le_of_ble_eq_true rfl) ?_
  intro p e R s m args below meth c A Q hR hA hQ X hr hin
  unfold f_X12_book at hF
  refine z_iload_n X dX12_book_0 rfl 1 rfl ?_
  refine z_iconst (v := (0 : Int32)) X dX12_book_1 (by decide) ?_
  refine z_iconst (v := (2 : Int32)) X dX12_book_2 (by decide) ?_
  obtain ⟨r1, hc2, hF⟩ := zb1_e hF
  refine z_Si (As := [.int v1, .int (0 : Int32), .int (2 : Int32)]) (rest := []) (wc := ([] : va_W)) (wc' := ([] : va_W)) (ws' := (w_X12_four cA h_t a_t o_t)) (rv := r1) X (va_cwS 3 X.2.2.2.2.1 gX12_book_X12_isIn rfl rfl rfl (by decide +kernel) (by rw [hR]; exact ⟨Nat.le_of_ble_eq_true rfl, Nat.le_of_ble_eq_true rfl⟩)) (fun sz => c_X12_isIn l D cA g sz v1 (0 : Int32) (2 : Int32) r1 hc2) [] [0, 1, 2, 3, 4, 5, 6, 7, 8, 9, 10, 11, 12, 13, 14, 15, 16, 17, 18, 19, 20, 21] rfl (by decide) rfl (by decide) rfl rfl rfl (Nat.le_of_ble_eq_true rfl) dX12_book_3 ⟨Nat.zero_le _, Nat.zero_le _⟩ ?_
  have hF := if_e hF
  refine z_if_eq (tgt := 28) X dX12_book_6 (by decide) (fun c32 => ?_) (fun c32 => ?_)
  · have hF := hF.1 c32
    refine z_iconst (v := (-1 : Int32)) X dX12_book_28 (by decide) ?_
    cases hF
    exact z_iret X hA hQ hr rfl dX12_book_29 (Nat.le_refl _) (Nat.le_refl _)
  · have hF := hF.2 c32
    refine z_iload_n X dX12_book_9 rfl 2 rfl ?_
    refine z_iconst (v := (0 : Int32)) X dX12_book_10 (by decide) ?_
    refine z_iconst (v := (3 : Int32)) X dX12_book_11 (by decide) ?_
    obtain ⟨r3, hc4, hF⟩ := zb1_e hF
    refine z_Si (As := [.int v2, .int (0 : Int32), .int (3 : Int32)]) (rest := []) (wc := ([] : va_W)) (wc' := ([] : va_W)) (ws' := (w_X12_four cA h_t a_t o_t)) (rv := r3) X (va_cwS 3 X.2.2.2.2.1 gX12_book_X12_isIn rfl rfl rfl (by decide +kernel) (by rw [hR]; exact ⟨Nat.le_of_ble_eq_true rfl, Nat.le_of_ble_eq_true rfl⟩)) (fun sz => c_X12_isIn l D cA g sz v2 (0 : Int32) (3 : Int32) r3 hc4) [] [0, 1, 2, 3, 4, 5, 6, 7, 8, 9, 10, 11, 12, 13, 14, 15, 16, 17, 18, 19, 20, 21] rfl (by decide) rfl (by decide) rfl rfl rfl (Nat.le_of_ble_eq_true rfl) dX12_book_12 ⟨Nat.zero_le _, Nat.zero_le _⟩ ?_
    have hF := if_e hF
    refine z_if_eq (tgt := 28) X dX12_book_15 (by decide) (fun c31 => ?_) (fun c31 => ?_)
    · have hF := hF.1 c31
      refine z_iconst (v := (-1 : Int32)) X dX12_book_28 (by decide) ?_
      cases hF
      exact z_iret X hA hQ hr rfl dX12_book_29 (Nat.le_refl _) (Nat.le_refl _)
    · have hF := hF.2 c31
      refine z_iload_n X dX12_book_18 rfl 3 rfl ?_
      refine z_iconst (v := (0 : Int32)) X dX12_book_19 (by decide) ?_
      refine z_bipush (v := (30 : Int32)) X dX12_book_20 (by decide) ?_
      obtain ⟨r5, hc6, hF⟩ := zb1_e hF
      refine z_Si (As := [.int v3, .int (0 : Int32), .int (30 : Int32)]) (rest := []) (wc := ([] : va_W)) (wc' := ([] : va_W)) (ws' := (w_X12_four cA h_t a_t o_t)) (rv := r5) X (va_cwS 3 X.2.2.2.2.1 gX12_book_X12_isIn rfl rfl rfl (by decide +kernel) (by rw [hR]; exact ⟨Nat.le_of_ble_eq_true rfl, Nat.le_of_ble_eq_true rfl⟩)) (fun sz => c_X12_isIn l D cA g sz v3 (0 : Int32) (30 : Int32) r5 hc6) [] [0, 1, 2, 3, 4, 5, 6, 7, 8, 9, 10, 11, 12, 13, 14, 15, 16, 17, 18, 19, 20, 21] rfl (by decide) rfl (by decide) rfl rfl rfl (Nat.le_of_ble_eq_true rfl) dX12_book_22 ⟨Nat.zero_le _, Nat.zero_le _⟩ ?_
      have hF := if_e hF
      refine z_if_ne (tgt := 30) X dX12_book_25 (by decide) (fun c30 => ?_) (fun c30 => ?_)
      · have hF := hF.2 c30
        refine z_sipush (v := (544 : Int32)) X dX12_book_30 (by decide) ?_
        refine z_bipush (v := (7 : Int32)) X dX12_book_33 (by decide) ?_
        refine z_iload_n X dX12_book_35 rfl 1 rfl ?_
        refine z_imul X dX12_book_36 ?_
        refine z_iadd X dX12_book_37 ?_
        obtain ⟨x7, ex7, hF⟩ := nx_e hF
        refine z_nm ex7 ?_
        refine z_istore (lv' := [(4, .int x7), (0, .ref h_t), (1, .int v1), (2, .int v2), (3, .int v3)]) X dX12_book_38 (by decide) rfl ?_
        refine z_iconst (v := (0 : Int32)) X dX12_book_40 (by decide) ?_
        refine z_istore (lv' := [(5, .int (0 : Int32)), (4, .int x7), (0, .ref h_t), (1, .int v1), (2, .int v2), (3, .int v3)]) X dX12_book_41 (by decide) rfl ?_
        obtain ⟨o16, hL, hF⟩ := zb1_e hF
        have L23_x : ∀ (o16' : Ob), o16' = o16 → ZW p l e R s m args below meth c D A 6 0 0 Q (w_X12_four cA h_t a_t o16') [(0, .ref h_t), (2, .int v2), (3, .int v3), (4, .int x7)] 67 [] := by
          intro o16' hz
          cases hz
          refine z_aload_n X dX12_book_67 rfl 0 rfl ?_
          refine z_get (v := .ref (a_t 0)) X k_X12_book_7 0 rfl rfl dX12_book_68 ?_
          refine z_iload X dX12_book_71 3 rfl ?_
          refine z_iconst (v := (1 : Int32)) X dX12_book_73 (by decide) ?_
          obtain ⟨g17, hF⟩ := gi_e hF
          obtain ⟨o18, eo18, hF⟩ := nx_e hF
          refine z_iast (ws' := (w_X12_four cA h_t a_t o18)) X 1 rfl g17 (by rw [eo18]; rfl) dX12_book_74 ?_
          refine z_aload_n X dX12_book_75 rfl 0 rfl ?_
          refine z_get (v := .ref (a_t 0)) X k_X12_book_7 0 rfl rfl dX12_book_76 ?_
          refine z_iload X dX12_book_79 3 rfl ?_
          refine z_iconst (v := (1 : Int32)) X dX12_book_81 (by decide) ?_
          refine z_iadd X dX12_book_82 ?_
          refine z_iload_n X dX12_book_83 rfl 1 rfl ?_
          obtain ⟨g19, hF⟩ := gi_e hF
          obtain ⟨o20, eo20, hF⟩ := nx_e hF
          refine z_iast (ws' := (w_X12_four cA h_t a_t o20)) X 1 rfl g19 (by rw [eo20]; rfl) dX12_book_84 ?_
          refine z_aload_n X dX12_book_85 rfl 0 rfl ?_
          refine z_get (v := .ref (a_t 0)) X k_X12_book_7 0 rfl rfl dX12_book_86 ?_
          refine z_iload X dX12_book_89 3 rfl ?_
          refine z_iconst (v := (2 : Int32)) X dX12_book_91 (by decide) ?_
          refine z_iadd X dX12_book_92 ?_
          refine z_iload_n X dX12_book_93 rfl 2 rfl ?_
          obtain ⟨g21, hF⟩ := gi_e hF
          obtain ⟨o22, eo22, hF⟩ := nx_e hF
          refine z_iast (ws' := (w_X12_four cA h_t a_t o22)) X 1 rfl g21 (by rw [eo22]; rfl) dX12_book_94 ?_
          refine z_iconst (v := (0 : Int32)) X dX12_book_95 (by decide) ?_
          cases hF
          exact z_iret X hA hQ hr rfl dX12_book_96 (Nat.le_refl _) (Nat.le_refl _)
        obtain ⟨B29, hBB29, hL⟩ := zl2_b hL
        have L23 : ∀ (n : Nat) (o14 : Ob) (k15 : Int32), zl2 B29 n o14 k15 = some o16 → ZW p l e R s m args below meth c D A 6 0 0 Q (w_X12_four cA h_t a_t o14) [(0, .ref h_t), (2, .int v2), (3, .int v3), (4, .int x7), (5, .int k15)] 43 [] := by
          intro n
          induction n with
          | zero => intro o14 k15 hL; cases hL
          | succ n ih =>
            intro o14 k15 hL
            obtain ⟨zz24, hF, hL⟩ := zl2_e hL
            rw [hBB29] at hF
            refine z_iload X dX12_book_43 4 rfl ?_
            refine z_bipush (v := (7 : Int32)) X dX12_book_45 (by decide) ?_
            have hF := if_e hF
            refine z_icmp_ge (tgt := 67) X dX12_book_47 (by decide) (fun c28 => ?_) (fun c28 => ?_)
            · have hF := hF.1 c28
              cases hF
              have hL := Option.some.inj hL
              refine z_lv (lv' := [(0, .ref h_t), (2, .int v2), (3, .int v3), (4, .int x7)]) [0, 1, 2, 3] rfl ?_
              exact L23_x o14 hL
            · have hF := hF.2 c28
              refine z_aload_n X dX12_book_50 rfl 0 rfl ?_
              refine z_get (v := .ref (a_t 0)) X k_X12_book_7 0 rfl rfl dX12_book_51 ?_
              refine z_iload X dX12_book_54 3 rfl ?_
              refine z_iload X dX12_book_56 4 rfl ?_
              refine z_iadd X dX12_book_58 ?_
              refine z_iconst (v := (0 : Int32)) X dX12_book_59 (by decide) ?_
              obtain ⟨g25, hF⟩ := gi_e hF
              obtain ⟨o26, eo26, hF⟩ := nx_e hF
              refine z_iast (ws' := (w_X12_four cA h_t a_t o26)) X 1 rfl g25 (by rw [eo26]; rfl) dX12_book_60 ?_
              obtain ⟨x27, ex27, hF⟩ := nx_e hF
              refine z_iinc (v := x27) (lv' := [(5, .int x27), (0, .ref h_t), (2, .int v2), (3, .int v3), (4, .int x7)]) (j := 4) X dX12_book_61 rfl (by rw [ex27]; rfl) (by decide) rfl ?_
              refine z_goto (tgt := 43) X dX12_book_64 (by decide) ?_
              cases hF
              refine z_lv (lv' := [(0, .ref h_t), (2, .int v2), (3, .int v3), (4, .int x7), (5, .int x27)]) [1, 2, 3, 4, 0] rfl ?_
              exact ih o26 x27 hL
        refine z_lv (lv' := [(0, .ref h_t), (2, .int v2), (3, .int v3), (4, .int x7), (5, .int (0 : Int32))]) [2, 4, 5, 1, 0] rfl ?_
        exact L23 FU o_t (0 : Int32) hL
      · have hF := hF.1 c30
        refine z_iconst (v := (-1 : Int32)) X dX12_book_28 (by decide) ?_
        cases hF
        exact z_iret X hA hQ hr rfl dX12_book_29 (Nat.le_refl _) (Nat.le_refl _)
def f_X12_lies (o_t : Ob) : Option (Int32) :=
  zb1 (zl2 (fun (k17 : Int32) (k18 : Int32) => (
  gi (2 : Int32) 835 <|
  if o_t 0 (Int32.toNatClampNeg (2 : Int32)) ≤ k18 then (
  some (.inr k17)
  ) else (
  gi (3 : Int32) 835 <|
  zb1 (f_X12_bitOf (o_t 0 (Int32.toNatClampNeg (3 : Int32))) k18) fun (r24 : Int32) =>
  nx (fun (j28 : Int32) => (
  nx (k17 + j28) fun x30 =>
  nx (k18 + (1 : Int32)) fun x31 =>
  some (.inl (x30, x31))
  )) fun K29 =>
  if r24 = 0 then (
  K29 (0 : Int32)
  ) else (
  gi ((8 : Int32) + k18) 835 <|
  K29 (o_t 0 (Int32.toNatClampNeg ((8 : Int32) + k18)))
  )
  )
  )) FU (0 : Int32) (0 : Int32)) <| fun (k19 : Int32) =>
  some k19
set_option maxRecDepth 20000 in
theorem h_X12_lies_X12 : ∀ w ∈ wsX120, w ∈ wsX12_lies := by decide +kernel
set_option maxRecDepth 20000 in
theorem k_X12_lies_7 : ZF wsX12_lies RX12 7 12 0 RX12 TX12 47 := ⟨rfl, by decide, h_X12_lies_X12, by decide +kernel⟩
set_option maxHeartbeats 8000000 in
set_option maxRecDepth 100000 in
theorem c_X12_lies (l : Launch) (D : va_G) (cA : Nat → ClassId) (g : Nat → Nat) (sz : Nat) (h_t : Nat) (a_t : Nat → Nat) (o_t : Ob)  (rv : Int32) (hF : f_X12_lies o_t = some rv) : Met l yX12_lies wsX12_lies ({ frames := 1, cells := 0, slots := 0, locals := 21 }) (va_Pc [.ref h_t] (PreW D cA g sz (w_X12_four cA h_t a_t o_t))) (va_Qi (fun (r : Int32) (_ : Unit) => r = rv) (PostW D cA sz (w_X12_four cA h_t a_t o_t) (w_X12_four cA h_t a_t o_t)) (va_A (w_X12_four cA h_t a_t o_t) sz)) 0 0 (va_A (w_X12_four cA h_t a_t o_t) sz) := by
  refine z_start (cc := cX12_lies) (maxL := 3) (ret := (some .int)) (lv0 := [(0, .ref h_t)]) (Qc := fun sz => va_Qi (fun (r : Int32) (_ : Unit) => r = rv) (PostW D cA sz (w_X12_four cA h_t a_t o_t) (w_X12_four cA h_t a_t o_t)) (va_A (w_X12_four cA h_t a_t o_t) sz)) (free := fun sz => va_A (w_X12_four cA h_t a_t o_t) sz) (by decide) rfl rfl (Nat.le_of_ble_eq_true rfl) ?_
  intro p e R s m args below meth c A Q hR hA hQ X hr hin
  unfold f_X12_lies at hF
  refine z_iconst (v := (0 : Int32)) X dX12_lies_0 (by decide) ?_
  refine z_istore_n (lv' := [(1, .int (0 : Int32)), (0, .ref h_t)]) X dX12_lies_1 rfl (by decide) rfl ?_
  refine z_iconst (v := (0 : Int32)) X dX12_lies_2 (by decide) ?_
  refine z_istore_n (lv' := [(2, .int (0 : Int32)), (1, .int (0 : Int32)), (0, .ref h_t)]) X dX12_lies_3 rfl (by decide) rfl ?_
  obtain ⟨k19, hL, hF⟩ := zb1_e hF
  have L20_x : ∀ (k19' : Int32), k19' = k19 → ZW p l e R s m args below meth c D A 3 0 0 Q (w_X12_four cA h_t a_t o_t) [(1, .int k19')] 49 [] := by
    intro k19' hz
    cases hz
    refine z_iload_n X dX12_lies_49 rfl 0 rfl ?_
    cases hF
    exact z_iret X hA hQ hr rfl dX12_lies_50 (Nat.le_refl _) (Nat.le_refl _)
  obtain ⟨B35, hBB35, hL⟩ := zl2_b hL
  have L20 : ∀ (n : Nat) (k17 : Int32) (k18 : Int32), zl2 B35 n k17 k18 = some k19 → ZW p l e R s m args below meth c D A 3 0 0 Q (w_X12_four cA h_t a_t o_t) [(0, .ref h_t), (1, .int k17), (2, .int k18)] 4 [] := by
    intro n
    induction n with
    | zero => intro k17 k18 hL; cases hL
    | succ n ih =>
      intro k17 k18 hL
      obtain ⟨zz21, hF, hL⟩ := zl2_e hL
      rw [hBB35] at hF
      refine z_iload_n X dX12_lies_4 rfl 2 rfl ?_
      refine z_aload_n X dX12_lies_5 rfl 0 rfl ?_
      refine z_get (v := .ref (a_t 0)) X k_X12_lies_7 0 rfl rfl dX12_lies_6 ?_
      refine z_iconst (v := (2 : Int32)) X dX12_lies_9 (by decide) ?_
      obtain ⟨g22, hF⟩ := gi_e hF
      refine z_iald X 1 rfl g22 dX12_lies_10 ?_
      have hF := if_e hF
      refine z_icmp_ge (tgt := 49) X dX12_lies_11 (by decide) (fun c34 => ?_) (fun c34 => ?_)
      · have hF := hF.1 c34
        cases hF
        have hL := Option.some.inj hL
        refine z_lv (lv' := [(1, .int k17)]) [1] rfl ?_
        exact L20_x k17 hL
      · have hF := hF.2 c34
        refine z_iload_n X dX12_lies_14 rfl 1 rfl ?_
        refine z_aload_n X dX12_lies_15 rfl 0 rfl ?_
        refine z_get (v := .ref (a_t 0)) X k_X12_lies_7 0 rfl rfl dX12_lies_16 ?_
        refine z_iconst (v := (3 : Int32)) X dX12_lies_19 (by decide) ?_
        obtain ⟨g23, hF⟩ := gi_e hF
        refine z_iald X 1 rfl g23 dX12_lies_20 ?_
        refine z_iload_n X dX12_lies_21 rfl 2 rfl ?_
        obtain ⟨r24, hc25, hF⟩ := zb1_e hF
        refine z_Si (As := [.int (o_t 0 (Int32.toNatClampNeg (3 : Int32))), .int k18]) (rest := [.int k17]) (wc := ([] : va_W)) (wc' := ([] : va_W)) (ws' := (w_X12_four cA h_t a_t o_t)) (rv := r24) X (va_cwS 2 X.2.2.2.2.1 gX12_lies_X12_bitOf rfl rfl rfl (by decide +kernel) (by rw [hR]; exact ⟨Nat.le_of_ble_eq_true rfl, Nat.le_of_ble_eq_true rfl⟩)) (fun sz => c_X12_bitOf l D cA g sz (o_t 0 (Int32.toNatClampNeg (3 : Int32))) k18 r24 hc25) [] [0, 1, 2, 3, 4, 5, 6, 7, 8, 9, 10, 11, 12, 13, 14, 15, 16, 17, 18, 19, 20, 21] rfl (by decide) rfl (by decide) rfl rfl rfl (Nat.le_of_ble_eq_true rfl) dX12_lies_22 ⟨Nat.zero_le _, Nat.zero_le _⟩ ?_
        obtain ⟨K29, eK29, hF⟩ := nx_e hF
        have K29_l : ∀ (j28 : Int32), K29 j28 = some zz21 → ZW p l e R s m args below meth c D A 3 0 0 Q (w_X12_four cA h_t a_t o_t) [(0, .ref h_t), (2, .int k18)] 41 [.int j28, .int k17] := by
          intro j28 hF
          rw [eK29] at hF
          refine z_iadd X dX12_lies_41 ?_
          obtain ⟨x30, ex30, hF⟩ := nx_e hF
          refine z_nm ex30 ?_
          refine z_istore_n (lv' := [(1, .int x30), (0, .ref h_t), (2, .int k18)]) X dX12_lies_42 rfl (by decide) rfl ?_
          obtain ⟨x31, ex31, hF⟩ := nx_e hF
          refine z_iinc (v := x31) (lv' := [(2, .int x31), (1, .int x30), (0, .ref h_t)]) (j := 2) X dX12_lies_43 rfl (by rw [ex31]; rfl) (by decide) rfl ?_
          refine z_goto (tgt := 4) X dX12_lies_46 (by decide) ?_
          cases hF
          refine z_lv (lv' := [(0, .ref h_t), (1, .int x30), (2, .int x31)]) [2, 1, 0] rfl ?_
          exact ih x30 x31 hL
        have hF := if_e hF
        refine z_if_eq (tgt := 40) X dX12_lies_25 (by decide) (fun c33 => ?_) (fun c33 => ?_)
        · have hF := hF.1 c33
          refine z_iconst (v := (0 : Int32)) X dX12_lies_40 (by decide) ?_
          refine z_lv (lv' := [(0, .ref h_t), (2, .int k18)]) [0, 2] rfl ?_
          exact K29_l (0 : Int32) hF
        · have hF := hF.2 c33
          refine z_aload_n X dX12_lies_28 rfl 0 rfl ?_
          refine z_get (v := .ref (a_t 0)) X k_X12_lies_7 0 rfl rfl dX12_lies_29 ?_
          refine z_bipush (v := (8 : Int32)) X dX12_lies_32 (by decide) ?_
          refine z_iload_n X dX12_lies_34 rfl 2 rfl ?_
          refine z_iadd X dX12_lies_35 ?_
          obtain ⟨g32, hF⟩ := gi_e hF
          refine z_iald X 1 rfl g32 dX12_lies_36 ?_
          refine z_goto (tgt := 41) X dX12_lies_37 (by decide) ?_
          refine z_lv (lv' := [(0, .ref h_t), (2, .int k18)]) [0, 2] rfl ?_
          exact K29_l (o_t 0 (Int32.toNatClampNeg ((8 : Int32) + k18))) hF
  refine z_lv (lv' := [(0, .ref h_t), (1, .int (0 : Int32)), (2, .int (0 : Int32))]) [2, 1, 0] rfl ?_
  exact L20 FU (0 : Int32) (0 : Int32) hL
