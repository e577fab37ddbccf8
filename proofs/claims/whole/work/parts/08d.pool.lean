def f_X11_carry (o_t_state : Ob) (o_t_state_wares : Ob) (o_t_state_shelf : Ob) (o_t_state_log : Ob) (o_t_state_b0 : Ob) (o_t_state_b1 : Ob) (o_t_state_b2 : Ob) (o_t_history : Ob) (o_t_gates : Ob) (o_t_deeds : Ob) (P : PV) (v1 : Int32) (v2 : Int32) : Option (Ob × Ob × Ob × Ob × Ob × Ob × Ob × Ob × PV × Int32) :=
  zb1 (f_X10_has o_t_state_wares v1) fun (r1 : Int32) =>
  if r1 = 0 then (
  some (o_t_state, o_t_state_shelf, o_t_state_b0, o_t_state_b1, o_t_state_b2, o_t_history, o_t_gates, o_t_deeds, P, (-2 : Int32))
  ) else (
  if v2 < 0 then (
  some (o_t_state, o_t_state_shelf, o_t_state_b0, o_t_state_b1, o_t_state_b2, o_t_history, o_t_gates, o_t_deeds, P, (-2 : Int32))
  ) else (
  if v2 ≤ (1 : Int32) then (
  zb1 (f_X2_newCall o_t_gates) fun (o3 : Ob) =>
  zb1 (f_X11_hindrance o_t_state_wares o_t_state_shelf v1 v2) fun (r5 : Int32) =>
  if r5 = 0 then (
  zb2 (f_X3_keep o_t_history o_t_state o_t_state_wares o_t_state_shelf o_t_state_log o_t_state_b0 o_t_state_b1 o_t_state_b2 P) fun (o7 : Ob) (P8 : PV) =>
  zb7 (f_X9_move o_t_state o_t_state_wares o_t_state_shelf o_t_state_b0 o_t_state_b1 o_t_state_b2 o_t_deeds o3 v1) fun (o12 : Ob) (o13 : Ob) (o14 : Ob) (o15 : Ob) (o16 : Ob) (o17 : Ob) (o18 : Ob) =>
  some (o12, o13, o14, o15, o16, o7, o18, o17, P8, (0 : Int32))
  ) else (
  zb1 (f_X2_pass o3) fun (o20 : Ob) =>
  some (o_t_state, o_t_state_shelf, o_t_state_b0, o_t_state_b1, o_t_state_b2, o_t_history, o20, o_t_deeds, P, r5)
  )
  ) else (
  some (o_t_state, o_t_state_shelf, o_t_state_b0, o_t_state_b1, o_t_state_b2, o_t_history, o_t_gates, o_t_deeds, P, (-2 : Int32))
  )
  )
  )
set_option maxRecDepth 20000 in
theorem h_X11_carry_X11 : ∀ w ∈ wsX110, w ∈ wsX11_carry := by decide +kernel
set_option maxRecDepth 20000 in
theorem k_X11_carry_26 : ZF wsX11_carry RX11 26 11 2 RX11 TX11 15 := ⟨rfl, by decide, h_X11_carry_X11, by decide +kernel⟩
set_option maxRecDepth 20000 in
theorem k_X11_carry_33 : ZF wsX11_carry RX11 33 11 3 RX11 TX11 15 := ⟨rfl, by decide, h_X11_carry_X11, by decide +kernel⟩
set_option maxRecDepth 20000 in
theorem k_X11_carry_44 : ZF wsX11_carry RX11 44 11 5 RX11 TX11 15 := ⟨rfl, by decide, h_X11_carry_X11, by decide +kernel⟩
set_option maxRecDepth 20000 in
theorem k_X11_carry_51 : ZF wsX11_carry RX11 51 11 6 RX11 TX11 15 := ⟨rfl, by decide, h_X11_carry_X11, by decide +kernel⟩
set_option maxRecDepth 20000 in
theorem h_X11_carry_X9 : ∀ w ∈ wsX90, w ∈ wsX11_carry := by decide +kernel
set_option maxRecDepth 20000 in
theorem k_X11_carry_127 : ZF wsX11_carry RX11 127 9 0 RX9 TX9 7 := ⟨rfl, by decide, h_X11_carry_X9, by decide +kernel⟩
set_option maxHeartbeats 8000000 in
set_option maxRecDepth 100000 in
theorem c_X11_carry (l : Launch) (D : va_G) (cA : Nat → ClassId) (g : Nat → Nat) (sz : Nat) (h_t : Nat) (a_t : Nat → Nat) (o_t : Ob) (a_t_state : Nat → Nat) (o_t_state : Ob) (a_t_state_wares : Nat → Nat) (o_t_state_wares : Ob) (a_t_state_shelf : Nat → Nat) (o_t_state_shelf : Ob) (a_t_state_log : Nat → Nat) (o_t_state_log : Ob) (a_t_state_b0 : Nat → Nat) (o_t_state_b0 : Ob) (a_t_state_b1 : Nat → Nat) (o_t_state_b1 : Ob) (a_t_state_b2 : Nat → Nat) (o_t_state_b2 : Ob) (a_t_history : Nat → Nat) (o_t_history : Ob) (a_t_gates : Nat → Nat) (o_t_gates : Ob) (a_t_deeds : Nat → Nat) (o_t_deeds : Ob) (pl : va_W) (P : PV) (v1 : Int32) (v2 : Int32) (o_t_state' : Ob) (o_t_state_shelf' : Ob) (o_t_state_b0' : Ob) (o_t_state_b1' : Ob) (o_t_state_b2' : Ob) (o_t_history' : Ob) (o_t_gates' : Ob) (o_t_deeds' : Ob) (P' : PV) (rv : Int32) (hpl : Pool cA (a_t_history 0) 8 P pl) (hF : f_X11_carry o_t_state o_t_state_wares o_t_state_shelf o_t_state_log o_t_state_b0 o_t_state_b1 o_t_state_b2 o_t_history o_t_gates o_t_deeds P v1 v2 = some (o_t_state', o_t_state_shelf', o_t_state_b0', o_t_state_b1', o_t_state_b2', o_t_history', o_t_gates', o_t_deeds', P', rv)) : Met l yX11_carry wsX11_carry ({ frames := 4, cells := 28, slots := 823, locals := 113 }) (va_Pc [.ref h_t, .int v1, .int v2] (PreN D cA g sz ((w_X11_request cA h_t a_t o_t a_t_state o_t_state a_t_state_wares o_t_state_wares a_t_state_shelf o_t_state_shelf a_t_state_log o_t_state_log a_t_state_b0 o_t_state_b0 a_t_state_b1 o_t_state_b1 a_t_state_b2 o_t_state_b2 a_t_history o_t_history a_t_gates o_t_gates a_t_deeds o_t_deeds) ++ pl))) (va_Qi (fun (r : Int32) (_ : va_W) => r = rv) (PostT D cA sz ((w_X11_request cA h_t a_t o_t a_t_state o_t_state a_t_state_wares o_t_state_wares a_t_state_shelf o_t_state_shelf a_t_state_log o_t_state_log a_t_state_b0 o_t_state_b0 a_t_state_b1 o_t_state_b1 a_t_state_b2 o_t_state_b2 a_t_history o_t_history a_t_gates o_t_gates a_t_deeds o_t_deeds) ++ pl) (w_X11_request cA h_t a_t o_t a_t_state o_t_state' a_t_state_wares o_t_state_wares a_t_state_shelf o_t_state_shelf' a_t_state_log o_t_state_log a_t_state_b0 o_t_state_b0' a_t_state_b1 o_t_state_b1' a_t_state_b2 o_t_state_b2' a_t_history o_t_history' a_t_gates o_t_gates' a_t_deeds o_t_deeds') (Pool cA (a_t_history 0) 8 P')) (va_A ((w_X11_request cA h_t a_t o_t a_t_state o_t_state a_t_state_wares o_t_state_wares a_t_state_shelf o_t_state_shelf a_t_state_log o_t_state_log a_t_state_b0 o_t_state_b0 a_t_state_b1 o_t_state_b1 a_t_state_b2 o_t_state_b2 a_t_history o_t_history a_t_gates o_t_gates a_t_deeds o_t_deeds) ++ pl) sz)) 28 823 (va_A ((w_X11_request cA h_t a_t o_t a_t_state o_t_state a_t_state_wares o_t_state_wares a_t_state_shelf o_t_state_shelf a_t_state_log o_t_state_log a_t_state_b0 o_t_state_b0 a_t_state_b1 o_t_state_b1 a_t_state_b2 o_t_state_b2 a_t_history o_t_history a_t_gates o_t_gates a_t_deeds o_t_deeds) ++ pl) sz) := by
  refine z_startN (y := yX11_carry) (wsy := wsX11_carry) (av := [.ref h_t, .int v1, .int v2]) (w0 := ((w_X11_request cA h_t a_t o_t a_t_state o_t_state a_t_state_wares o_t_state_wares a_t_state_shelf o_t_state_shelf a_t_state_log o_t_state_log a_t_state_b0 o_t_state_b0 a_t_state_b1 o_t_state_b1 a_t_state_b2 o_t_state_b2 a_t_history o_t_history a_t_gates o_t_gates a_t_deeds o_t_deeds) ++ pl)) (cc := cX11_carry) (maxL := 4) (ret := (some .int)) (lv0 := [(0, .ref h_t), (1, .int v1), (2, .int v2)]) (Qc := fun sz => va_Qi (fun (r : Int32) (_ : va_W) => r = rv) (PostT D cA sz ((w_X11_request cA h_t a_t o_t a_t_state o_t_state a_t_state_wares o_t_state_wares a_t_state_shelf o_t_state_shelf a_t_state_log o_t_state_log a_t_state_b0 o_t_state_b0 a_t_state_b1 o_t_state_b1 a_t_state_b2 o_t_state_b2 a_t_history o_t_history a_t_gates o_t_gates a_t_deeds o_t_deeds) ++ pl) (w_X11_request cA h_t a_t o_t a_t_state o_t_state' a_t_state_wares o_t_state_wares a_t_state_shelf o_t_state_shelf' a_t_state_log o_t_state_log a_t_state_b0 o_t_state_b0' a_t_state_b1 o_t_state_b1' a_t_state_b2 o_t_state_b2' a_t_history o_t_history' a_t_gates o_t_gates' a_t_deeds o_t_deeds') (Pool cA (a_t_history 0) 8 P')) (va_A ((w_X11_request cA h_t a_t o_t a_t_state o_t_state a_t_state_wares o_t_state_wares a_t_state_shelf o_t_state_shelf a_t_state_log o_t_state_log a_t_state_b0 o_t_state_b0 a_t_state_b1 o_t_state_b1 a_t_state_b2 o_t_state_b2 a_t_history o_t_history a_t_gates o_t_gates a_t_deeds o_t_deeds) ++ pl) sz)) (free := fun sz => va_A ((w_X11_request cA h_t a_t o_t a_t_state o_t_state a_t_state_wares o_t_state_wares a_t_state_shelf o_t_state_shelf a_t_state_log o_t_state_log a_t_state_b0 o_t_state_b0 a_t_state_b1 o_t_state_b1 a_t_state_b2 o_t_state_b2 a_t_history o_t_history a_t_gates o_t_gates a_t_deeds o_t_deeds) ++ pl) sz) (by decide) rfl rfl (Nat.le_of_ble_eq_true rfl) ?_
  intro p e R s m args below meth c A Q hR hA hQ X Y hr hin
  unfold f_X11_carry at hF
  refine z_aload_n X dX11_carry_0 rfl 0 rfl ?_
  refine z_get (v := .ref (a_t 2)) X k_X11_carry_26 0 rfl rfl dX11_carry_1 ?_
  refine z_get (v := .ref (a_t_state 0)) X k_X11_carry_127 2 rfl rfl dX11_carry_4 ?_
  refine z_iload_n X dX11_carry_7 rfl 1 rfl ?_
  obtain ⟨r1, hc2, hF⟩ := zb1_e hF
  refine z_ViT (As := [.int v1]) (rest := []) (wc := (w_X10_numberOf cA (a_t_state 0) a_t_state_wares o_t_state_wares)) (wc' := (w_X10_numberOf cA (a_t_state 0) a_t_state_wares o_t_state_wares)) (X1 := (w_X11_request cA h_t a_t o_t a_t_state o_t_state a_t_state_wares o_t_state_wares a_t_state_shelf o_t_state_shelf a_t_state_log o_t_state_log a_t_state_b0 o_t_state_b0 a_t_state_b1 o_t_state_b1 a_t_state_b2 o_t_state_b2 a_t_history o_t_history a_t_gates o_t_gates a_t_deeds o_t_deeds)) (rv := r1) X (cwV 1 X.2.2.2.2.1 gX11_carry_X10_has rfl rfl rfl (by decide +kernel) (by rw [hR]; exact ⟨Nat.le_of_ble_eq_true rfl, Nat.le_of_ble_eq_true rfl⟩)) (fun sz => c_X10_has l D cA g sz (a_t_state 0) a_t_state_wares o_t_state_wares v1 r1 hc2) [4, 5, 6, 7, 8] [0, 1, 2, 3, 1000, 1001, 1002, 1003, 1004, 9, 10, 11, 12, 13, 14, 15, 16, 17, 18, 19, 20, 21, 22, 23, 24, 25, 26, 27, 28, 29, 30, 31, 32, 33, 34, 35, 36] rfl (by decide) rfl (by decide) rfl rfl rfl rfl rfl rfl (Nat.le_of_ble_eq_true rfl) dX11_carry_8 (by rw [hR]; exact ⟨Nat.le_of_ble_eq_true rfl, Nat.le_of_ble_eq_true rfl⟩) ?_
  have hF := if_e hF
  refine z_if_eq (tgt := 23) X dX11_carry_11 (by decide) (fun c25 => ?_) (fun c25 => ?_)
  · have hF := hF.1 c25
    refine z_bipush (v := (-2 : Int32)) X dX11_carry_23 (by decide) ?_
    cases hF
    exact z_iretT X hA hQ hr hpl rfl dX11_carry_25 (Nat.le_of_ble_eq_true rfl) (Nat.le_of_ble_eq_true rfl)
  · have hF := hF.2 c25
    refine z_iload_n X dX11_carry_14 rfl 2 rfl ?_
    have hF := if_e hF
    refine z_if_lt (tgt := 23) X dX11_carry_15 (by decide) (fun c24 => ?_) (fun c24 => ?_)
    · have hF := hF.1 c24
      refine z_bipush (v := (-2 : Int32)) X dX11_carry_23 (by decide) ?_
      cases hF
      exact z_iretT X hA hQ hr hpl rfl dX11_carry_25 (Nat.le_of_ble_eq_true rfl) (Nat.le_of_ble_eq_true rfl)
    · have hF := hF.2 c24
      refine z_iload_n X dX11_carry_18 rfl 2 rfl ?_
      refine z_iconst (v := (1 : Int32)) X dX11_carry_19 (by decide) ?_
      have hF := if_e hF
      refine z_icmp_le (tgt := 26) X dX11_carry_20 (by decide) (fun c23 => ?_) (fun c23 => ?_)
      · have hF := hF.1 c23
        refine z_aload_n X dX11_carry_26 rfl 0 rfl ?_
        refine z_get (v := .ref (a_t 5)) X k_X11_carry_44 0 rfl rfl dX11_carry_27 ?_
        obtain ⟨o3, hc4, hF⟩ := zb1_e hF
        refine z_VvT (As := []) (rest := []) (wc := (w_X2_newCall cA (a_t 5) a_t_gates o_t_gates)) (wc' := (w_X2_newCall cA (a_t 5) a_t_gates o3)) (X1 := (w_X11_request cA h_t a_t o_t a_t_state o_t_state a_t_state_wares o_t_state_wares a_t_state_shelf o_t_state_shelf a_t_state_log o_t_state_log a_t_state_b0 o_t_state_b0 a_t_state_b1 o_t_state_b1 a_t_state_b2 o_t_state_b2 a_t_history o_t_history a_t_gates o3 a_t_deeds o_t_deeds)) X (cwV 0 X.2.2.2.2.1 gX11_carry_X2_newCall rfl rfl rfl (by decide +kernel) (by rw [hR]; exact ⟨Nat.le_of_ble_eq_true rfl, Nat.le_of_ble_eq_true rfl⟩)) (fun sz => c_X2_newCall l D cA g sz (a_t 5) a_t_gates o_t_gates o3 hc4) [31, 32] [0, 1, 2, 3, 4, 5, 6, 7, 8, 9, 10, 11, 12, 13, 14, 15, 16, 17, 18, 19, 20, 21, 22, 23, 24, 25, 26, 27, 28, 29, 30, 1000, 1001, 33, 34, 35, 36] rfl (by decide) rfl (by decide) rfl rfl rfl rfl rfl rfl (Nat.le_of_ble_eq_true rfl) dX11_carry_30 (by rw [hR]; exact ⟨Nat.le_of_ble_eq_true rfl, Nat.le_of_ble_eq_true rfl⟩) ?_
        refine z_aload_n X dX11_carry_33 rfl 0 rfl ?_
        refine z_iload_n X dX11_carry_34 rfl 1 rfl ?_
        refine z_iload_n X dX11_carry_35 rfl 2 rfl ?_
        obtain ⟨r5, hc6, hF⟩ := zb1_e hF
        refine z_ViT (As := [.int v1, .int v2]) (rest := []) (wc := (w_X11_item cA h_t a_t o_t a_t_state o_t_state a_t_state_wares o_t_state_wares a_t_state_shelf o_t_state_shelf)) (wc' := (w_X11_item cA h_t a_t o_t a_t_state o_t_state a_t_state_wares o_t_state_wares a_t_state_shelf o_t_state_shelf)) (X1 := (w_X11_request cA h_t a_t o_t a_t_state o_t_state a_t_state_wares o_t_state_wares a_t_state_shelf o_t_state_shelf a_t_state_log o_t_state_log a_t_state_b0 o_t_state_b0 a_t_state_b1 o_t_state_b1 a_t_state_b2 o_t_state_b2 a_t_history o_t_history a_t_gates o3 a_t_deeds o_t_deeds)) (rv := r5) X (cwV 2 X.2.2.2.2.1 gX11_carry_X11_hindrance rfl rfl rfl (by decide +kernel) (by rw [hR]; exact ⟨Nat.le_of_ble_eq_true rfl, Nat.le_of_ble_eq_true rfl⟩)) (fun sz => c_X11_hindrance l D cA g sz h_t a_t o_t a_t_state o_t_state a_t_state_wares o_t_state_wares a_t_state_shelf o_t_state_shelf v1 v2 r5 hc6) [0, 1, 2, 3, 4, 5, 6, 7, 8, 9, 10, 11, 12] [1000, 1001, 1002, 1003, 1004, 1005, 1006, 1007, 1008, 1009, 1010, 1011, 1012, 13, 14, 15, 16, 17, 18, 19, 20, 21, 22, 23, 24, 25, 26, 27, 28, 29, 30, 31, 32, 33, 34, 35, 36] rfl (by decide) rfl (by decide) rfl rfl rfl rfl rfl rfl (Nat.le_of_ble_eq_true rfl) dX11_carry_36 (by rw [hR]; exact ⟨Nat.le_of_ble_eq_true rfl, Nat.le_of_ble_eq_true rfl⟩) ?_
        refine z_istore_n (lv' := [(3, .int r5), (0, .ref h_t), (1, .int v1), (2, .int v2)]) X dX11_carry_39 rfl (by decide) rfl ?_
        refine z_iload_n X dX11_carry_40 rfl 0 rfl ?_
        have hF := if_e hF
        refine z_if_eq (tgt := 53) X dX11_carry_41 (by decide) (fun c22 => ?_) (fun c22 => ?_)
        · have hF := hF.1 c22
          refine z_aload_n X dX11_carry_53 rfl 1 rfl ?_
          refine z_get (v := .ref (a_t 3)) X k_X11_carry_33 0 rfl rfl dX11_carry_54 ?_
          refine z_aload_n X dX11_carry_57 rfl 1 rfl ?_
          refine z_get (v := .ref (a_t 2)) X k_X11_carry_26 0 rfl rfl dX11_carry_58 ?_
          obtain ⟨o7, P8, hc9, hF⟩ := zb2_e hF
          refine z_Pv (As := [.ref (a_t 2)]) (rest := []) (wc := (w_X3_keep cA (a_t 3) a_t_history o_t_history (a_t 2) a_t_state o_t_state a_t_state_wares o_t_state_wares a_t_state_shelf o_t_state_shelf a_t_state_log o_t_state_log a_t_state_b0 o_t_state_b0 a_t_state_b1 o_t_state_b1 a_t_state_b2 o_t_state_b2)) (wc' := (w_X3_keep cA (a_t 3) a_t_history o7 (a_t 2) a_t_state o_t_state a_t_state_wares o_t_state_wares a_t_state_shelf o_t_state_shelf a_t_state_log o_t_state_log a_t_state_b0 o_t_state_b0 a_t_state_b1 o_t_state_b1 a_t_state_b2 o_t_state_b2)) (X1 := (w_X11_request cA h_t a_t o_t a_t_state o_t_state a_t_state_wares o_t_state_wares a_t_state_shelf o_t_state_shelf a_t_state_log o_t_state_log a_t_state_b0 o_t_state_b0 a_t_state_b1 o_t_state_b1 a_t_state_b2 o_t_state_b2 a_t_history o7 a_t_gates o3 a_t_deeds o_t_deeds)) (pl := pl) (Pl := Pool cA (a_t_history 0) 8 P8) X Y (cwV 1 X.2.2.2.2.1 gX11_carry_X3_keep rfl rfl rfl (by decide +kernel) (by rw [hR]; exact ⟨Nat.le_of_ble_eq_true rfl, Nat.le_of_ble_eq_true rfl⟩)) (fun sz => c_X3_keep l D cA g sz (a_t 3) a_t_history o_t_history (a_t 2) a_t_state o_t_state a_t_state_wares o_t_state_wares a_t_state_shelf o_t_state_shelf a_t_state_log o_t_state_log a_t_state_b0 o_t_state_b0 a_t_state_b1 o_t_state_b1 a_t_state_b2 o_t_state_b2 pl P  o7 P8 hpl hc9) [30, 2, 3, 4, 5, 6, 7, 8, 9, 10, 11, 12, 13, 14, 15, 16, 17, 18, 19, 20, 21, 22, 23, 24, 25, 26, 27, 28, 29] [0, 1, 1001, 1002, 1003, 1004, 1005, 1006, 1007, 1008, 1009, 1010, 1011, 1012, 1013, 1014, 1015, 1016, 1017, 1018, 1019, 1020, 1021, 1022, 1023, 1024, 1025, 1026, 1027, 1028, 1000, 31, 32, 33, 34, 35, 36] rfl (by decide) rfl (by decide) rfl rfl rfl rfl rfl rfl (Nat.le_of_ble_eq_true rfl) dX11_carry_61 (by rw [hR]; exact ⟨Nat.le_of_ble_eq_true rfl, Nat.le_of_ble_eq_true rfl⟩) (fun pl10 hp11 => ?_)
          refine z_aload_n X dX11_carry_64 rfl 1 rfl ?_
          refine z_get (v := .ref (a_t 2)) X k_X11_carry_26 0 rfl rfl dX11_carry_65 ?_
          refine z_iload_n X dX11_carry_68 rfl 2 rfl ?_
          refine z_aload_n X dX11_carry_69 rfl 1 rfl ?_
          refine z_get (v := .ref (a_t 6)) X k_X11_carry_51 0 rfl rfl dX11_carry_70 ?_
          refine z_aload_n X dX11_carry_73 rfl 1 rfl ?_
          refine z_get (v := .ref (a_t 5)) X k_X11_carry_44 0 rfl rfl dX11_carry_74 ?_
          obtain ⟨o12, o13, o14, o15, o16, o17, o18, hc19, hF⟩ := zb7_e hF
          refine z_VvT (As := [.int v1, .ref (a_t 6), .ref (a_t 5)]) (rest := []) (wc := (w_X9_move cA (a_t 2) a_t_state o_t_state a_t_state_wares o_t_state_wares a_t_state_shelf o_t_state_shelf a_t_state_b0 o_t_state_b0 a_t_state_b1 o_t_state_b1 a_t_state_b2 o_t_state_b2 (a_t 6) a_t_deeds o_t_deeds (a_t 5) a_t_gates o3)) (wc' := (w_X9_move cA (a_t 2) a_t_state o12 a_t_state_wares o_t_state_wares a_t_state_shelf o13 a_t_state_b0 o14 a_t_state_b1 o15 a_t_state_b2 o16 (a_t 6) a_t_deeds o17 (a_t 5) a_t_gates o18)) (X1 := (w_X11_request cA h_t a_t o_t a_t_state o12 a_t_state_wares o_t_state_wares a_t_state_shelf o13 a_t_state_log o_t_state_log a_t_state_b0 o14 a_t_state_b1 o15 a_t_state_b2 o16 a_t_history o7 a_t_gates o18 a_t_deeds o17)) X (cwV 3 X.2.2.2.2.1 gX11_carry_X9_move rfl rfl rfl (by decide +kernel) (by rw [hR]; exact ⟨Nat.le_of_ble_eq_true rfl, Nat.le_of_ble_eq_true rfl⟩)) (fun sz => c_X9_move l D cA g sz (a_t 2) a_t_state o_t_state a_t_state_wares o_t_state_wares a_t_state_shelf o_t_state_shelf a_t_state_b0 o_t_state_b0 a_t_state_b1 o_t_state_b1 a_t_state_b2 o_t_state_b2 (a_t 6) a_t_deeds o_t_deeds (a_t 5) a_t_gates o3 v1 o12 o13 o14 o15 o16 o17 o18 hc19) [2, 3, 4, 5, 6, 7, 8, 9, 10, 11, 12, 18, 19, 20, 21, 22, 23, 24, 25, 26, 27, 28, 29, 33, 34, 35, 36, 31, 32] [0, 1, 1000, 1001, 1002, 1003, 1004, 1005, 1006, 1007, 1008, 1009, 1010, 13, 14, 15, 16, 17, 1011, 1012, 1013, 1014, 1015, 1016, 1017, 1018, 1019, 1020, 1021, 1022, 30, 1027, 1028, 1023, 1024, 1025, 1026] rfl (by decide) rfl (by decide) rfl rfl rfl rfl rfl rfl (Nat.le_of_ble_eq_true rfl) dX11_carry_77 (by rw [hR]; exact ⟨Nat.le_of_ble_eq_true rfl, Nat.le_of_ble_eq_true rfl⟩) ?_
          refine z_iconst (v := (0 : Int32)) X dX11_carry_80 (by decide) ?_
          cases hF
          exact z_iretT X hA hQ hr hp11 rfl dX11_carry_81 (Nat.le_of_ble_eq_true rfl) (Nat.le_of_ble_eq_true rfl)
        · have hF := hF.2 c22
          refine z_aload_n X dX11_carry_44 rfl 1 rfl ?_
          refine z_get (v := .ref (a_t 5)) X k_X11_carry_44 0 rfl rfl dX11_carry_45 ?_
          obtain ⟨o20, hc21, hF⟩ := zb1_e hF
          refine z_VvT (As := []) (rest := []) (wc := (w_X2_newCall cA (a_t 5) a_t_gates o3)) (wc' := (w_X2_newCall cA (a_t 5) a_t_gates o20)) (X1 := (w_X11_request cA h_t a_t o_t a_t_state o_t_state a_t_state_wares o_t_state_wares a_t_state_shelf o_t_state_shelf a_t_state_log o_t_state_log a_t_state_b0 o_t_state_b0 a_t_state_b1 o_t_state_b1 a_t_state_b2 o_t_state_b2 a_t_history o_t_history a_t_gates o20 a_t_deeds o_t_deeds)) X (cwV 0 X.2.2.2.2.1 gX11_carry_X2_pass rfl rfl rfl (by decide +kernel) (by rw [hR]; exact ⟨Nat.le_of_ble_eq_true rfl, Nat.le_of_ble_eq_true rfl⟩)) (fun sz => c_X2_pass l D cA g sz (a_t 5) a_t_gates o3 o20 hc21) [31, 32] [0, 1, 2, 3, 4, 5, 6, 7, 8, 9, 10, 11, 12, 13, 14, 15, 16, 17, 18, 19, 20, 21, 22, 23, 24, 25, 26, 27, 28, 29, 30, 1000, 1001, 33, 34, 35, 36] rfl (by decide) rfl (by decide) rfl rfl rfl rfl rfl rfl (Nat.le_of_ble_eq_true rfl) dX11_carry_48 (by rw [hR]; exact ⟨Nat.le_of_ble_eq_true rfl, Nat.le_of_ble_eq_true rfl⟩) ?_
          refine z_iload_n X dX11_carry_51 rfl 0 rfl ?_
          cases hF
          exact z_iretT X hA hQ hr hpl rfl dX11_carry_52 (Nat.le_of_ble_eq_true rfl) (Nat.le_of_ble_eq_true rfl)
      · have hF := hF.2 c23
        refine z_bipush (v := (-2 : Int32)) X dX11_carry_23 (by decide) ?_
        cases hF
        exact z_iretT X hA hQ hr hpl rfl dX11_carry_25 (Nat.le_of_ble_eq_true rfl) (Nat.le_of_ble_eq_true rfl)
abbrev w_X11_shift (cA : Nat → ClassId) (h_t : Nat) (a_t : Nat → Nat) (o_t : Ob) (a_t_state : Nat → Nat) (o_t_state : Ob) (a_t_state_wares : Nat → Nat) (o_t_state_wares : Ob) (a_t_state_shelf : Nat → Nat) (o_t_state_shelf : Ob) (a_t_state_log : Nat → Nat) (o_t_state_log : Ob) (a_t_state_b0 : Nat → Nat) (o_t_state_b0 : Ob) (a_t_state_b1 : Nat → Nat) (o_t_state_b1 : Ob) (a_t_state_b2 : Nat → Nat) (o_t_state_b2 : Ob) (a_t_history : Nat → Nat) (o_t_history : Ob) (a_t_gates : Nat → Nat) (o_t_gates : Ob) (a_t_deeds : Nat → Nat) (o_t_deeds : Ob) (a_t_doneRides : Nat → Nat) (o_t_doneRides : Ob) : va_W := [(h_t, .inr (11, [.ref (a_t 0), .ref (a_t 1), .ref (a_t 2), .ref (a_t 3), .ref (a_t 4), .ref (a_t 5), .ref (a_t 6), .ref (a_t 7), .ref (a_t 8), .ref (a_t 9), .ref (a_t 10), .ref (a_t 11), .ref (a_t 12), .int (o_t 13 0), .int (o_t 14 0)])), (a_t 12, .inl (cA 0, 20, .inl (o_t 12))), ((a_t 2), .inr (9, [.ref (a_t_state 0), .ref (a_t_state 1), .ref (a_t_state 2), .ref (a_t_state 3), .int (o_t_state 4 0), .int (o_t_state 5 0), .int (o_t_state 6 0)])), (a_t_state 3, .inl (cA 4, 3, .inr (.inr (.inr (.inr (bk (a_t_state 20) (a_t_state 21) (a_t_state 22))))))), ((a_t_state 0), .inr (10, [.int (o_t_state_wares 0 0), .ref (a_t_state_wares 1), .ref (a_t_state_wares 2), .ref (a_t_state_wares 3), .ref (a_t_state_wares 4)])), (a_t_state_wares 1, .inl (cA 0, 8, .inl (o_t_state_wares 1))), (a_t_state_wares 2, .inl (cA 0, 8, .inl (o_t_state_wares 2))), (a_t_state_wares 3, .inl (cA 0, 8, .inl (o_t_state_wares 3))), (a_t_state_wares 4, .inl (cA 0, 8, .inl (o_t_state_wares 4))), ((a_t_state 1), .inr (8, [.int (o_t_state_shelf 0 0), .int (o_t_state_shelf 1 0), .int (o_t_state_shelf 2 0), .int (o_t_state_shelf 3 0), .ref (a_t_state_shelf 4), .ref (a_t_state_shelf 5), .ref (a_t_state_shelf 6)])), (a_t_state_shelf 4, .inl (cA 0, 8, .inl (o_t_state_shelf 4))), (a_t_state_shelf 5, .inl (cA 0, 8, .inl (o_t_state_shelf 5))), (a_t_state_shelf 6, .inl (cA 1, 8, .inr (.inr (.inl (fun j => (o_t_state_shelf 6 j).toUInt32))))), ((a_t_state 2), .inr (4, [.int (o_t_state_log 0 0), .ref (a_t_state_log 1), .ref (a_t_state_log 2), .ref (a_t_state_log 3), .ref (a_t_state_log 4)])), (a_t_state_log 1, .inl (cA 0, 40, .inl (o_t_state_log 1))), (a_t_state_log 2, .inl (cA 0, 40, .inl (o_t_state_log 2))), (a_t_state_log 3, .inl (cA 0, 40, .inl (o_t_state_log 3))), (a_t_state_log 4, .inl (cA 0, 320, .inl (o_t_state_log 4))), ((a_t_state 20), .inr (0, [.int (o_t_state_b0 0 0), .int (o_t_state_b0 1 0), .int (o_t_state_b0 2 0), .int (o_t_state_b0 3 0), .int (o_t_state_b0 4 0), .int (o_t_state_b0 5 0), .int (o_t_state_b0 6 0), .ref (a_t_state_b0 7), .ref (a_t_state_b0 8), .ref (a_t_state_b0 9)])), (a_t_state_b0 7, .inl (cA 0, 30, .inl (o_t_state_b0 7))), (a_t_state_b0 8, .inl (cA 0, 30, .inl (o_t_state_b0 8))), (a_t_state_b0 9, .inl (cA 0, 30, .inl (o_t_state_b0 9))), ((a_t_state 21), .inr (0, [.int (o_t_state_b1 0 0), .int (o_t_state_b1 1 0), .int (o_t_state_b1 2 0), .int (o_t_state_b1 3 0), .int (o_t_state_b1 4 0), .int (o_t_state_b1 5 0), .int (o_t_state_b1 6 0), .ref (a_t_state_b1 7), .ref (a_t_state_b1 8), .ref (a_t_state_b1 9)])), (a_t_state_b1 7, .inl (cA 0, 30, .inl (o_t_state_b1 7))), (a_t_state_b1 8, .inl (cA 0, 30, .inl (o_t_state_b1 8))), (a_t_state_b1 9, .inl (cA 0, 30, .inl (o_t_state_b1 9))), ((a_t_state 22), .inr (0, [.int (o_t_state_b2 0 0), .int (o_t_state_b2 1 0), .int (o_t_state_b2 2 0), .int (o_t_state_b2 3 0), .int (o_t_state_b2 4 0), .int (o_t_state_b2 5 0), .int (o_t_state_b2 6 0), .ref (a_t_state_b2 7), .ref (a_t_state_b2 8), .ref (a_t_state_b2 9)])), (a_t_state_b2 7, .inl (cA 0, 30, .inl (o_t_state_b2 7))), (a_t_state_b2 8, .inl (cA 0, 30, .inl (o_t_state_b2 8))), (a_t_state_b2 9, .inl (cA 0, 30, .inl (o_t_state_b2 9))), ((a_t 3), .inr (3, [.ref (a_t_history 0), .int (o_t_history 1 0), .int (o_t_history 2 0)])), ((a_t 5), .inr (2, [.ref (a_t_gates 0), .int (o_t_gates 1 0), .int (o_t_gates 2 0)])), (a_t_gates 0, .inl (cA 0, 60, .inl (o_t_gates 0))), ((a_t 6), .inr (1, [.int (o_t_deeds 0 0), .ref (a_t_deeds 1), .ref (a_t_deeds 2), .ref (a_t_deeds 3)])), (a_t_deeds 1, .inl (cA 0, 9, .inl (o_t_deeds 1))), (a_t_deeds 2, .inl (cA 0, 9, .inl (o_t_deeds 2))), (a_t_deeds 3, .inl (cA 0, 9, .inl (o_t_deeds 3))), ((a_t 11), .inr (7, [.int (o_t_doneRides 0 0), .ref (a_t_doneRides 1), .ref (a_t_doneRides 2), .ref (a_t_doneRides 3), .int (o_t_doneRides 4 0), .int (o_t_doneRides 5 0), .int (o_t_doneRides 6 0)])), (a_t_doneRides 1, .inl (cA 0, 8, .inl (o_t_doneRides 1))), (a_t_doneRides 2, .inl (cA 0, 256, .inl (o_t_doneRides 2))), (a_t_doneRides 3, .inl (cA 0, 256, .inl (o_t_doneRides 3)))]
def f_X11_shift (o_t_state : Ob) (o_t_state_wares : Ob) (o_t_state_shelf : Ob) (o_t_state_log : Ob) (o_t_state_b0 : Ob) (o_t_state_b1 : Ob) (o_t_state_b2 : Ob) (o_t_history : Ob) (o_t_gates : Ob) (o_t_deeds : Ob) (o_t_doneRides : Ob) (P : PV) (v1 : Int32) (v2 : Int32) : Option (Ob × Ob × Ob × Ob × Ob × Ob × Ob × Ob × Ob × PV × Int32) :=
  zb1 (f_X11_canShift o_t_state_wares o_t_state_shelf v1 v2) fun (r1 : Int32) =>
  if r1 = 0 then (
  some (o_t_state, o_t_state_shelf, o_t_state_b0, o_t_state_b1, o_t_state_b2, o_t_history, o_t_gates, o_t_deeds, o_t_doneRides, P, (-1 : Int32))
  ) else (
  nx (o_t_state_shelf 2 0) fun x3 =>
  if v1 = x3 then (
  some (o_t_state, o_t_state_shelf, o_t_state_b0, o_t_state_b1, o_t_state_b2, o_t_history, o_t_gates, o_t_deeds, o_t_doneRides, P, (0 : Int32))
  ) else (
  zb1 (f_X7_find o_t_doneRides o_t_state_wares o_t_state_shelf v1 v2) fun (o4 : Ob) =>
  zb2 (f_X3_keep o_t_history o_t_state o_t_state_wares o_t_state_shelf o_t_state_log o_t_state_b0 o_t_state_b1 o_t_state_b2 P) fun (o6 : Ob) (P7 : PV) =>
  zb1 (f_X2_newCall o_t_gates) fun (o11 : Ob) =>
  zb7 (zl8 (fun (o52 : Ob) (o53 : Ob) (o54 : Ob) (o55 : Ob) (o56 : Ob) (o57 : Ob) (o58 : Ob) (k59 : Int32) => (
  if o4 0 0 ≤ k59 then (
  some (.inr (o52, o53, o54, o55, o56, o57, o58))
  ) else (
  gi k59 8 <|
  zb7 (f_X11_moveAll o52 o_t_state_wares o53 o54 o55 o56 o57 o58 ((o4 1 (Int32.toNatClampNeg k59)) &&& x3)) fun (o72 : Ob) (o73 : Ob) (o74 : Ob) (o75 : Ob) (o76 : Ob) (o77 : Ob) (o78 : Ob) =>
  gi k59 8 <|
  zb7 (f_X11_moveAll o72 o_t_state_wares o73 o74 o75 o76 o77 o78 ((o4 1 (Int32.toNatClampNeg k59)) &&& v1)) fun (o81 : Ob) (o82 : Ob) (o83 : Ob) (o84 : Ob) (o85 : Ob) (o86 : Ob) (o87 : Ob) =>
  nx (k59 + (1 : Int32)) fun x89 =>
  some (.inl (o81, o82, o83, o84, o85, o86, o87, x89))
  )
  )) FU o_t_state o_t_state_shelf o_t_state_b0 o_t_state_b1 o_t_state_b2 o11 o_t_deeds (0 : Int32)) <| fun (o60 : Ob) (o61 : Ob) (o62 : Ob) (o63 : Ob) (o64 : Ob) (o65 : Ob) (o66 : Ob) =>
  zb1 (f_J6_bitCount_0f7a4 (x3 ^^^ v1)) fun (r67 : Int32) =>
  some (o60, o61, o62, o63, o64, o6, o65, o66, o4, P7, r67)
  )
  )
set_option maxRecDepth 20000 in
theorem h_X11_shift_X11 : ∀ w ∈ wsX110, w ∈ wsX11_shift := by decide +kernel
set_option maxRecDepth 20000 in
theorem k_X11_shift_26 : ZF wsX11_shift RX11 26 11 2 RX11 TX11 15 := ⟨rfl, by decide, h_X11_shift_X11, by decide +kernel⟩
set_option maxRecDepth 20000 in
theorem k_X11_shift_33 : ZF wsX11_shift RX11 33 11 3 RX11 TX11 15 := ⟨rfl, by decide, h_X11_shift_X11, by decide +kernel⟩
set_option maxRecDepth 20000 in
theorem k_X11_shift_44 : ZF wsX11_shift RX11 44 11 5 RX11 TX11 15 := ⟨rfl, by decide, h_X11_shift_X11, by decide +kernel⟩
set_option maxRecDepth 20000 in
theorem k_X11_shift_81 : ZF wsX11_shift RX11 81 11 11 RX11 TX11 15 := ⟨rfl, by decide, h_X11_shift_X11, by decide +kernel⟩
set_option maxRecDepth 20000 in
theorem h_X11_shift_X9 : ∀ w ∈ wsX90, w ∈ wsX11_shift := by decide +kernel
set_option maxRecDepth 20000 in
theorem k_X11_shift_127 : ZF wsX11_shift RX11 127 9 0 RX9 TX9 7 := ⟨rfl, by decide, h_X11_shift_X9, by decide +kernel⟩
set_option maxRecDepth 20000 in
theorem k_X11_shift_160 : ZF wsX11_shift RX11 160 9 1 RX9 TX9 7 := ⟨rfl, by decide, h_X11_shift_X9, by decide +kernel⟩
set_option maxRecDepth 20000 in
theorem h_X11_shift_X8 : ∀ w ∈ wsX80, w ∈ wsX11_shift := by decide +kernel
set_option maxRecDepth 20000 in
theorem k_X11_shift_165 : ZF wsX11_shift RX11 165 8 2 RX8 TX8 7 := ⟨rfl, by decide, h_X11_shift_X8, by decide +kernel⟩
set_option maxRecDepth 20000 in
theorem h_X11_shift_X7 : ∀ w ∈ wsX70, w ∈ wsX11_shift := by decide +kernel
set_option maxRecDepth 20000 in
theorem k_X11_shift_273 : ZF wsX11_shift RX11 273 7 0 RX7 TX7 7 := ⟨rfl, by decide, h_X11_shift_X7, by decide +kernel⟩
set_option maxRecDepth 20000 in
theorem k_X11_shift_274 : ZF wsX11_shift RX11 274 7 1 RX7 TX7 7 := ⟨rfl, by decide, h_X11_shift_X7, by decide +kernel⟩
set_option maxHeartbeats 8000000 in
set_option maxRecDepth 100000 in
theorem c_X11_shift (l : Launch) (D : va_G) (cA : Nat → ClassId) (g : Nat → Nat) (sz : Nat) (h_t : Nat) (a_t : Nat → Nat) (o_t : Ob) (a_t_state : Nat → Nat) (o_t_state : Ob) (a_t_state_wares : Nat → Nat) (o_t_state_wares : Ob) (a_t_state_shelf : Nat → Nat) (o_t_state_shelf : Ob) (a_t_state_log : Nat → Nat) (o_t_state_log : Ob) (a_t_state_b0 : Nat → Nat) (o_t_state_b0 : Ob) (a_t_state_b1 : Nat → Nat) (o_t_state_b1 : Ob) (a_t_state_b2 : Nat → Nat) (o_t_state_b2 : Ob) (a_t_history : Nat → Nat) (o_t_history : Ob) (a_t_gates : Nat → Nat) (o_t_gates : Ob) (a_t_deeds : Nat → Nat) (o_t_deeds : Ob) (a_t_doneRides : Nat → Nat) (o_t_doneRides : Ob) (pl : va_W) (P : PV) (v1 : Int32) (v2 : Int32) (o_t_state' : Ob) (o_t_state_shelf' : Ob) (o_t_state_b0' : Ob) (o_t_state_b1' : Ob) (o_t_state_b2' : Ob) (o_t_history' : Ob) (o_t_gates' : Ob) (o_t_deeds' : Ob) (o_t_doneRides' : Ob) (P' : PV) (rv : Int32) (hpl : Pool cA (a_t_history 0) 8 P pl) (hF : f_X11_shift o_t_state o_t_state_wares o_t_state_shelf o_t_state_log o_t_state_b0 o_t_state_b1 o_t_state_b2 o_t_history o_t_gates o_t_deeds o_t_doneRides P v1 v2 = some (o_t_state', o_t_state_shelf', o_t_state_b0', o_t_state_b1', o_t_state_b2', o_t_history', o_t_gates', o_t_deeds', o_t_doneRides', P', rv)) : Met l yX11_shift wsX11_shift ({ frames := 5, cells := 28, slots := 823, locals := 114 }) (va_Pc [.ref h_t, .int v1, .int v2] (PreN D cA g sz ((w_X11_shift cA h_t a_t o_t a_t_state o_t_state a_t_state_wares o_t_state_wares a_t_state_shelf o_t_state_shelf a_t_state_log o_t_state_log a_t_state_b0 o_t_state_b0 a_t_state_b1 o_t_state_b1 a_t_state_b2 o_t_state_b2 a_t_history o_t_history a_t_gates o_t_gates a_t_deeds o_t_deeds a_t_doneRides o_t_doneRides) ++ pl))) (va_Qi (fun (r : Int32) (_ : va_W) => r = rv) (PostT D cA sz ((w_X11_shift cA h_t a_t o_t a_t_state o_t_state a_t_state_wares o_t_state_wares a_t_state_shelf o_t_state_shelf a_t_state_log o_t_state_log a_t_state_b0 o_t_state_b0 a_t_state_b1 o_t_state_b1 a_t_state_b2 o_t_state_b2 a_t_history o_t_history a_t_gates o_t_gates a_t_deeds o_t_deeds a_t_doneRides o_t_doneRides) ++ pl) (w_X11_shift cA h_t a_t o_t a_t_state o_t_state' a_t_state_wares o_t_state_wares a_t_state_shelf o_t_state_shelf' a_t_state_log o_t_state_log a_t_state_b0 o_t_state_b0' a_t_state_b1 o_t_state_b1' a_t_state_b2 o_t_state_b2' a_t_history o_t_history' a_t_gates o_t_gates' a_t_deeds o_t_deeds' a_t_doneRides o_t_doneRides') (Pool cA (a_t_history 0) 8 P')) (va_A ((w_X11_shift cA h_t a_t o_t a_t_state o_t_state a_t_state_wares o_t_state_wares a_t_state_shelf o_t_state_shelf a_t_state_log o_t_state_log a_t_state_b0 o_t_state_b0 a_t_state_b1 o_t_state_b1 a_t_state_b2 o_t_state_b2 a_t_history o_t_history a_t_gates o_t_gates a_t_deeds o_t_deeds a_t_doneRides o_t_doneRides) ++ pl) sz)) 28 823 (va_A ((w_X11_shift cA h_t a_t o_t a_t_state o_t_state a_t_state_wares o_t_state_wares a_t_state_shelf o_t_state_shelf a_t_state_log o_t_state_log a_t_state_b0 o_t_state_b0 a_t_state_b1 o_t_state_b1 a_t_state_b2 o_t_state_b2 a_t_history o_t_history a_t_gates o_t_gates a_t_deeds o_t_deeds a_t_doneRides o_t_doneRides) ++ pl) sz) := by
  refine z_startN (y := yX11_shift) (wsy := wsX11_shift) (av := [.ref h_t, .int v1, .int v2]) (w0 := ((w_X11_shift cA h_t a_t o_t a_t_state o_t_state a_t_state_wares o_t_state_wares a_t_state_shelf o_t_state_shelf a_t_state_log o_t_state_log a_t_state_b0 o_t_state_b0 a_t_state_b1 o_t_state_b1 a_t_state_b2 o_t_state_b2 a_t_history o_t_history a_t_gates o_t_gates a_t_deeds o_t_deeds a_t_doneRides o_t_doneRides) ++ pl)) (cc := cX11_shift) (maxL := 5) (ret := (some .int)) (lv0 := [(0, .ref h_t), (1, .int v1), (2, .int v2)]) (Qc := fun sz => va_Qi (fun (r : Int32) (_ : va_W) => r = rv) (PostT D cA sz ((w_X11_shift cA h_t a_t o_t a_t_state o_t_state a_t_state_wares o_t_state_wares a_t_state_shelf o_t_state_shelf a_t_state_log o_t_state_log a_t_state_b0 o_t_state_b0 a_t_state_b1 o_t_state_b1 a_t_state_b2 o_t_state_b2 a_t_history o_t_history a_t_gates o_t_gates a_t_deeds o_t_deeds a_t_doneRides o_t_doneRides) ++ pl) (w_X11_shift cA h_t a_t o_t a_t_state o_t_state' a_t_state_wares o_t_state_wares a_t_state_shelf o_t_state_shelf' a_t_state_log o_t_state_log a_t_state_b0 o_t_state_b0' a_t_state_b1 o_t_state_b1' a_t_state_b2 o_t_state_b2' a_t_history o_t_history' a_t_gates o_t_gates' a_t_deeds o_t_deeds' a_t_doneRides o_t_doneRides') (Pool cA (a_t_history 0) 8 P')) (va_A ((w_X11_shift cA h_t a_t o_t a_t_state o_t_state a_t_state_wares o_t_state_wares a_t_state_shelf o_t_state_shelf a_t_state_log o_t_state_log a_t_state_b0 o_t_state_b0 a_t_state_b1 o_t_state_b1 a_t_state_b2 o_t_state_b2 a_t_history o_t_history a_t_gates o_t_gates a_t_deeds o_t_deeds a_t_doneRides o_t_doneRides) ++ pl) sz)) (free := fun sz => va_A ((w_X11_shift cA h_t a_t o_t a_t_state o_t_state a_t_state_wares o_t_state_wares a_t_state_shelf o_t_state_shelf a_t_state_log o_t_state_log a_t_state_b0 o_t_state_b0 a_t_state_b1 o_t_state_b1 a_t_state_b2 o_t_state_b2 a_t_history o_t_history a_t_gates o_t_gates a_t_deeds o_t_deeds a_t_doneRides o_t_doneRides) ++ pl) sz) (by decide) rfl rfl (Nat.le_of_ble_eq_true rfl) ?_
  intro p e R s m args below meth c A Q hR hA hQ X Y hr hin
  unfold f_X11_shift at hF
  refine z_aload_n X dX11_shift_0 rfl 0 rfl ?_
  refine z_iload_n X dX11_shift_1 rfl 1 rfl ?_
  refine z_iload_n X dX11_shift_2 rfl 2 rfl ?_
  obtain ⟨r1, hc2, hF⟩ := zb1_e hF
  refine z_ViT (As := [.int v1, .int v2]) (rest := []) (wc := (w_X11_item cA h_t a_t o_t a_t_state o_t_state a_t_state_wares o_t_state_wares a_t_state_shelf o_t_state_shelf)) (wc' := (w_X11_item cA h_t a_t o_t a_t_state o_t_state a_t_state_wares o_t_state_wares a_t_state_shelf o_t_state_shelf)) (X1 := (w_X11_shift cA h_t a_t o_t a_t_state o_t_state a_t_state_wares o_t_state_wares a_t_state_shelf o_t_state_shelf a_t_state_log o_t_state_log a_t_state_b0 o_t_state_b0 a_t_state_b1 o_t_state_b1 a_t_state_b2 o_t_state_b2 a_t_history o_t_history a_t_gates o_t_gates a_t_deeds o_t_deeds a_t_doneRides o_t_doneRides)) (rv := r1) X (cwV 2 X.2.2.2.2.1 gX11_shift_X11_canShift rfl rfl rfl (by decide +kernel) (by rw [hR]; exact ⟨Nat.le_of_ble_eq_true rfl, Nat.le_of_ble_eq_true rfl⟩)) (fun sz => c_X11_canShift l D cA g sz h_t a_t o_t a_t_state o_t_state a_t_state_wares o_t_state_wares a_t_state_shelf o_t_state_shelf v1 v2 r1 hc2) [0, 1, 2, 3, 4, 5, 6, 7, 8, 9, 10, 11, 12] [1000, 1001, 1002, 1003, 1004, 1005, 1006, 1007, 1008, 1009, 1010, 1011, 1012, 13, 14, 15, 16, 17, 18, 19, 20, 21, 22, 23, 24, 25, 26, 27, 28, 29, 30, 31, 32, 33, 34, 35, 36, 37, 38, 39, 40] rfl (by decide) rfl (by decide) rfl rfl rfl rfl rfl rfl (Nat.le_of_ble_eq_true rfl) dX11_shift_3 (by rw [hR]; exact ⟨Nat.le_of_ble_eq_true rfl, Nat.le_of_ble_eq_true rfl⟩) ?_
  have hF := if_e hF
  refine z_if_ne (tgt := 11) X dX11_shift_6 (by decide) (fun c93 => ?_) (fun c93 => ?_)
  · have hF := hF.2 c93
    refine z_aload_n X dX11_shift_11 rfl 0 rfl ?_
    refine z_get (v := .ref (a_t 2)) X k_X11_shift_26 0 rfl rfl dX11_shift_12 ?_
    refine z_get (v := .ref (a_t_state 1)) X k_X11_shift_160 2 rfl rfl dX11_shift_15 ?_
    refine z_get (v := .int (o_t_state_shelf 2 0)) X k_X11_shift_165 9 rfl rfl dX11_shift_18 ?_
    obtain ⟨x3, ex3, hF⟩ := nx_e hF
    refine z_nm ex3 ?_
    refine z_istore_n (lv' := [(3, .int x3), (0, .ref h_t), (1, .int v1), (2, .int v2)]) X dX11_shift_21 rfl (by decide) rfl ?_
    refine z_iload_n X dX11_shift_22 rfl 2 rfl ?_
    refine z_iload_n X dX11_shift_23 rfl 0 rfl ?_
    have hF := if_e hF
    refine z_icmp_ne (tgt := 29) X dX11_shift_24 (by decide) (fun c92 => ?_) (fun c92 => ?_)
    · have hF := hF.2 c92
      refine z_aload_n X dX11_shift_29 rfl 1 rfl ?_
      refine z_get (v := .ref (a_t 11)) X k_X11_shift_81 0 rfl rfl dX11_shift_30 ?_
      refine z_aload_n X dX11_shift_33 rfl 1 rfl ?_
      refine z_get (v := .ref (a_t 2)) X k_X11_shift_26 0 rfl rfl dX11_shift_34 ?_
      refine z_get (v := .ref (a_t_state 0)) X k_X11_shift_127 2 rfl rfl dX11_shift_37 ?_
      refine z_aload_n X dX11_shift_40 rfl 1 rfl ?_
      refine z_get (v := .ref (a_t 2)) X k_X11_shift_26 0 rfl rfl dX11_shift_41 ?_
      refine z_get (v := .ref (a_t_state 1)) X k_X11_shift_160 2 rfl rfl dX11_shift_44 ?_
      refine z_iload_n X dX11_shift_47 rfl 2 rfl ?_
      refine z_iload_n X dX11_shift_48 rfl 3 rfl ?_
      obtain ⟨o4, hc5, hF⟩ := zb1_e hF
      refine z_VvT (As := [.ref (a_t_state 0), .ref (a_t_state 1), .int v1, .int v2]) (rest := []) (wc := (w_X7_find cA (a_t 11) a_t_doneRides o_t_doneRides (a_t_state 0) a_t_state_wares o_t_state_wares (a_t_state 1) a_t_state_shelf o_t_state_shelf)) (wc' := (w_X7_find cA (a_t 11) a_t_doneRides o4 (a_t_state 0) a_t_state_wares o_t_state_wares (a_t_state 1) a_t_state_shelf o_t_state_shelf)) (X1 := (w_X11_shift cA h_t a_t o_t a_t_state o_t_state a_t_state_wares o_t_state_wares a_t_state_shelf o_t_state_shelf a_t_state_log o_t_state_log a_t_state_b0 o_t_state_b0 a_t_state_b1 o_t_state_b1 a_t_state_b2 o_t_state_b2 a_t_history o_t_history a_t_gates o_t_gates a_t_deeds o_t_deeds a_t_doneRides o4)) X (cwV 4 X.2.2.2.2.1 gX11_shift_X7_find rfl rfl rfl (by decide +kernel) (by rw [hR]; exact ⟨Nat.le_of_ble_eq_true rfl, Nat.le_of_ble_eq_true rfl⟩)) (fun sz => c_X7_find l D cA g sz (a_t 11) a_t_doneRides o_t_doneRides (a_t_state 0) a_t_state_wares o_t_state_wares (a_t_state 1) a_t_state_shelf o_t_state_shelf v1 v2 o4 hc5) [37, 38, 39, 40, 4, 5, 6, 7, 8, 9, 10, 11, 12] [0, 1, 2, 3, 1004, 1005, 1006, 1007, 1008, 1009, 1010, 1011, 1012, 13, 14, 15, 16, 17, 18, 19, 20, 21, 22, 23, 24, 25, 26, 27, 28, 29, 30, 31, 32, 33, 34, 35, 36, 1000, 1001, 1002, 1003] rfl (by decide) rfl (by decide) rfl rfl rfl rfl rfl rfl (Nat.le_of_ble_eq_true rfl) dX11_shift_49 (by rw [hR]; exact ⟨Nat.le_of_ble_eq_true rfl, Nat.le_of_ble_eq_true rfl⟩) ?_
      refine z_aload_n X dX11_shift_52 rfl 1 rfl ?_
      refine z_get (v := .ref (a_t 3)) X k_X11_shift_33 0 rfl rfl dX11_shift_53 ?_
      refine z_aload_n X dX11_shift_56 rfl 1 rfl ?_
      refine z_get (v := .ref (a_t 2)) X k_X11_shift_26 0 rfl rfl dX11_shift_57 ?_
      obtain ⟨o6, P7, hc8, hF⟩ := zb2_e hF
      refine z_Pv (As := [.ref (a_t 2)]) (rest := []) (wc := (w_X3_keep cA (a_t 3) a_t_history o_t_history (a_t 2) a_t_state o_t_state a_t_state_wares o_t_state_wares a_t_state_shelf o_t_state_shelf a_t_state_log o_t_state_log a_t_state_b0 o_t_state_b0 a_t_state_b1 o_t_state_b1 a_t_state_b2 o_t_state_b2)) (wc' := (w_X3_keep cA (a_t 3) a_t_history o6 (a_t 2) a_t_state o_t_state a_t_state_wares o_t_state_wares a_t_state_shelf o_t_state_shelf a_t_state_log o_t_state_log a_t_state_b0 o_t_state_b0 a_t_state_b1 o_t_state_b1 a_t_state_b2 o_t_state_b2)) (X1 := (w_X11_shift cA h_t a_t o_t a_t_state o_t_state a_t_state_wares o_t_state_wares a_t_state_shelf o_t_state_shelf a_t_state_log o_t_state_log a_t_state_b0 o_t_state_b0 a_t_state_b1 o_t_state_b1 a_t_state_b2 o_t_state_b2 a_t_history o6 a_t_gates o_t_gates a_t_deeds o_t_deeds a_t_doneRides o4)) (pl := pl) (Pl := Pool cA (a_t_history 0) 8 P7) X Y (cwV 1 X.2.2.2.2.1 gX11_shift_X3_keep rfl rfl rfl (by decide +kernel) (by rw [hR]; exact ⟨Nat.le_of_ble_eq_true rfl, Nat.le_of_ble_eq_true rfl⟩)) (fun sz => c_X3_keep l D cA g sz (a_t 3) a_t_history o_t_history (a_t 2) a_t_state o_t_state a_t_state_wares o_t_state_wares a_t_state_shelf o_t_state_shelf a_t_state_log o_t_state_log a_t_state_b0 o_t_state_b0 a_t_state_b1 o_t_state_b1 a_t_state_b2 o_t_state_b2 pl P  o6 P7 hpl hc8) [30, 2, 3, 4, 5, 6, 7, 8, 9, 10, 11, 12, 13, 14, 15, 16, 17, 18, 19, 20, 21, 22, 23, 24, 25, 26, 27, 28, 29] [0, 1, 1001, 1002, 1003, 1004, 1005, 1006, 1007, 1008, 1009, 1010, 1011, 1012, 1013, 1014, 1015, 1016, 1017, 1018, 1019, 1020, 1021, 1022, 1023, 1024, 1025, 1026, 1027, 1028, 1000, 31, 32, 33, 34, 35, 36, 37, 38, 39, 40] rfl (by decide) rfl (by decide) rfl rfl rfl rfl rfl rfl (Nat.le_of_ble_eq_true rfl) dX11_shift_60 (by rw [hR]; exact ⟨Nat.le_of_ble_eq_true rfl, Nat.le_of_ble_eq_true rfl⟩) (fun pl9 hp10 => ?_)
      refine z_aload_n X dX11_shift_63 rfl 1 rfl ?_
      refine z_get (v := .ref (a_t 5)) X k_X11_shift_44 0 rfl rfl dX11_shift_64 ?_
      obtain ⟨o11, hc12, hF⟩ := zb1_e hF
      refine z_VvT (As := []) (rest := []) (wc := (w_X2_newCall cA (a_t 5) a_t_gates o_t_gates)) (wc' := (w_X2_newCall cA (a_t 5) a_t_gates o11)) (X1 := (w_X11_shift cA h_t a_t o_t a_t_state o_t_state a_t_state_wares o_t_state_wares a_t_state_shelf o_t_state_shelf a_t_state_log o_t_state_log a_t_state_b0 o_t_state_b0 a_t_state_b1 o_t_state_b1 a_t_state_b2 o_t_state_b2 a_t_history o6 a_t_gates o11 a_t_deeds o_t_deeds a_t_doneRides o4)) X (cwV 0 X.2.2.2.2.1 gX11_shift_X2_newCall rfl rfl rfl (by decide +kernel) (by rw [hR]; exact ⟨Nat.le_of_ble_eq_true rfl, Nat.le_of_ble_eq_true rfl⟩)) (fun sz => c_X2_newCall l D cA g sz (a_t 5) a_t_gates o_t_gates o11 hc12) [31, 32] [0, 1, 2, 3, 4, 5, 6, 7, 8, 9, 10, 11, 12, 13, 14, 15, 16, 17, 18, 19, 20, 21, 22, 23, 24, 25, 26, 27, 28, 29, 30, 1000, 1001, 33, 34, 35, 36, 37, 38, 39, 40] rfl (by decide) rfl (by decide) rfl rfl rfl rfl rfl rfl (Nat.le_of_ble_eq_true rfl) dX11_shift_67 (by rw [hR]; exact ⟨Nat.le_of_ble_eq_true rfl, Nat.le_of_ble_eq_true rfl⟩) ?_
      refine z_iconst (v := (0 : Int32)) X dX11_shift_70 (by decide) ?_
      refine z_istore (lv' := [(4, .int (0 : Int32)), (3, .int x3), (0, .ref h_t), (1, .int v1), (2, .int v2)]) X dX11_shift_71 (by decide) rfl ?_
      obtain ⟨o60, o61, o62, o63, o64, o65, o66, hL, hF⟩ := zb7_e hF
      have L69_x : ∀ (o60' : Ob) (o61' : Ob) (o62' : Ob) (o63' : Ob) (o64' : Ob) (o65' : Ob) (o66' : Ob), (o60', o61', o62', o63', o64', o65', o66') = (o60, o61, o62, o63, o64, o65, o66) → ZW p l e R s m args below meth c D A 5 (0 + 28) (0 + 823) Q ((w_X11_shift cA h_t a_t o_t a_t_state o60' a_t_state_wares o_t_state_wares a_t_state_shelf o61' a_t_state_log o_t_state_log a_t_state_b0 o62' a_t_state_b1 o63' a_t_state_b2 o64' a_t_history o6 a_t_gates o65' a_t_deeds o66' a_t_doneRides o4) ++ pl9) [(1, .int v1), (3, .int x3)] 123 [] := by
        intro o60' o61' o62' o63' o64' o65' o66' hz
        cases hz
        refine z_iload_n X dX11_shift_123 rfl 1 rfl ?_
        refine z_iload_n X dX11_shift_124 rfl 0 rfl ?_
        refine z_ixor X dX11_shift_125 ?_
        obtain ⟨r67, hc68, hF⟩ := zb1_e hF
        refine z_SiT (As := [.int (x3 ^^^ v1)]) (rest := []) (wc := ([] : va_W)) (wc' := ([] : va_W)) (X1 := (w_X11_shift cA h_t a_t o_t a_t_state o60 a_t_state_wares o_t_state_wares a_t_state_shelf o61 a_t_state_log o_t_state_log a_t_state_b0 o62 a_t_state_b1 o63 a_t_state_b2 o64 a_t_history o6 a_t_gates o65 a_t_deeds o66 a_t_doneRides o4)) (rv := r67) X (va_cwS 1 X.2.2.2.2.1 gX11_shift_J6_bitCount_0f7a4 rfl rfl rfl (by decide +kernel) (by rw [hR]; exact ⟨Nat.le_of_ble_eq_true rfl, Nat.le_of_ble_eq_true rfl⟩)) (fun sz => c_J6_bitCount_0f7a4 l D cA g sz (x3 ^^^ v1) r67 hc68) [] [0, 1, 2, 3, 4, 5, 6, 7, 8, 9, 10, 11, 12, 13, 14, 15, 16, 17, 18, 19, 20, 21, 22, 23, 24, 25, 26, 27, 28, 29, 30, 31, 32, 33, 34, 35, 36, 37, 38, 39, 40] rfl (by decide) rfl (by decide) rfl rfl rfl (Nat.le_of_ble_eq_true rfl) dX11_shift_126 (by rw [hR]; exact ⟨Nat.le_of_ble_eq_true rfl, Nat.le_of_ble_eq_true rfl⟩) ?_
        cases hF
        exact z_iretT X hA hQ hr hp10 rfl dX11_shift_129 (Nat.le_of_ble_eq_true rfl) (Nat.le_of_ble_eq_true rfl)
      obtain ⟨B91, hBB91, hL⟩ := zl8_b hL
      have L69 : ∀ (n : Nat) (o52 : Ob) (o53 : Ob) (o54 : Ob) (o55 : Ob) (o56 : Ob) (o57 : Ob) (o58 : Ob) (k59 : Int32), zl8 B91 n o52 o53 o54 o55 o56 o57 o58 k59 = some (o60, o61, o62, o63, o64, o65, o66) → ZW p l e R s m args below meth c D A 5 (0 + 28) (0 + 823) Q ((w_X11_shift cA h_t a_t o_t a_t_state o52 a_t_state_wares o_t_state_wares a_t_state_shelf o53 a_t_state_log o_t_state_log a_t_state_b0 o54 a_t_state_b1 o55 a_t_state_b2 o56 a_t_history o6 a_t_gates o57 a_t_deeds o58 a_t_doneRides o4) ++ pl9) [(0, .ref h_t), (1, .int v1), (3, .int x3), (4, .int k59)] 73 [] := by
        intro n
        induction n with
        | zero => intro o52 o53 o54 o55 o56 o57 o58 k59 hL; cases hL
        | succ n ih =>
          intro o52 o53 o54 o55 o56 o57 o58 k59 hL
          obtain ⟨zz70, hF, hL⟩ := zl8_e hL
          rw [hBB91] at hF
          refine z_iload X dX11_shift_73 3 rfl ?_
          refine z_aload_n X dX11_shift_75 rfl 0 rfl ?_
          refine z_get (v := .ref (a_t 11)) X k_X11_shift_81 0 rfl rfl dX11_shift_76 ?_
          refine z_get (v := .int (o4 0 0)) X k_X11_shift_273 37 rfl rfl dX11_shift_79 ?_
          have hF := if_e hF
          refine z_icmp_ge (tgt := 123) X dX11_shift_82 (by decide) (fun c90 => ?_) (fun c90 => ?_)
          · have hF := hF.1 c90
            cases hF
            have hL := Option.some.inj hL
            refine z_lv (lv' := [(1, .int v1), (3, .int x3)]) [1, 2] rfl ?_
            exact L69_x o52 o53 o54 o55 o56 o57 o58 hL
          · have hF := hF.2 c90
            refine z_aload_n X dX11_shift_85 rfl 0 rfl ?_
            refine z_aload_n X dX11_shift_86 rfl 0 rfl ?_
            refine z_get (v := .ref (a_t 11)) X k_X11_shift_81 0 rfl rfl dX11_shift_87 ?_
            refine z_get (v := .ref (a_t_doneRides 1)) X k_X11_shift_274 37 rfl rfl dX11_shift_90 ?_
            refine z_iload X dX11_shift_93 3 rfl ?_
            obtain ⟨g71, hF⟩ := gi_e hF
            refine z_iald X 38 rfl g71 dX11_shift_95 ?_
            refine z_iload_n X dX11_shift_96 rfl 2 rfl ?_
            refine z_iand X dX11_shift_97 ?_
            obtain ⟨o72, o73, o74, o75, o76, o77, o78, hc79, hF⟩ := zb7_e hF
            refine z_VvT (As := [.int ((o4 1 (Int32.toNatClampNeg k59)) &&& x3)]) (rest := []) (wc := (w_X11_moveAll cA h_t a_t o_t a_t_state o52 a_t_state_wares o_t_state_wares a_t_state_shelf o53 a_t_state_b0 o54 a_t_state_b1 o55 a_t_state_b2 o56 a_t_gates o57 a_t_deeds o58)) (wc' := (w_X11_moveAll cA h_t a_t o_t a_t_state o72 a_t_state_wares o_t_state_wares a_t_state_shelf o73 a_t_state_b0 o74 a_t_state_b1 o75 a_t_state_b2 o76 a_t_gates o77 a_t_deeds o78)) (X1 := (w_X11_shift cA h_t a_t o_t a_t_state o72 a_t_state_wares o_t_state_wares a_t_state_shelf o73 a_t_state_log o_t_state_log a_t_state_b0 o74 a_t_state_b1 o75 a_t_state_b2 o76 a_t_history o6 a_t_gates o77 a_t_deeds o78 a_t_doneRides o4)) X (cwV 1 X.2.2.2.2.1 gX11_shift_X11_moveAll rfl rfl rfl (by decide +kernel) (by rw [hR]; exact ⟨Nat.le_of_ble_eq_true rfl, Nat.le_of_ble_eq_true rfl⟩)) (fun sz => c_X11_moveAll l D cA g sz h_t a_t o_t a_t_state o52 a_t_state_wares o_t_state_wares a_t_state_shelf o53 a_t_state_b0 o54 a_t_state_b1 o55 a_t_state_b2 o56 a_t_gates o57 a_t_deeds o58 ((o4 1 (Int32.toNatClampNeg k59)) &&& x3) o72 o73 o74 o75 o76 o77 o78 hc79) [0, 1, 2, 3, 4, 5, 6, 7, 8, 9, 10, 11, 12, 18, 19, 20, 21, 22, 23, 24, 25, 26, 27, 28, 29, 31, 32, 33, 34, 35, 36] [1000, 1001, 1002, 1003, 1004, 1005, 1006, 1007, 1008, 1009, 1010, 1011, 1012, 13, 14, 15, 16, 17, 1013, 1014, 1015, 1016, 1017, 1018, 1019, 1020, 1021, 1022, 1023, 1024, 30, 1025, 1026, 1027, 1028, 1029, 1030, 37, 38, 39, 40] rfl (by decide) rfl (by decide) rfl rfl rfl rfl rfl rfl (Nat.le_of_ble_eq_true rfl) dX11_shift_98 (by rw [hR]; exact ⟨Nat.le_of_ble_eq_true rfl, Nat.le_of_ble_eq_true rfl⟩) ?_
            refine z_aload_n X dX11_shift_101 rfl 0 rfl ?_
            refine z_aload_n X dX11_shift_102 rfl 0 rfl ?_
            refine z_get (v := .ref (a_t 11)) X k_X11_shift_81 0 rfl rfl dX11_shift_103 ?_
            refine z_get (v := .ref (a_t_doneRides 1)) X k_X11_shift_274 37 rfl rfl dX11_shift_106 ?_
            refine z_iload X dX11_shift_109 3 rfl ?_
            obtain ⟨g80, hF⟩ := gi_e hF
            refine z_iald X 38 rfl g80 dX11_shift_111 ?_
            refine z_iload_n X dX11_shift_112 rfl 1 rfl ?_
            refine z_iand X dX11_shift_113 ?_
            obtain ⟨o81, o82, o83, o84, o85, o86, o87, hc88, hF⟩ := zb7_e hF
            refine z_VvT (As := [.int ((o4 1 (Int32.toNatClampNeg k59)) &&& v1)]) (rest := []) (wc := (w_X11_moveAll cA h_t a_t o_t a_t_state o72 a_t_state_wares o_t_state_wares a_t_state_shelf o73 a_t_state_b0 o74 a_t_state_b1 o75 a_t_state_b2 o76 a_t_gates o77 a_t_deeds o78)) (wc' := (w_X11_moveAll cA h_t a_t o_t a_t_state o81 a_t_state_wares o_t_state_wares a_t_state_shelf o82 a_t_state_b0 o83 a_t_state_b1 o84 a_t_state_b2 o85 a_t_gates o86 a_t_deeds o87)) (X1 := (w_X11_shift cA h_t a_t o_t a_t_state o81 a_t_state_wares o_t_state_wares a_t_state_shelf o82 a_t_state_log o_t_state_log a_t_state_b0 o83 a_t_state_b1 o84 a_t_state_b2 o85 a_t_history o6 a_t_gates o86 a_t_deeds o87 a_t_doneRides o4)) X (cwV 1 X.2.2.2.2.1 gX11_shift_X11_moveAll rfl rfl rfl (by decide +kernel) (by rw [hR]; exact ⟨Nat.le_of_ble_eq_true rfl, Nat.le_of_ble_eq_true rfl⟩)) (fun sz => c_X11_moveAll l D cA g sz h_t a_t o_t a_t_state o72 a_t_state_wares o_t_state_wares a_t_state_shelf o73 a_t_state_b0 o74 a_t_state_b1 o75 a_t_state_b2 o76 a_t_gates o77 a_t_deeds o78 ((o4 1 (Int32.toNatClampNeg k59)) &&& v1) o81 o82 o83 o84 o85 o86 o87 hc88) [0, 1, 2, 3, 4, 5, 6, 7, 8, 9, 10, 11, 12, 18, 19, 20, 21, 22, 23, 24, 25, 26, 27, 28, 29, 31, 32, 33, 34, 35, 36] [1000, 1001, 1002, 1003, 1004, 1005, 1006, 1007, 1008, 1009, 1010, 1011, 1012, 13, 14, 15, 16, 17, 1013, 1014, 1015, 1016, 1017, 1018, 1019, 1020, 1021, 1022, 1023, 1024, 30, 1025, 1026, 1027, 1028, 1029, 1030, 37, 38, 39, 40] rfl (by decide) rfl (by decide) rfl rfl rfl rfl rfl rfl (Nat.le_of_ble_eq_true rfl) dX11_shift_114 (by rw [hR]; exact ⟨Nat.le_of_ble_eq_true rfl, Nat.le_of_ble_eq_true rfl⟩) ?_
            obtain ⟨x89, ex89, hF⟩ := nx_e hF
            refine z_iinc (v := x89) (lv' := [(4, .int x89), (0, .ref h_t), (1, .int v1), (3, .int x3)]) (j := 3) X dX11_shift_117 rfl (by rw [ex89]; rfl) (by decide) rfl ?_
            refine z_goto (tgt := 73) X dX11_shift_120 (by decide) ?_
            cases hF
            refine z_lv (lv' := [(0, .ref h_t), (1, .int v1), (3, .int x3), (4, .int x89)]) [1, 2, 3, 0] rfl ?_
            exact ih o81 o82 o83 o84 o85 o86 o87 x89 hL
      refine z_lv (lv' := [(0, .ref h_t), (1, .int v1), (3, .int x3), (4, .int (0 : Int32))]) [2, 3, 1, 0] rfl ?_
      exact L69 FU o_t_state o_t_state_shelf o_t_state_b0 o_t_state_b1 o_t_state_b2 o11 o_t_deeds (0 : Int32) hL
    · have hF := hF.1 c92
      refine z_iconst (v := (0 : Int32)) X dX11_shift_27 (by decide) ?_
      cases hF
      exact z_iretT X hA hQ hr hpl rfl dX11_shift_28 (Nat.le_of_ble_eq_true rfl) (Nat.le_of_ble_eq_true rfl)
  · have hF := hF.1 c93
    refine z_iconst (v := (-1 : Int32)) X dX11_shift_9 (by decide) ?_
    cases hF
    exact z_iretT X hA hQ hr hpl rfl dX11_shift_10 (Nat.le_of_ble_eq_true rfl) (Nat.le_of_ble_eq_true rfl)
def f_X11_undo (o_t_state : Ob) (o_t_state_wares : Ob) (o_t_state_shelf : Ob) (o_t_state_log : Ob) (o_t_state_b0 : Ob) (o_t_state_b1 : Ob) (o_t_state_b2 : Ob) (o_t_history : Ob) (o_t_planner : Ob) (P : PV) : Option (Ob × Ob × Ob × Ob × Ob × Ob × Ob × Ob × Ob × Int32) :=
  zb9 (f_X3_takeBack o_t_history o_t_state o_t_state_wares o_t_state_shelf o_t_state_log o_t_state_b0 o_t_state_b1 o_t_state_b2 P) fun (o1 : Ob) (o2 : Ob) (o3 : Ob) (o4 : Ob) (o5 : Ob) (o6 : Ob) (o7 : Ob) (o8 : Ob) (r9 : Int32) =>
  if r9 = 0 then (
  some (o2, o3, o4, o5, o6, o7, o8, o1, o_t_planner, (-1 : Int32))
  ) else (
  zb1 (f_X5_forget o_t_planner) fun (o13 : Ob) =>
  some (o2, o3, o4, o5, o6, o7, o8, o1, o13, o1 2 0)
  )
set_option maxRecDepth 20000 in
theorem h_X11_undo_X11 : ∀ w ∈ wsX110, w ∈ wsX11_undo := by decide +kernel
set_option maxRecDepth 20000 in
theorem k_X11_undo_26 : ZF wsX11_undo RX11 26 11 2 RX11 TX11 15 := ⟨rfl, by decide, h_X11_undo_X11, by decide +kernel⟩
set_option maxRecDepth 20000 in
theorem k_X11_undo_33 : ZF wsX11_undo RX11 33 11 3 RX11 TX11 15 := ⟨rfl, by decide, h_X11_undo_X11, by decide +kernel⟩
set_option maxRecDepth 20000 in
theorem k_X11_undo_67 : ZF wsX11_undo RX11 67 11 8 RX11 TX11 15 := ⟨rfl, by decide, h_X11_undo_X11, by decide +kernel⟩
set_option maxRecDepth 20000 in
theorem h_X11_undo_X3 : ∀ w ∈ wsX30, w ∈ wsX11_undo := by decide +kernel
set_option maxRecDepth 20000 in
theorem k_X11_undo_374 : ZF wsX11_undo RX11 374 3 2 RX3 TX3 3 := ⟨rfl, by decide, h_X11_undo_X3, by decide +kernel⟩
set_option maxHeartbeats 8000000 in
set_option maxRecDepth 100000 in
theorem c_X11_undo (l : Launch) (D : va_G) (cA : Nat → ClassId) (g : Nat → Nat) (sz : Nat) (h_t : Nat) (a_t : Nat → Nat) (o_t : Ob) (a_t_state : Nat → Nat) (o_t_state : Ob) (a_t_state_wares : Nat → Nat) (o_t_state_wares : Ob) (a_t_state_shelf : Nat → Nat) (o_t_state_shelf : Ob) (a_t_state_log : Nat → Nat) (o_t_state_log : Ob) (a_t_state_b0 : Nat → Nat) (o_t_state_b0 : Ob) (a_t_state_b1 : Nat → Nat) (o_t_state_b1 : Ob) (a_t_state_b2 : Nat → Nat) (o_t_state_b2 : Ob) (a_t_history : Nat → Nat) (o_t_history : Ob) (a_t_planner : Nat → Nat) (o_t_planner : Ob) (pl : va_W) (P : PV)  (o_t_state' : Ob) (o_t_state_wares' : Ob) (o_t_state_shelf' : Ob) (o_t_state_log' : Ob) (o_t_state_b0' : Ob) (o_t_state_b1' : Ob) (o_t_state_b2' : Ob) (o_t_history' : Ob) (o_t_planner' : Ob) (rv : Int32) (hpl : Pool cA (a_t_history 0) 8 P pl) (hF : f_X11_undo o_t_state o_t_state_wares o_t_state_shelf o_t_state_log o_t_state_b0 o_t_state_b1 o_t_state_b2 o_t_history o_t_planner P = some (o_t_state', o_t_state_wares', o_t_state_shelf', o_t_state_log', o_t_state_b0', o_t_state_b1', o_t_state_b2', o_t_history', o_t_planner', rv)) : Met l yX11_undo wsX11_undo ({ frames := 4, cells := 0, slots := 0, locals := 113 }) (va_Pc [.ref h_t] (PreN D cA g sz ((w_X11_startAnew cA h_t a_t o_t a_t_state o_t_state a_t_state_wares o_t_state_wares a_t_state_shelf o_t_state_shelf a_t_state_log o_t_state_log a_t_state_b0 o_t_state_b0 a_t_state_b1 o_t_state_b1 a_t_state_b2 o_t_state_b2 a_t_history o_t_history a_t_planner o_t_planner) ++ pl))) (va_Qi (fun (r : Int32) (_ : va_W) => r = rv) (PostT D cA sz ((w_X11_startAnew cA h_t a_t o_t a_t_state o_t_state a_t_state_wares o_t_state_wares a_t_state_shelf o_t_state_shelf a_t_state_log o_t_state_log a_t_state_b0 o_t_state_b0 a_t_state_b1 o_t_state_b1 a_t_state_b2 o_t_state_b2 a_t_history o_t_history a_t_planner o_t_planner) ++ pl) (w_X11_startAnew cA h_t a_t o_t a_t_state o_t_state' a_t_state_wares o_t_state_wares' a_t_state_shelf o_t_state_shelf' a_t_state_log o_t_state_log' a_t_state_b0 o_t_state_b0' a_t_state_b1 o_t_state_b1' a_t_state_b2 o_t_state_b2' a_t_history o_t_history' a_t_planner o_t_planner') (Pool cA (a_t_history 0) 8 P)) (va_A ((w_X11_startAnew cA h_t a_t o_t a_t_state o_t_state a_t_state_wares o_t_state_wares a_t_state_shelf o_t_state_shelf a_t_state_log o_t_state_log a_t_state_b0 o_t_state_b0 a_t_state_b1 o_t_state_b1 a_t_state_b2 o_t_state_b2 a_t_history o_t_history a_t_planner o_t_planner) ++ pl) sz)) 0 0 (va_A ((w_X11_startAnew cA h_t a_t o_t a_t_state o_t_state a_t_state_wares o_t_state_wares a_t_state_shelf o_t_state_shelf a_t_state_log o_t_state_log a_t_state_b0 o_t_state_b0 a_t_state_b1 o_t_state_b1 a_t_state_b2 o_t_state_b2 a_t_history o_t_history a_t_planner o_t_planner) ++ pl) sz) := by
  refine z_startN (y := yX11_undo) (wsy := wsX11_undo) (av := [.ref h_t]) (w0 := ((w_X11_startAnew cA h_t a_t o_t a_t_state o_t_state a_t_state_wares o_t_state_wares a_t_state_shelf o_t_state_shelf a_t_state_log o_t_state_log a_t_state_b0 o_t_state_b0 a_t_state_b1 o_t_state_b1 a_t_state_b2 o_t_state_b2 a_t_history o_t_history a_t_planner o_t_planner) ++ pl)) (cc := cX11_undo) (maxL := 1) (ret := (some .int)) (lv0 := [(0, .ref h_t)]) (Qc := fun sz => va_Qi (fun (r : Int32) (_ : va_W) => r = rv) (PostT D cA sz ((w_X11_startAnew cA h_t a_t o_t a_t_state o_t_state a_t_state_wares o_t_state_wares a_t_state_shelf o_t_state_shelf a_t_state_log o_t_state_log a_t_state_b0 o_t_state_b0 a_t_state_b1 o_t_state_b1 a_t_state_b2 o_t_state_b2 a_t_history o_t_history a_t_planner o_t_planner) ++ pl) (w_X11_startAnew cA h_t a_t o_t a_t_state o_t_state' a_t_state_wares o_t_state_wares' a_t_state_shelf o_t_state_shelf' a_t_state_log o_t_state_log' a_t_state_b0 o_t_state_b0' a_t_state_b1 o_t_state_b1' a_t_state_b2 o_t_state_b2' a_t_history o_t_history' a_t_planner o_t_planner') (Pool cA (a_t_history 0) 8 P)) (va_A ((w_X11_startAnew cA h_t a_t o_t a_t_state o_t_state a_t_state_wares o_t_state_wares a_t_state_shelf o_t_state_shelf a_t_state_log o_t_state_log a_t_state_b0 o_t_state_b0 a_t_state_b1 o_t_state_b1 a_t_state_b2 o_t_state_b2 a_t_history o_t_history a_t_planner o_t_planner) ++ pl) sz)) (free := fun sz => va_A ((w_X11_startAnew cA h_t a_t o_t a_t_state o_t_state a_t_state_wares o_t_state_wares a_t_state_shelf o_t_state_shelf a_t_state_log o_t_state_log a_t_state_b0 o_t_state_b0 a_t_state_b1 o_t_state_b1 a_t_state_b2 o_t_state_b2 a_t_history o_t_history a_t_planner o_t_planner) ++ pl) sz) (by decide) rfl rfl (Nat.le_of_ble_eq_true rfl) ?_
  intro p e R s m args below meth c A Q hR hA hQ X Y hr hin
  unfold f_X11_undo at hF
  refine z_aload_n X dX11_undo_0 rfl 0 rfl ?_
  refine z_get (v := .ref (a_t 3)) X k_X11_undo_33 0 rfl rfl dX11_undo_1 ?_
  refine z_aload_n X dX11_undo_4 rfl 0 rfl ?_
  refine z_get (v := .ref (a_t 2)) X k_X11_undo_26 0 rfl rfl dX11_undo_5 ?_
  obtain ⟨o1, o2, o3, o4, o5, o6, o7, o8, r9, hc10, hF⟩ := zb9_e hF
  refine z_Pi (As := [.ref (a_t 2)]) (rest := []) (wc := (w_X3_keep cA (a_t 3) a_t_history o_t_history (a_t 2) a_t_state o_t_state a_t_state_wares o_t_state_wares a_t_state_shelf o_t_state_shelf a_t_state_log o_t_state_log a_t_state_b0 o_t_state_b0 a_t_state_b1 o_t_state_b1 a_t_state_b2 o_t_state_b2)) (wc' := (w_X3_keep cA (a_t 3) a_t_history o1 (a_t 2) a_t_state o2 a_t_state_wares o3 a_t_state_shelf o4 a_t_state_log o5 a_t_state_b0 o6 a_t_state_b1 o7 a_t_state_b2 o8)) (X1 := (w_X11_startAnew cA h_t a_t o_t a_t_state o2 a_t_state_wares o3 a_t_state_shelf o4 a_t_state_log o5 a_t_state_b0 o6 a_t_state_b1 o7 a_t_state_b2 o8 a_t_history o1 a_t_planner o_t_planner)) (pl := pl) (rv := r9) (Pl := Pool cA (a_t_history 0) 8 P) X Y (cwV 1 X.2.2.2.2.1 gX11_undo_X3_takeBack rfl rfl rfl (by decide +kernel) (by rw [hR]; exact ⟨Nat.le_of_ble_eq_true rfl, Nat.le_of_ble_eq_true rfl⟩)) (fun sz => c_X3_takeBack l D cA g sz (a_t 3) a_t_history o_t_history (a_t 2) a_t_state o_t_state a_t_state_wares o_t_state_wares a_t_state_shelf o_t_state_shelf a_t_state_log o_t_state_log a_t_state_b0 o_t_state_b0 a_t_state_b1 o_t_state_b1 a_t_state_b2 o_t_state_b2 pl P  o1 o2 o3 o4 o5 o6 o7 o8 r9 hpl hc10) [30, 2, 3, 4, 5, 6, 7, 8, 9, 10, 11, 12, 13, 14, 15, 16, 17, 18, 19, 20, 21, 22, 23, 24, 25, 26, 27, 28, 29] [0, 1, 1001, 1002, 1003, 1004, 1005, 1006, 1007, 1008, 1009, 1010, 1011, 1012, 1013, 1014, 1015, 1016, 1017, 1018, 1019, 1020, 1021, 1022, 1023, 1024, 1025, 1026, 1027, 1028, 1000, 31, 32, 33, 34, 35, 36] rfl (by decide) rfl (by decide) rfl rfl rfl rfl rfl rfl (Nat.le_of_ble_eq_true rfl) dX11_undo_8 (by rw [hR]; exact ⟨Nat.le_of_ble_eq_true rfl, Nat.le_of_ble_eq_true rfl⟩) (fun pl11 hp12 => ?_)
  have hF := if_e hF
  refine z_if_ne (tgt := 16) X dX11_undo_11 (by decide) (fun c15 => ?_) (fun c15 => ?_)
  · have hF := hF.2 c15
    refine z_aload_n X dX11_undo_16 rfl 0 rfl ?_
    refine z_get (v := .ref (a_t 8)) X k_X11_undo_67 0 rfl rfl dX11_undo_17 ?_
    obtain ⟨o13, hc14, hF⟩ := zb1_e hF
    refine z_VvT (As := []) (rest := []) (wc := (w_X5_forget cA (a_t 8) a_t_planner 10496 o_t_planner)) (wc' := (w_X5_forget cA (a_t 8) a_t_planner 10496 o13)) (X1 := (w_X11_startAnew cA h_t a_t o_t a_t_state o2 a_t_state_wares o3 a_t_state_shelf o4 a_t_state_log o5 a_t_state_b0 o6 a_t_state_b1 o7 a_t_state_b2 o8 a_t_history o1 a_t_planner o13)) X (cwV 0 X.2.2.2.2.1 gX11_undo_X5_forget rfl rfl rfl (by decide +kernel) (by rw [hR]; exact ⟨Nat.le_of_ble_eq_true rfl, Nat.le_of_ble_eq_true rfl⟩)) (fun sz => c_X5_forget l D cA g sz (a_t 8) a_t_planner 10496 o_t_planner o13 hc14) [31, 32, 33, 34, 35, 36] [0, 1, 2, 3, 4, 5, 6, 7, 8, 9, 10, 11, 12, 13, 14, 15, 16, 17, 18, 19, 20, 21, 22, 23, 24, 25, 26, 27, 28, 29, 30, 1000, 1001, 1002, 1003, 1004, 1005] rfl (by decide) rfl (by decide) rfl rfl rfl rfl rfl rfl (Nat.le_of_ble_eq_true rfl) dX11_undo_20 (by rw [hR]; exact ⟨Nat.le_of_ble_eq_true rfl, Nat.le_of_ble_eq_true rfl⟩) ?_
    refine z_aload_n X dX11_undo_23 rfl 0 rfl ?_
    refine z_get (v := .ref (a_t 3)) X k_X11_undo_33 0 rfl rfl dX11_undo_24 ?_
    refine z_get (v := .int (o1 2 0)) X k_X11_undo_374 30 rfl rfl dX11_undo_27 ?_
    cases hF
    exact z_iretT X hA hQ hr hp12 rfl dX11_undo_30 (Nat.le_of_ble_eq_true rfl) (Nat.le_of_ble_eq_true rfl)
  · have hF := hF.1 c15
    refine z_iconst (v := (-1 : Int32)) X dX11_undo_14 (by decide) ?_
    cases hF
    exact z_iretT X hA hQ hr hp12 rfl dX11_undo_15 (Nat.le_of_ble_eq_true rfl) (Nat.le_of_ble_eq_true rfl)
abbrev w_X11_image (cA : Nat → ClassId) (h_t : Nat) (a_t : Nat → Nat) (o_t : Ob) (a_t_state : Nat → Nat) (o_t_state : Ob) (a_t_state_wares : Nat → Nat) (o_t_state_wares : Ob) (a_t_state_shelf : Nat → Nat) (o_t_state_shelf : Ob) (a_t_state_log : Nat → Nat) (o_t_state_log : Ob) (a_t_state_b0 : Nat → Nat) (o_t_state_b0 : Ob) (a_t_state_b1 : Nat → Nat) (o_t_state_b1 : Ob) (a_t_state_b2 : Nat → Nat) (o_t_state_b2 : Ob) : va_W := [(h_t, .inr (11, [.ref (a_t 0), .ref (a_t 1), .ref (a_t 2), .ref (a_t 3), .ref (a_t 4), .ref (a_t 5), .ref (a_t 6), .ref (a_t 7), .ref (a_t 8), .ref (a_t 9), .ref (a_t 10), .ref (a_t 11), .ref (a_t 12), .int (o_t 13 0), .int (o_t 14 0)])), (a_t 12, .inl (cA 0, 20, .inl (o_t 12))), ((a_t 2), .inr (9, [.ref (a_t_state 0), .ref (a_t_state 1), .ref (a_t_state 2), .ref (a_t_state 3), .int (o_t_state 4 0), .int (o_t_state 5 0), .int (o_t_state 6 0)])), (a_t_state 3, .inl (cA 4, 3, .inr (.inr (.inr (.inr (bk (a_t_state 20) (a_t_state 21) (a_t_state 22))))))), ((a_t_state 0), .inr (10, [.int (o_t_state_wares 0 0), .ref (a_t_state_wares 1), .ref (a_t_state_wares 2), .ref (a_t_state_wares 3), .ref (a_t_state_wares 4)])), (a_t_state_wares 1, .inl (cA 0, 8, .inl (o_t_state_wares 1))), (a_t_state_wares 2, .inl (cA 0, 8, .inl (o_t_state_wares 2))), (a_t_state_wares 3, .inl (cA 0, 8, .inl (o_t_state_wares 3))), (a_t_state_wares 4, .inl (cA 0, 8, .inl (o_t_state_wares 4))), ((a_t_state 1), .inr (8, [.int (o_t_state_shelf 0 0), .int (o_t_state_shelf 1 0), .int (o_t_state_shelf 2 0), .int (o_t_state_shelf 3 0), .ref (a_t_state_shelf 4), .ref (a_t_state_shelf 5), .ref (a_t_state_shelf 6)])), (a_t_state_shelf 4, .inl (cA 0, 8, .inl (o_t_state_shelf 4))), (a_t_state_shelf 5, .inl (cA 0, 8, .inl (o_t_state_shelf 5))), (a_t_state_shelf 6, .inl (cA 1, 8, .inr (.inr (.inl (fun j => (o_t_state_shelf 6 j).toUInt32))))), ((a_t_state 2), .inr (4, [.int (o_t_state_log 0 0), .ref (a_t_state_log 1), .ref (a_t_state_log 2), .ref (a_t_state_log 3), .ref (a_t_state_log 4)])), (a_t_state_log 1, .inl (cA 0, 40, .inl (o_t_state_log 1))), (a_t_state_log 2, .inl (cA 0, 40, .inl (o_t_state_log 2))), (a_t_state_log 3, .inl (cA 0, 40, .inl (o_t_state_log 3))), (a_t_state_log 4, .inl (cA 0, 320, .inl (o_t_state_log 4))), ((a_t_state 20), .inr (0, [.int (o_t_state_b0 0 0), .int (o_t_state_b0 1 0), .int (o_t_state_b0 2 0), .int (o_t_state_b0 3 0), .int (o_t_state_b0 4 0), .int (o_t_state_b0 5 0), .int (o_t_state_b0 6 0), .ref (a_t_state_b0 7), .ref (a_t_state_b0 8), .ref (a_t_state_b0 9)])), (a_t_state_b0 7, .inl (cA 0, 30, .inl (o_t_state_b0 7))), (a_t_state_b0 8, .inl (cA 0, 30, .inl (o_t_state_b0 8))), (a_t_state_b0 9, .inl (cA 0, 30, .inl (o_t_state_b0 9))), ((a_t_state 21), .inr (0, [.int (o_t_state_b1 0 0), .int (o_t_state_b1 1 0), .int (o_t_state_b1 2 0), .int (o_t_state_b1 3 0), .int (o_t_state_b1 4 0), .int (o_t_state_b1 5 0), .int (o_t_state_b1 6 0), .ref (a_t_state_b1 7), .ref (a_t_state_b1 8), .ref (a_t_state_b1 9)])), (a_t_state_b1 7, .inl (cA 0, 30, .inl (o_t_state_b1 7))), (a_t_state_b1 8, .inl (cA 0, 30, .inl (o_t_state_b1 8))), (a_t_state_b1 9, .inl (cA 0, 30, .inl (o_t_state_b1 9))), ((a_t_state 22), .inr (0, [.int (o_t_state_b2 0 0), .int (o_t_state_b2 1 0), .int (o_t_state_b2 2 0), .int (o_t_state_b2 3 0), .int (o_t_state_b2 4 0), .int (o_t_state_b2 5 0), .int (o_t_state_b2 6 0), .ref (a_t_state_b2 7), .ref (a_t_state_b2 8), .ref (a_t_state_b2 9)])), (a_t_state_b2 7, .inl (cA 0, 30, .inl (o_t_state_b2 7))), (a_t_state_b2 8, .inl (cA 0, 30, .inl (o_t_state_b2 8))), (a_t_state_b2 9, .inl (cA 0, 30, .inl (o_t_state_b2 9)))]
def f_X11_image (o_t_state : Ob) (o_t_state_wares : Ob) (o_t_state_shelf : Ob) (o_t_state_log : Ob) (o_t_state_b0 : Ob) (o_t_state_b1 : Ob) (o_t_state_b2 : Ob) (P : PV) (v1 : Int32) : Option (PV × Int32) :=
  if v1 < 0 then (
  some (P, (0 : Int32))
  ) else (
  if v1 < (2 : Int32) then (
  gi v1 2 <|
  zb7 (f_X9_copyFrom (((P (Int32.toNatClampNeg v1)).getD V9) 0) (((P (Int32.toNatClampNeg v1)).getD V9) 1) (((P (Int32.toNatClampNeg v1)).getD V9) 2) (((P (Int32.toNatClampNeg v1)).getD V9) 3) (((P (Int32.toNatClampNeg v1)).getD V9) 4) (((P (Int32.toNatClampNeg v1)).getD V9) 5) (((P (Int32.toNatClampNeg v1)).getD V9) 6) o_t_state o_t_state_wares o_t_state_shelf o_t_state_log o_t_state_b0 o_t_state_b1 o_t_state_b2) fun (o1 : Ob) (o2 : Ob) (o3 : Ob) (o4 : Ob) (o5 : Ob) (o6 : Ob) (o7 : Ob) =>
  nx (upP P (Int32.toNatClampNeg v1) (v7 o1 o2 o3 o4 o5 o6 o7)) fun P8 =>
  some (P8, (1 : Int32))
  ) else (
  some (P, (0 : Int32))
  )
  )
set_option maxRecDepth 20000 in
theorem h_X11_image_X11 : ∀ w ∈ wsX110, w ∈ wsX11_image := by decide +kernel
set_option maxRecDepth 20000 in
theorem k_X11_image_26 : ZF wsX11_image RX11 26 11 2 RX11 TX11 15 := ⟨rfl, by decide, h_X11_image_X11, by decide +kernel⟩
set_option maxRecDepth 20000 in
theorem k_X11_image_37 : ZF wsX11_image RX11 37 11 4 RX11 TX11 15 := ⟨rfl, by decide, h_X11_image_X11, by decide +kernel⟩
set_option maxRecDepth 20000 in
theorem h_X11_image_X9n : ∀ w ∈ wsX90, w ∈ wsX11_image := by decide +kernel
set_option maxRecDepth 20000 in
theorem k_X11_image_o23 : ZO wsX11_image RX11 23 9 RX9 TX9 7 := ⟨rfl, h_X11_image_X9n, by decide +kernel, by decide +kernel, by decide +kernel⟩
set_option maxRecDepth 20000 in
theorem k_X11_image_i1 : Cond.initialized RX9 ∈ wsX11_image := by decide +kernel
set_option maxRecDepth 20000 in
theorem k_X11_image_i2 : Cond.methodLink RX11 25 yX9_init ∈ wsX11_image := by decide +kernel
set_option maxRecDepth 20000 in
theorem k_X11_image_i3 : Cond.instanceMethod yX9_init ∈ wsX11_image := by decide +kernel
set_option maxHeartbeats 8000000 in
set_option maxRecDepth 100000 in
theorem c_X11_image (l : Launch) (D : va_G) (cA : Nat → ClassId) (g : Nat → Nat) (sz : Nat) (h_t : Nat) (a_t : Nat → Nat) (o_t : Ob) (a_t_state : Nat → Nat) (o_t_state : Ob) (a_t_state_wares : Nat → Nat) (o_t_state_wares : Ob) (a_t_state_shelf : Nat → Nat) (o_t_state_shelf : Ob) (a_t_state_log : Nat → Nat) (o_t_state_log : Ob) (a_t_state_b0 : Nat → Nat) (o_t_state_b0 : Ob) (a_t_state_b1 : Nat → Nat) (o_t_state_b1 : Ob) (a_t_state_b2 : Nat → Nat) (o_t_state_b2 : Ob) (pl : va_W) (P : PV) (v1 : Int32) (P' : PV) (rv : Int32) (hpl : Pool cA (a_t 4) 2 P pl) (hF : f_X11_image o_t_state o_t_state_wares o_t_state_shelf o_t_state_log o_t_state_b0 o_t_state_b1 o_t_state_b2 P v1 = some (P', rv)) : Met l yX11_image wsX11_image ({ frames := 3, cells := 28, slots := 823, locals := 91 }) (va_Pc [.ref h_t, .int v1] (PreN D cA g sz ((w_X11_image cA h_t a_t o_t a_t_state o_t_state a_t_state_wares o_t_state_wares a_t_state_shelf o_t_state_shelf a_t_state_log o_t_state_log a_t_state_b0 o_t_state_b0 a_t_state_b1 o_t_state_b1 a_t_state_b2 o_t_state_b2) ++ pl))) (va_Qi (fun (r : Int32) (_ : va_W) => r = rv) (PostT D cA sz ((w_X11_image cA h_t a_t o_t a_t_state o_t_state a_t_state_wares o_t_state_wares a_t_state_shelf o_t_state_shelf a_t_state_log o_t_state_log a_t_state_b0 o_t_state_b0 a_t_state_b1 o_t_state_b1 a_t_state_b2 o_t_state_b2) ++ pl) (w_X11_image cA h_t a_t o_t a_t_state o_t_state a_t_state_wares o_t_state_wares a_t_state_shelf o_t_state_shelf a_t_state_log o_t_state_log a_t_state_b0 o_t_state_b0 a_t_state_b1 o_t_state_b1 a_t_state_b2 o_t_state_b2) (Pool cA (a_t 4) 2 P')) (va_A ((w_X11_image cA h_t a_t o_t a_t_state o_t_state a_t_state_wares o_t_state_wares a_t_state_shelf o_t_state_shelf a_t_state_log o_t_state_log a_t_state_b0 o_t_state_b0 a_t_state_b1 o_t_state_b1 a_t_state_b2 o_t_state_b2) ++ pl) sz)) 28 823 (va_A ((w_X11_image cA h_t a_t o_t a_t_state o_t_state a_t_state_wares o_t_state_wares a_t_state_shelf o_t_state_shelf a_t_state_log o_t_state_log a_t_state_b0 o_t_state_b0 a_t_state_b1 o_t_state_b1 a_t_state_b2 o_t_state_b2) ++ pl) sz) := by
  refine z_startN (y := yX11_image) (wsy := wsX11_image) (av := [.ref h_t, .int v1]) (w0 := ((w_X11_image cA h_t a_t o_t a_t_state o_t_state a_t_state_wares o_t_state_wares a_t_state_shelf o_t_state_shelf a_t_state_log o_t_state_log a_t_state_b0 o_t_state_b0 a_t_state_b1 o_t_state_b1 a_t_state_b2 o_t_state_b2) ++ pl)) (cc := cX11_image) (maxL := 2) (ret := (some .boolean)) (lv0 := [(0, .ref h_t), (1, .int v1)]) (Qc := fun sz => va_Qi (fun (r : Int32) (_ : va_W) => r = rv) (PostT D cA sz ((w_X11_image cA h_t a_t o_t a_t_state o_t_state a_t_state_wares o_t_state_wares a_t_state_shelf o_t_state_shelf a_t_state_log o_t_state_log a_t_state_b0 o_t_state_b0 a_t_state_b1 o_t_state_b1 a_t_state_b2 o_t_state_b2) ++ pl) (w_X11_image cA h_t a_t o_t a_t_state o_t_state a_t_state_wares o_t_state_wares a_t_state_shelf o_t_state_shelf a_t_state_log o_t_state_log a_t_state_b0 o_t_state_b0 a_t_state_b1 o_t_state_b1 a_t_state_b2 o_t_state_b2) (Pool cA (a_t 4) 2 P')) (va_A ((w_X11_image cA h_t a_t o_t a_t_state o_t_state a_t_state_wares o_t_state_wares a_t_state_shelf o_t_state_shelf a_t_state_log o_t_state_log a_t_state_b0 o_t_state_b0 a_t_state_b1 o_t_state_b1 a_t_state_b2 o_t_state_b2) ++ pl) sz)) (free := fun sz => va_A ((w_X11_image cA h_t a_t o_t a_t_state o_t_state a_t_state_wares o_t_state_wares a_t_state_shelf o_t_state_shelf a_t_state_log o_t_state_log a_t_state_b0 o_t_state_b0 a_t_state_b1 o_t_state_b1 a_t_state_b2 o_t_state_b2) ++ pl) sz) (by decide) rfl rfl (Nat.le_of_ble_eq_true rfl) ?_
  intro p e R s m args below meth c A Q hR hA hQ X Y hr hin
  unfold f_X11_image at hF
  refine z_iload_n X dX11_image_0 rfl 1 rfl ?_
  have hF := if_e hF
  refine z_if_lt (tgt := 9) X dX11_image_1 (by decide) (fun c14 => ?_) (fun c14 => ?_)
  · have hF := hF.1 c14
    refine z_iconst (v := (0 : Int32)) X dX11_image_9 (by decide) ?_
    cases hF
    exact z_zretT X hA hQ hr hpl (Or.inl rfl)  rfl dX11_image_10 (Nat.le_of_ble_eq_true rfl) (Nat.le_of_ble_eq_true rfl)
  · have hF := hF.2 c14
    refine z_iload_n X dX11_image_4 rfl 1 rfl ?_
    refine z_iconst (v := (2 : Int32)) X dX11_image_5 (by decide) ?_
    have hF := if_e hF
    refine z_icmp_lt (tgt := 11) X dX11_image_6 (by decide) (fun c13 => ?_) (fun c13 => ?_)
    · have hF := hF.1 c13
      obtain ⟨g10, hF⟩ := gi_e hF
      obtain ⟨o1, o2, o3, o4, o5, o6, o7, hc9, hF⟩ := zb7_e hF
      obtain ⟨P8, eP8, hF⟩ := nx_e hF
      have KK : ∀ pl11 : va_W, Pool cA (a_t 4) 2 P8 pl11 → ZW p l e R s m args below meth c D A 2 28 823 Q ((w_X11_image cA h_t a_t o_t a_t_state o_t_state a_t_state_wares o_t_state_wares a_t_state_shelf o_t_state_shelf a_t_state_log o_t_state_log a_t_state_b0 o_t_state_b0 a_t_state_b1 o_t_state_b1 a_t_state_b2 o_t_state_b2) ++ pl11) [(0, .ref h_t), (1, .int v1)] 46 [] := by
        intro pl11 hp12
        refine z_iconst (v := (1 : Int32)) X dX11_image_46 (by decide) ?_
        cases hF
        exact z_zretT X hA hQ hr hp12 (Or.inr rfl)  rfl dX11_image_47 (Nat.le_of_ble_eq_true rfl) (Nat.le_of_ble_eq_true rfl)
      have hlt : (Int32.toNatClampNeg v1) < 2 := Nat.not_le.mp fun h => g10 (Or.inr h)
      cases hPa : P (Int32.toNatClampNeg v1) with
      | none =>
        obtain ⟨hs, pl0, hn, hp, hput, -⟩ := hpl.none hlt hPa
        rw [hPa] at hc9
        refine z_perm (hp.append_left _) ?_
        refine z_aload_n X dX11_image_11 rfl 0 rfl ?_
        refine z_get (v := .ref (a_t 4)) X k_X11_image_37 0 rfl rfl dX11_image_12 ?_
        refine z_iload_n X dX11_image_15 rfl 1 rfl ?_
        refine z_aldS (r := none) X 30 rfl g10 hn dX11_image_16 ?_
        refine z_ifnn0 X dX11_image_17 ?_
        refine z_aload_n X dX11_image_20 rfl 0 rfl ?_
        refine z_get (v := .ref (a_t 4)) X k_X11_image_37 0 rfl rfl dX11_image_21 ?_
        refine z_iload_n X dX11_image_24 rfl 1 rfl ?_
        refine z_new X k_X11_image_o23 tyX9 tyX9_ok [.null, .null, .null, .null, .int 0, .int 0, .int 0] (fun j hj => by match j, hj with | 0, _ => rfl | 1, _ => rfl | 2, _ => rfl | 3, _ => rfl | 4, _ => rfl | 5, _ => rfl | 6, _ => rfl | (z + 7), hz => exact absurd hz (by omega)) (by rw [hR]; exact Nat.le_of_ble_eq_true rfl) (by rw [hR]; exact Nat.le_of_ble_eq_true rfl) dX11_image_25 (fun qn => ?_)
        refine z_dup X dX11_image_28 rfl ?_
        refine z_I (As := []) (rest := [.ref qn, .int v1, .ref (a_t 4)]) (w0 := ((w_X11_image cA h_t a_t o_t a_t_state o_t_state a_t_state_wares o_t_state_wares a_t_state_shelf o_t_state_shelf a_t_state_log o_t_state_log a_t_state_b0 o_t_state_b0 a_t_state_b1 o_t_state_b1 a_t_state_b2 o_t_state_b2) ++ (kc cA (a_t 4) 2 hs :: pl0))) (wf := fun u => [(qn, .inr (9, [.ref ((u 0) 0), .ref ((u 0) 1), .ref ((u 0) 2), .ref ((u 0) 3), .int (oz 4 0), .int (oz 5 0), .int (oz 6 0)])), ((u 0) 3, .inl (cA 4, 3, .inr (.inr (.inr (.inr (bk ((u 0) 20) ((u 0) 21) ((u 0) 22))))))), ((u 0 0), .inr (10, [.int (oz 0 0), .ref (((fun i => u (i + 1)) 0) 1), .ref (((fun i => u (i + 1)) 0) 2), .ref (((fun i => u (i + 1)) 0) 3), .ref (((fun i => u (i + 1)) 0) 4)])), (((fun i => u (i + 1)) 0) 1, .inl (cA 0, 8, .inl (oz 1))), (((fun i => u (i + 1)) 0) 2, .inl (cA 0, 8, .inl (oz 2))), (((fun i => u (i + 1)) 0) 3, .inl (cA 0, 8, .inl (oz 3))), (((fun i => u (i + 1)) 0) 4, .inl (cA 0, 8, .inl (oz 4))), ((u 0 1), .inr (8, [.int ((si (si oz 0 (6 : Int32)) 1 (1 : Int32)) 0 0), .int ((si (si oz 0 (6 : Int32)) 1 (1 : Int32)) 1 0), .int ((si (si oz 0 (6 : Int32)) 1 (1 : Int32)) 2 0), .int ((si (si oz 0 (6 : Int32)) 1 (1 : Int32)) 3 0), .ref (((fun i => u (i + 2)) 0) 4), .ref (((fun i => u (i + 2)) 0) 5), .ref (((fun i => u (i + 2)) 0) 6)])), (((fun i => u (i + 2)) 0) 4, .inl (cA 0, 8, .inl ((si (si oz 0 (6 : Int32)) 1 (1 : Int32)) 4))), (((fun i => u (i + 2)) 0) 5, .inl (cA 0, 8, .inl ((si (si oz 0 (6 : Int32)) 1 (1 : Int32)) 5))), (((fun i => u (i + 2)) 0) 6, .inl (cA 1, 8, .inr (.inr (.inl (fun j => ((si (si oz 0 (6 : Int32)) 1 (1 : Int32)) 6 j).toUInt32))))), ((u 0 2), .inr (4, [.int (oz 0 0), .ref (((fun i => u (i + 3)) 0) 1), .ref (((fun i => u (i + 3)) 0) 2), .ref (((fun i => u (i + 3)) 0) 3), .ref (((fun i => u (i + 3)) 0) 4)])), (((fun i => u (i + 3)) 0) 1, .inl (cA 0, 40, .inl (oz 1))), (((fun i => u (i + 3)) 0) 2, .inl (cA 0, 40, .inl (oz 2))), (((fun i => u (i + 3)) 0) 3, .inl (cA 0, 40, .inl (oz 3))), (((fun i => u (i + 3)) 0) 4, .inl (cA 0, 320, .inl (oz 4))), ((u 0 20), .inr (0, [.int (oz 0 0), .int (oz 1 0), .int (oz 2 0), .int (oz 3 0), .int (oz 4 0), .int (oz 5 0), .int (oz 6 0), .ref (((fun i => u (i + 4)) 0) 7), .ref (((fun i => u (i + 4)) 0) 8), .ref (((fun i => u (i + 4)) 0) 9)])), (((fun i => u (i + 4)) 0) 7, .inl (cA 0, 30, .inl (oz 7))), (((fun i => u (i + 4)) 0) 8, .inl (cA 0, 30, .inl (oz 8))), (((fun i => u (i + 4)) 0) 9, .inl (cA 0, 30, .inl (oz 9))), ((u 0 21), .inr (0, [.int (oz 0 0), .int (oz 1 0), .int (oz 2 0), .int (oz 3 0), .int (oz 4 0), .int (oz 5 0), .int (oz 6 0), .ref (((fun i => u (i + 5)) 0) 7), .ref (((fun i => u (i + 5)) 0) 8), .ref (((fun i => u (i + 5)) 0) 9)])), (((fun i => u (i + 5)) 0) 7, .inl (cA 0, 30, .inl (oz 7))), (((fun i => u (i + 5)) 0) 8, .inl (cA 0, 30, .inl (oz 8))), (((fun i => u (i + 5)) 0) 9, .inl (cA 0, 30, .inl (oz 9))), ((u 0 22), .inr (0, [.int (oz 0 0), .int (oz 1 0), .int (oz 2 0), .int (oz 3 0), .int (oz 4 0), .int (oz 5 0), .int (oz 6 0), .ref (((fun i => u (i + 6)) 0) 7), .ref (((fun i => u (i + 6)) 0) 8), .ref (((fun i => u (i + 6)) 0) 9)])), (((fun i => u (i + 6)) 0) 7, .inl (cA 0, 30, .inl (oz 7))), (((fun i => u (i + 6)) 0) 8, .inl (cA 0, 30, .inl (oz 8))), (((fun i => u (i + 6)) 0) 9, .inl (cA 0, 30, .inl (oz 9)))]) X Y (cwI 0 X.2.2.2.2.1 gX11_image_X9_init rfl rfl rfl (X.2.2.2.2.1 (.initialized RX9) k_X11_image_i1) (X.2.2.2.2.1 (.methodLink RX11 25 yX9_init) k_X11_image_i2) (X.2.2.2.2.1 (.instanceMethod yX9_init) k_X11_image_i3) rfl (by decide +kernel) (by rw [hR]; exact ⟨Nat.le_of_ble_eq_true rfl, Nat.le_of_ble_eq_true rfl⟩)) (fun sz => i_X9_init l D cA g sz qn) rfl rfl rfl (Nat.le_of_ble_eq_true rfl) dX11_image_29 (by rw [hR]; exact ⟨Nat.le_of_ble_eq_true rfl, Nat.le_of_ble_eq_true rfl⟩) (fun u => ?_)
        refine z_perm (pm_new (w := (w_X11_image cA h_t a_t o_t a_t_state o_t_state a_t_state_wares o_t_state_wares a_t_state_shelf o_t_state_shelf a_t_state_log o_t_state_log a_t_state_b0 o_t_state_b0 a_t_state_b1 o_t_state_b1 a_t_state_b2 o_t_state_b2)) (k := kc cA (a_t 4) 2 hs) (pl0 := pl0) (S := wSt cA qn u V9) rfl) ?_
        refine z_astSt (ws' := ((w_X11_image cA h_t a_t o_t a_t_state o_t_state a_t_state_wares o_t_state_wares a_t_state_shelf o_t_state_shelf a_t_state_log o_t_state_log a_t_state_b0 o_t_state_b0 a_t_state_b1 o_t_state_b1 a_t_state_b2 o_t_state_b2) ++ (kc cA (a_t 4) 2 (va_up hs (Int32.toNatClampNeg v1) (some qn)) :: (wSt cA qn u V9 ++ pl0)))) X 30 31 rfl rfl g10 rfl dX11_image_32 ?_
        refine z_aload_n X dX11_image_33 rfl 0 rfl ?_
        refine z_get (v := .ref (a_t 4)) X k_X11_image_37 0 rfl rfl dX11_image_34 ?_
        refine z_iload_n X dX11_image_37 rfl 1 rfl ?_
        refine z_aldS (r := some qn) X 30 rfl g10 (by unfold va_up; rw [if_pos rfl]) dX11_image_38 ?_
        refine z_aload_n X dX11_image_39 rfl 0 rfl ?_
        refine z_get (v := .ref (a_t 2)) X k_X11_image_26 0 rfl rfl dX11_image_40 ?_
        refine z_ws (ws' := (((w_X11_image cA h_t a_t o_t a_t_state o_t_state a_t_state_wares o_t_state_wares a_t_state_shelf o_t_state_shelf a_t_state_log o_t_state_log a_t_state_b0 o_t_state_b0 a_t_state_b1 o_t_state_b1 a_t_state_b2 o_t_state_b2) ++ (kc cA (a_t 4) 2 (va_up hs (Int32.toNatClampNeg v1) (some qn)) :: wSt cA qn u V9)) ++ pl0)) rfl ?_
        refine z_VvT (As := [.ref (a_t 2)]) (rest := []) (wc := (w_X9_copyFrom cA qn (u 0) (V9 0) (u 1) (V9 1) (u 2) (V9 2) (u 3) (V9 3) (u 4) (V9 4) (u 5) (V9 5) (u 6) (V9 6) (a_t 2) a_t_state o_t_state a_t_state_wares o_t_state_wares a_t_state_shelf o_t_state_shelf a_t_state_log o_t_state_log a_t_state_b0 o_t_state_b0 a_t_state_b1 o_t_state_b1 a_t_state_b2 o_t_state_b2)) (wc' := (w_X9_copyFrom cA qn (u 0) o1 (u 1) o2 (u 2) o3 (u 3) o4 (u 4) o5 (u 5) o6 (u 6) o7 (a_t 2) a_t_state o_t_state a_t_state_wares o_t_state_wares a_t_state_shelf o_t_state_shelf a_t_state_log o_t_state_log a_t_state_b0 o_t_state_b0 a_t_state_b1 o_t_state_b1 a_t_state_b2 o_t_state_b2)) (X0 := ((w_X11_image cA h_t a_t o_t a_t_state o_t_state a_t_state_wares o_t_state_wares a_t_state_shelf o_t_state_shelf a_t_state_log o_t_state_log a_t_state_b0 o_t_state_b0 a_t_state_b1 o_t_state_b1 a_t_state_b2 o_t_state_b2) ++ (kc cA (a_t 4) 2 (va_up hs (Int32.toNatClampNeg v1) (some qn)) :: wSt cA qn u V9))) (X1 := ((w_X11_image cA h_t a_t o_t a_t_state o_t_state a_t_state_wares o_t_state_wares a_t_state_shelf o_t_state_shelf a_t_state_log o_t_state_log a_t_state_b0 o_t_state_b0 a_t_state_b1 o_t_state_b1 a_t_state_b2 o_t_state_b2) ++ (kc cA (a_t 4) 2 (va_up hs (Int32.toNatClampNeg v1) (some qn)) :: wSt cA qn u (v7 o1 o2 o3 o4 o5 o6 o7)))) (pl := pl0) X (cwV 1 X.2.2.2.2.1 gX11_image_X9_copyFrom rfl rfl rfl (by decide +kernel) (by rw [hR]; exact ⟨Nat.le_of_ble_eq_true rfl, Nat.le_of_ble_eq_true rfl⟩)) (fun sz => c_X9_copyFrom l D cA g sz qn (u 0) (V9 0) (u 1) (V9 1) (u 2) (V9 2) (u 3) (V9 3) (u 4) (V9 4) (u 5) (V9 5) (u 6) (V9 6) (a_t 2) a_t_state o_t_state a_t_state_wares o_t_state_wares a_t_state_shelf o_t_state_shelf a_t_state_log o_t_state_log a_t_state_b0 o_t_state_b0 a_t_state_b1 o_t_state_b1 a_t_state_b2 o_t_state_b2 o1 o2 o3 o4 o5 o6 o7 hc9) [31, 32, 33, 34, 35, 36, 37, 38, 39, 40, 41, 42, 43, 44, 45, 46, 47, 48, 49, 50, 51, 52, 53, 54, 55, 56, 57, 58, 2, 3, 4, 5, 6, 7, 8, 9, 10, 11, 12, 13, 14, 15, 16, 17, 18, 19, 20, 21, 22, 23, 24, 25, 26, 27, 28, 29] [0, 1, 1028, 1029, 1030, 1031, 1032, 1033, 1034, 1035, 1036, 1037, 1038, 1039, 1040, 1041, 1042, 1043, 1044, 1045, 1046, 1047, 1048, 1049, 1050, 1051, 1052, 1053, 1054, 1055, 30, 1000, 1001, 1002, 1003, 1004, 1005, 1006, 1007, 1008, 1009, 1010, 1011, 1012, 1013, 1014, 1015, 1016, 1017, 1018, 1019, 1020, 1021, 1022, 1023, 1024, 1025, 1026, 1027] rfl (by decide) rfl (by decide) rfl rfl rfl rfl rfl rfl (Nat.le_of_ble_eq_true rfl) dX11_image_43 (by rw [hR]; exact ⟨Nat.le_of_ble_eq_true rfl, Nat.le_of_ble_eq_true rfl⟩) ?_
        refine z_ws (ws' := ((w_X11_image cA h_t a_t o_t a_t_state o_t_state a_t_state_wares o_t_state_wares a_t_state_shelf o_t_state_shelf a_t_state_log o_t_state_log a_t_state_b0 o_t_state_b0 a_t_state_b1 o_t_state_b1 a_t_state_b2 o_t_state_b2) ++ (kc cA (a_t 4) 2 (va_up hs (Int32.toNatClampNeg v1) (some qn)) :: (wSt cA qn u (v7 o1 o2 o3 o4 o5 o6 o7) ++ pl0)))) rfl ?_
        exact z_widen (Nat.le_of_ble_eq_true rfl) (Nat.le_of_ble_eq_true rfl) (KK _ (by rw [eP8]; exact hput qn u _))
      | some VV =>
        obtain ⟨hs, qn, u, pl0, hn, hp, hput, -⟩ := hpl.some hlt hPa
        rw [hPa] at hc9
        refine z_perm (hp.append_left _) ?_
        refine z_aload_n X dX11_image_11 rfl 0 rfl ?_
        refine z_get (v := .ref (a_t 4)) X k_X11_image_37 0 rfl rfl dX11_image_12 ?_
        refine z_iload_n X dX11_image_15 rfl 1 rfl ?_
        refine z_aldS (r := some qn) X 30 rfl g10 hn dX11_image_16 ?_
        refine z_ifnn1 (tgt := 33) X dX11_image_17 (by decide) ?_
        refine z_aload_n X dX11_image_33 rfl 0 rfl ?_
        refine z_get (v := .ref (a_t 4)) X k_X11_image_37 0 rfl rfl dX11_image_34 ?_
        refine z_iload_n X dX11_image_37 rfl 1 rfl ?_
        refine z_aldS (r := some qn) X 30 rfl g10 hn dX11_image_38 ?_
        refine z_aload_n X dX11_image_39 rfl 0 rfl ?_
        refine z_get (v := .ref (a_t 2)) X k_X11_image_26 0 rfl rfl dX11_image_40 ?_
        refine z_ws (ws' := (((w_X11_image cA h_t a_t o_t a_t_state o_t_state a_t_state_wares o_t_state_wares a_t_state_shelf o_t_state_shelf a_t_state_log o_t_state_log a_t_state_b0 o_t_state_b0 a_t_state_b1 o_t_state_b1 a_t_state_b2 o_t_state_b2) ++ (kc cA (a_t 4) 2 hs :: wSt cA qn u VV)) ++ pl0)) rfl ?_
        refine z_VvT (As := [.ref (a_t 2)]) (rest := []) (wc := (w_X9_copyFrom cA qn (u 0) (VV 0) (u 1) (VV 1) (u 2) (VV 2) (u 3) (VV 3) (u 4) (VV 4) (u 5) (VV 5) (u 6) (VV 6) (a_t 2) a_t_state o_t_state a_t_state_wares o_t_state_wares a_t_state_shelf o_t_state_shelf a_t_state_log o_t_state_log a_t_state_b0 o_t_state_b0 a_t_state_b1 o_t_state_b1 a_t_state_b2 o_t_state_b2)) (wc' := (w_X9_copyFrom cA qn (u 0) o1 (u 1) o2 (u 2) o3 (u 3) o4 (u 4) o5 (u 5) o6 (u 6) o7 (a_t 2) a_t_state o_t_state a_t_state_wares o_t_state_wares a_t_state_shelf o_t_state_shelf a_t_state_log o_t_state_log a_t_state_b0 o_t_state_b0 a_t_state_b1 o_t_state_b1 a_t_state_b2 o_t_state_b2)) (X0 := ((w_X11_image cA h_t a_t o_t a_t_state o_t_state a_t_state_wares o_t_state_wares a_t_state_shelf o_t_state_shelf a_t_state_log o_t_state_log a_t_state_b0 o_t_state_b0 a_t_state_b1 o_t_state_b1 a_t_state_b2 o_t_state_b2) ++ (kc cA (a_t 4) 2 hs :: wSt cA qn u VV))) (X1 := ((w_X11_image cA h_t a_t o_t a_t_state o_t_state a_t_state_wares o_t_state_wares a_t_state_shelf o_t_state_shelf a_t_state_log o_t_state_log a_t_state_b0 o_t_state_b0 a_t_state_b1 o_t_state_b1 a_t_state_b2 o_t_state_b2) ++ (kc cA (a_t 4) 2 hs :: wSt cA qn u (v7 o1 o2 o3 o4 o5 o6 o7)))) (pl := pl0) X (cwV 1 X.2.2.2.2.1 gX11_image_X9_copyFrom rfl rfl rfl (by decide +kernel) (by rw [hR]; exact ⟨Nat.le_of_ble_eq_true rfl, Nat.le_of_ble_eq_true rfl⟩)) (fun sz => c_X9_copyFrom l D cA g sz qn (u 0) (VV 0) (u 1) (VV 1) (u 2) (VV 2) (u 3) (VV 3) (u 4) (VV 4) (u 5) (VV 5) (u 6) (VV 6) (a_t 2) a_t_state o_t_state a_t_state_wares o_t_state_wares a_t_state_shelf o_t_state_shelf a_t_state_log o_t_state_log a_t_state_b0 o_t_state_b0 a_t_state_b1 o_t_state_b1 a_t_state_b2 o_t_state_b2 o1 o2 o3 o4 o5 o6 o7 hc9) [31, 32, 33, 34, 35, 36, 37, 38, 39, 40, 41, 42, 43, 44, 45, 46, 47, 48, 49, 50, 51, 52, 53, 54, 55, 56, 57, 58, 2, 3, 4, 5, 6, 7, 8, 9, 10, 11, 12, 13, 14, 15, 16, 17, 18, 19, 20, 21, 22, 23, 24, 25, 26, 27, 28, 29] [0, 1, 1028, 1029, 1030, 1031, 1032, 1033, 1034, 1035, 1036, 1037, 1038, 1039, 1040, 1041, 1042, 1043, 1044, 1045, 1046, 1047, 1048, 1049, 1050, 1051, 1052, 1053, 1054, 1055, 30, 1000, 1001, 1002, 1003, 1004, 1005, 1006, 1007, 1008, 1009, 1010, 1011, 1012, 1013, 1014, 1015, 1016, 1017, 1018, 1019, 1020, 1021, 1022, 1023, 1024, 1025, 1026, 1027] rfl (by decide) rfl (by decide) rfl rfl rfl rfl rfl rfl (Nat.le_of_ble_eq_true rfl) dX11_image_43 (by rw [hR]; exact ⟨Nat.le_of_ble_eq_true rfl, Nat.le_of_ble_eq_true rfl⟩) ?_
        refine z_ws (ws' := ((w_X11_image cA h_t a_t o_t a_t_state o_t_state a_t_state_wares o_t_state_wares a_t_state_shelf o_t_state_shelf a_t_state_log o_t_state_log a_t_state_b0 o_t_state_b0 a_t_state_b1 o_t_state_b1 a_t_state_b2 o_t_state_b2) ++ (kc cA (a_t 4) 2 hs :: (wSt cA qn u (v7 o1 o2 o3 o4 o5 o6 o7) ++ pl0)))) rfl ?_
        exact z_widen (Nat.le_of_ble_eq_true rfl) (Nat.le_of_ble_eq_true rfl) (KK _ (by rw [eP8]; exact hput _))
    · have hF := hF.2 c13
      refine z_iconst (v := (0 : Int32)) X dX11_image_9 (by decide) ?_
      cases hF
      exact z_zretT X hA hQ hr hpl (Or.inl rfl)  rfl dX11_image_10 (Nat.le_of_ble_eq_true rfl) (Nat.le_of_ble_eq_true rfl)
def f_X11_restore (o_t_state : Ob) (o_t_state_wares : Ob) (o_t_state_shelf : Ob) (o_t_state_log : Ob) (o_t_state_b0 : Ob) (o_t_state_b1 : Ob) (o_t_state_b2 : Ob) (o_t_history : Ob) (o_t_planner : Ob) (P : PV) (v1 : Int32) : Option (Ob × Ob × Ob × Ob × Ob × Ob × Ob × Ob × Ob × Int32) :=
  if v1 < 0 then (
  some (o_t_state, o_t_state_wares, o_t_state_shelf, o_t_state_log, o_t_state_b0, o_t_state_b1, o_t_state_b2, o_t_history, o_t_planner, (0 : Int32))
  ) else (
  if (2 : Int32) ≤ v1 then (
  some (o_t_state, o_t_state_wares, o_t_state_shelf, o_t_state_log, o_t_state_b0, o_t_state_b1, o_t_state_b2, o_t_history, o_t_planner, (0 : Int32))
  ) else (
  gi v1 2 <|
  zp (P (Int32.toNatClampNeg v1)) (
  some (o_t_state, o_t_state_wares, o_t_state_shelf, o_t_state_log, o_t_state_b0, o_t_state_b1, o_t_state_b2, o_t_history, o_t_planner, (0 : Int32))
  ) fun VV => (
  zb7 (f_X9_copyFrom o_t_state o_t_state_wares o_t_state_shelf o_t_state_log o_t_state_b0 o_t_state_b1 o_t_state_b2 (VV 0) (VV 1) (VV 2) (VV 3) (VV 4) (VV 5) (VV 6)) fun (o2 : Ob) (o3 : Ob) (o4 : Ob) (o5 : Ob) (o6 : Ob) (o7 : Ob) (o8 : Ob) =>
  zb1 (f_X3_forget o_t_history) fun (o10 : Ob) =>
  zb1 (f_X5_forget o_t_planner) fun (o12 : Ob) =>
  some (o2, o3, o4, o5, o6, o7, o8, o10, o12, (1 : Int32))
  )
  )
  )
set_option maxRecDepth 20000 in
theorem h_X11_restore_X11 : ∀ w ∈ wsX110, w ∈ wsX11_restore := by decide +kernel
set_option maxRecDepth 20000 in
theorem k_X11_restore_26 : ZF wsX11_restore RX11 26 11 2 RX11 TX11 15 := ⟨rfl, by decide, h_X11_restore_X11, by decide +kernel⟩
set_option maxRecDepth 20000 in
theorem k_X11_restore_33 : ZF wsX11_restore RX11 33 11 3 RX11 TX11 15 := ⟨rfl, by decide, h_X11_restore_X11, by decide +kernel⟩
set_option maxRecDepth 20000 in
theorem k_X11_restore_37 : ZF wsX11_restore RX11 37 11 4 RX11 TX11 15 := ⟨rfl, by decide, h_X11_restore_X11, by decide +kernel⟩
set_option maxRecDepth 20000 in
theorem k_X11_restore_67 : ZF wsX11_restore RX11 67 11 8 RX11 TX11 15 := ⟨rfl, by decide, h_X11_restore_X11, by decide +kernel⟩
set_option maxHeartbeats 8000000 in
set_option maxRecDepth 100000 in
theorem c_X11_restore (l : Launch) (D : va_G) (cA : Nat → ClassId) (g : Nat → Nat) (sz : Nat) (h_t : Nat) (a_t : Nat → Nat) (o_t : Ob) (a_t_state : Nat → Nat) (o_t_state : Ob) (a_t_state_wares : Nat → Nat) (o_t_state_wares : Ob) (a_t_state_shelf : Nat → Nat) (o_t_state_shelf : Ob) (a_t_state_log : Nat → Nat) (o_t_state_log : Ob) (a_t_state_b0 : Nat → Nat) (o_t_state_b0 : Ob) (a_t_state_b1 : Nat → Nat) (o_t_state_b1 : Ob) (a_t_state_b2 : Nat → Nat) (o_t_state_b2 : Ob) (a_t_history : Nat → Nat) (o_t_history : Ob) (a_t_planner : Nat → Nat) (o_t_planner : Ob) (pl : va_W) (P : PV) (v1 : Int32) (o_t_state' : Ob) (o_t_state_wares' : Ob) (o_t_state_shelf' : Ob) (o_t_state_log' : Ob) (o_t_state_b0' : Ob) (o_t_state_b1' : Ob) (o_t_state_b2' : Ob) (o_t_history' : Ob) (o_t_planner' : Ob) (rv : Int32) (hpl : Pool cA (a_t 4) 2 P pl) (hF : f_X11_restore o_t_state o_t_state_wares o_t_state_shelf o_t_state_log o_t_state_b0 o_t_state_b1 o_t_state_b2 o_t_history o_t_planner P v1 = some (o_t_state', o_t_state_wares', o_t_state_shelf', o_t_state_log', o_t_state_b0', o_t_state_b1', o_t_state_b2', o_t_history', o_t_planner', rv)) : Met l yX11_restore wsX11_restore ({ frames := 3, cells := 0, slots := 0, locals := 91 }) (va_Pc [.ref h_t, .int v1] (PreN D cA g sz ((w_X11_startAnew cA h_t a_t o_t a_t_state o_t_state a_t_state_wares o_t_state_wares a_t_state_shelf o_t_state_shelf a_t_state_log o_t_state_log a_t_state_b0 o_t_state_b0 a_t_state_b1 o_t_state_b1 a_t_state_b2 o_t_state_b2 a_t_history o_t_history a_t_planner o_t_planner) ++ pl))) (va_Qi (fun (r : Int32) (_ : va_W) => r = rv) (PostT D cA sz ((w_X11_startAnew cA h_t a_t o_t a_t_state o_t_state a_t_state_wares o_t_state_wares a_t_state_shelf o_t_state_shelf a_t_state_log o_t_state_log a_t_state_b0 o_t_state_b0 a_t_state_b1 o_t_state_b1 a_t_state_b2 o_t_state_b2 a_t_history o_t_history a_t_planner o_t_planner) ++ pl) (w_X11_startAnew cA h_t a_t o_t a_t_state o_t_state' a_t_state_wares o_t_state_wares' a_t_state_shelf o_t_state_shelf' a_t_state_log o_t_state_log' a_t_state_b0 o_t_state_b0' a_t_state_b1 o_t_state_b1' a_t_state_b2 o_t_state_b2' a_t_history o_t_history' a_t_planner o_t_planner') (Pool cA (a_t 4) 2 P)) (va_A ((w_X11_startAnew cA h_t a_t o_t a_t_state o_t_state a_t_state_wares o_t_state_wares a_t_state_shelf o_t_state_shelf a_t_state_log o_t_state_log a_t_state_b0 o_t_state_b0 a_t_state_b1 o_t_state_b1 a_t_state_b2 o_t_state_b2 a_t_history o_t_history a_t_planner o_t_planner) ++ pl) sz)) 0 0 (va_A ((w_X11_startAnew cA h_t a_t o_t a_t_state o_t_state a_t_state_wares o_t_state_wares a_t_state_shelf o_t_state_shelf a_t_state_log o_t_state_log a_t_state_b0 o_t_state_b0 a_t_state_b1 o_t_state_b1 a_t_state_b2 o_t_state_b2 a_t_history o_t_history a_t_planner o_t_planner) ++ pl) sz) := by
  refine z_startN (y := yX11_restore) (wsy := wsX11_restore) (av := [.ref h_t, .int v1]) (w0 := ((w_X11_startAnew cA h_t a_t o_t a_t_state o_t_state a_t_state_wares o_t_state_wares a_t_state_shelf o_t_state_shelf a_t_state_log o_t_state_log a_t_state_b0 o_t_state_b0 a_t_state_b1 o_t_state_b1 a_t_state_b2 o_t_state_b2 a_t_history o_t_history a_t_planner o_t_planner) ++ pl)) (cc := cX11_restore) (maxL := 2) (ret := (some .boolean)) (lv0 := [(0, .ref h_t), (1, .int v1)]) (Qc := fun sz => va_Qi (fun (r : Int32) (_ : va_W) => r = rv) (PostT D cA sz ((w_X11_startAnew cA h_t a_t o_t a_t_state o_t_state a_t_state_wares o_t_state_wares a_t_state_shelf o_t_state_shelf a_t_state_log o_t_state_log a_t_state_b0 o_t_state_b0 a_t_state_b1 o_t_state_b1 a_t_state_b2 o_t_state_b2 a_t_history o_t_history a_t_planner o_t_planner) ++ pl) (w_X11_startAnew cA h_t a_t o_t a_t_state o_t_state' a_t_state_wares o_t_state_wares' a_t_state_shelf o_t_state_shelf' a_t_state_log o_t_state_log' a_t_state_b0 o_t_state_b0' a_t_state_b1 o_t_state_b1' a_t_state_b2 o_t_state_b2' a_t_history o_t_history' a_t_planner o_t_planner') (Pool cA (a_t 4) 2 P)) (va_A ((w_X11_startAnew cA h_t a_t o_t a_t_state o_t_state a_t_state_wares o_t_state_wares a_t_state_shelf o_t_state_shelf a_t_state_log o_t_state_log a_t_state_b0 o_t_state_b0 a_t_state_b1 o_t_state_b1 a_t_state_b2 o_t_state_b2 a_t_history o_t_history a_t_planner o_t_planner) ++ pl) sz)) (free := fun sz => va_A ((w_X11_startAnew cA h_t a_t o_t a_t_state o_t_state a_t_state_wares o_t_state_wares a_t_state_shelf o_t_state_shelf a_t_state_log o_t_state_log a_t_state_b0 o_t_state_b0 a_t_state_b1 o_t_state_b1 a_t_state_b2 o_t_state_b2 a_t_history o_t_history a_t_planner o_t_planner) ++ pl) sz) (by decide) rfl rfl (Nat.le_of_ble_eq_true rfl) ?_
  intro p e R s m args below meth c A Q hR hA hQ X Y hr hin
  unfold f_X11_restore at hF
  refine z_iload_n X dX11_restore_0 rfl 1 rfl ?_
  have hF := if_e hF
  refine z_if_lt (tgt := 18) X dX11_restore_1 (by decide) (fun c15 => ?_) (fun c15 => ?_)
  · have hF := hF.1 c15
    refine z_iconst (v := (0 : Int32)) X dX11_restore_18 (by decide) ?_
    cases hF
    exact z_zretT X hA hQ hr hpl (Or.inl rfl)  rfl dX11_restore_19 (Nat.le_of_ble_eq_true rfl) (Nat.le_of_ble_eq_true rfl)
  · have hF := hF.2 c15
    refine z_iload_n X dX11_restore_4 rfl 1 rfl ?_
    refine z_iconst (v := (2 : Int32)) X dX11_restore_5 (by decide) ?_
    have hF := if_e hF
    refine z_icmp_ge (tgt := 18) X dX11_restore_6 (by decide) (fun c14 => ?_) (fun c14 => ?_)
    · have hF := hF.1 c14
      refine z_iconst (v := (0 : Int32)) X dX11_restore_18 (by decide) ?_
      cases hF
      exact z_zretT X hA hQ hr hpl (Or.inl rfl)  rfl dX11_restore_19 (Nat.le_of_ble_eq_true rfl) (Nat.le_of_ble_eq_true rfl)
    · have hF := hF.2 c14
      obtain ⟨g1, hF⟩ := gi_e hF
      have hlt : (Int32.toNatClampNeg v1) < 2 := Nat.not_le.mp fun h => g1 (Or.inr h)
      cases hPa : P (Int32.toNatClampNeg v1) with
      | none =>
        obtain ⟨hs, pl0, hn, hp, -, hself⟩ := hpl.none hlt hPa
        have hF := zp_e0 hPa hF
        refine z_perm (hp.append_left _) ?_
        refine z_aload_n X dX11_restore_9 rfl 0 rfl ?_
        refine z_get (v := .ref (a_t 4)) X k_X11_restore_37 0 rfl rfl dX11_restore_10 ?_
        refine z_iload_n X dX11_restore_13 rfl 1 rfl ?_
        refine z_aldS (r := none) X 37 rfl g1 hn dX11_restore_14 ?_
        refine z_ifnn0 X dX11_restore_15 ?_
        refine z_iconst (v := (0 : Int32)) X dX11_restore_18 (by decide) ?_
        cases hF
        exact z_zretT X hA hQ hr hself (Or.inl rfl)  rfl dX11_restore_19 (Nat.le_of_ble_eq_true rfl) (Nat.le_of_ble_eq_true rfl)
      | some VV =>
        obtain ⟨hs, qn, u, pl0, hn, hp, -, hself⟩ := hpl.some hlt hPa
        have hF := zp_e1 hPa hF
        refine z_perm (hp.append_left _) ?_
        refine z_aload_n X dX11_restore_9 rfl 0 rfl ?_
        refine z_get (v := .ref (a_t 4)) X k_X11_restore_37 0 rfl rfl dX11_restore_10 ?_
        refine z_iload_n X dX11_restore_13 rfl 1 rfl ?_
        refine z_aldS (r := some qn) X 37 rfl g1 hn dX11_restore_14 ?_
        refine z_ifnn1 (tgt := 20) X dX11_restore_15 (by decide) ?_
        refine z_aload_n X dX11_restore_20 rfl 0 rfl ?_
        refine z_get (v := .ref (a_t 2)) X k_X11_restore_26 0 rfl rfl dX11_restore_21 ?_
        refine z_aload_n X dX11_restore_24 rfl 0 rfl ?_
        refine z_get (v := .ref (a_t 4)) X k_X11_restore_37 0 rfl rfl dX11_restore_25 ?_
        refine z_iload_n X dX11_restore_28 rfl 1 rfl ?_
        refine z_aldS (r := some qn) X 37 rfl g1 hn dX11_restore_29 ?_
        obtain ⟨o2, o3, o4, o5, o6, o7, o8, hc9, hF⟩ := zb7_e hF
        refine z_ws (ws' := (((w_X11_startAnew cA h_t a_t o_t a_t_state o_t_state a_t_state_wares o_t_state_wares a_t_state_shelf o_t_state_shelf a_t_state_log o_t_state_log a_t_state_b0 o_t_state_b0 a_t_state_b1 o_t_state_b1 a_t_state_b2 o_t_state_b2 a_t_history o_t_history a_t_planner o_t_planner) ++ (kc cA (a_t 4) 2 hs :: wSt cA qn u VV)) ++ pl0)) rfl ?_
        refine z_VvT (As := [.ref qn]) (rest := []) (wc := (w_X9_copyFrom cA (a_t 2) a_t_state o_t_state a_t_state_wares o_t_state_wares a_t_state_shelf o_t_state_shelf a_t_state_log o_t_state_log a_t_state_b0 o_t_state_b0 a_t_state_b1 o_t_state_b1 a_t_state_b2 o_t_state_b2 qn (u 0) (VV 0) (u 1) (VV 1) (u 2) (VV 2) (u 3) (VV 3) (u 4) (VV 4) (u 5) (VV 5) (u 6) (VV 6))) (wc' := (w_X9_copyFrom cA (a_t 2) a_t_state o2 a_t_state_wares o3 a_t_state_shelf o4 a_t_state_log o5 a_t_state_b0 o6 a_t_state_b1 o7 a_t_state_b2 o8 qn (u 0) (VV 0) (u 1) (VV 1) (u 2) (VV 2) (u 3) (VV 3) (u 4) (VV 4) (u 5) (VV 5) (u 6) (VV 6))) (X0 := ((w_X11_startAnew cA h_t a_t o_t a_t_state o_t_state a_t_state_wares o_t_state_wares a_t_state_shelf o_t_state_shelf a_t_state_log o_t_state_log a_t_state_b0 o_t_state_b0 a_t_state_b1 o_t_state_b1 a_t_state_b2 o_t_state_b2 a_t_history o_t_history a_t_planner o_t_planner) ++ (kc cA (a_t 4) 2 hs :: wSt cA qn u VV))) (X1 := ((w_X11_startAnew cA h_t a_t o_t a_t_state o2 a_t_state_wares o3 a_t_state_shelf o4 a_t_state_log o5 a_t_state_b0 o6 a_t_state_b1 o7 a_t_state_b2 o8 a_t_history o_t_history a_t_planner o_t_planner) ++ (kc cA (a_t 4) 2 hs :: wSt cA qn u VV))) (pl := pl0) X (cwV 1 X.2.2.2.2.1 gX11_restore_X9_copyFrom rfl rfl rfl (by decide +kernel) (by rw [hR]; exact ⟨Nat.le_of_ble_eq_true rfl, Nat.le_of_ble_eq_true rfl⟩)) (fun sz => c_X9_copyFrom l D cA g sz (a_t 2) a_t_state o_t_state a_t_state_wares o_t_state_wares a_t_state_shelf o_t_state_shelf a_t_state_log o_t_state_log a_t_state_b0 o_t_state_b0 a_t_state_b1 o_t_state_b1 a_t_state_b2 o_t_state_b2 qn (u 0) (VV 0) (u 1) (VV 1) (u 2) (VV 2) (u 3) (VV 3) (u 4) (VV 4) (u 5) (VV 5) (u 6) (VV 6) o2 o3 o4 o5 o6 o7 o8 hc9) [2, 3, 4, 5, 6, 7, 8, 9, 10, 11, 12, 13, 14, 15, 16, 17, 18, 19, 20, 21, 22, 23, 24, 25, 26, 27, 28, 29, 38, 39, 40, 41, 42, 43, 44, 45, 46, 47, 48, 49, 50, 51, 52, 53, 54, 55, 56, 57, 58, 59, 60, 61, 62, 63, 64, 65] [0, 1, 1000, 1001, 1002, 1003, 1004, 1005, 1006, 1007, 1008, 1009, 1010, 1011, 1012, 1013, 1014, 1015, 1016, 1017, 1018, 1019, 1020, 1021, 1022, 1023, 1024, 1025, 1026, 1027, 30, 31, 32, 33, 34, 35, 36, 37, 1028, 1029, 1030, 1031, 1032, 1033, 1034, 1035, 1036, 1037, 1038, 1039, 1040, 1041, 1042, 1043, 1044, 1045, 1046, 1047, 1048, 1049, 1050, 1051, 1052, 1053, 1054, 1055] rfl (by decide) rfl (by decide) rfl rfl rfl rfl rfl rfl (Nat.le_of_ble_eq_true rfl) dX11_restore_30 (by rw [hR]; exact ⟨Nat.le_of_ble_eq_true rfl, Nat.le_of_ble_eq_true rfl⟩) ?_
        refine z_ws (ws' := ((w_X11_startAnew cA h_t a_t o_t a_t_state o2 a_t_state_wares o3 a_t_state_shelf o4 a_t_state_log o5 a_t_state_b0 o6 a_t_state_b1 o7 a_t_state_b2 o8 a_t_history o_t_history a_t_planner o_t_planner) ++ (kc cA (a_t 4) 2 hs :: (wSt cA qn u VV ++ pl0)))) rfl ?_
        refine z_aload_n X dX11_restore_33 rfl 0 rfl ?_
        refine z_get (v := .ref (a_t 3)) X k_X11_restore_33 0 rfl rfl dX11_restore_34 ?_
        obtain ⟨o10, hc11, hF⟩ := zb1_e hF
        refine z_VvT (As := []) (rest := []) (wc := (w_X3_place cA (a_t 3) a_t_history o_t_history)) (wc' := (w_X3_place cA (a_t 3) a_t_history o10)) (X1 := (w_X11_startAnew cA h_t a_t o_t a_t_state o2 a_t_state_wares o3 a_t_state_shelf o4 a_t_state_log o5 a_t_state_b0 o6 a_t_state_b1 o7 a_t_state_b2 o8 a_t_history o10 a_t_planner o_t_planner)) X (cwV 0 X.2.2.2.2.1 gX11_restore_X3_forget rfl rfl rfl (by decide +kernel) (by rw [hR]; exact ⟨Nat.le_of_ble_eq_true rfl, Nat.le_of_ble_eq_true rfl⟩)) (fun sz => c_X3_forget l D cA g sz (a_t 3) a_t_history o_t_history o10 hc11) [30] [0, 1, 2, 3, 4, 5, 6, 7, 8, 9, 10, 11, 12, 13, 14, 15, 16, 17, 18, 19, 20, 21, 22, 23, 24, 25, 26, 27, 28, 29, 1000, 31, 32, 33, 34, 35, 36] rfl (by decide) rfl (by decide) rfl rfl rfl rfl rfl rfl (Nat.le_of_ble_eq_true rfl) dX11_restore_37 (by rw [hR]; exact ⟨Nat.le_of_ble_eq_true rfl, Nat.le_of_ble_eq_true rfl⟩) ?_
        refine z_aload_n X dX11_restore_40 rfl 0 rfl ?_
        refine z_get (v := .ref (a_t 8)) X k_X11_restore_67 0 rfl rfl dX11_restore_41 ?_
        obtain ⟨o12, hc13, hF⟩ := zb1_e hF
        refine z_VvT (As := []) (rest := []) (wc := (w_X5_forget cA (a_t 8) a_t_planner 10496 o_t_planner)) (wc' := (w_X5_forget cA (a_t 8) a_t_planner 10496 o12)) (X1 := (w_X11_startAnew cA h_t a_t o_t a_t_state o2 a_t_state_wares o3 a_t_state_shelf o4 a_t_state_log o5 a_t_state_b0 o6 a_t_state_b1 o7 a_t_state_b2 o8 a_t_history o10 a_t_planner o12)) X (cwV 0 X.2.2.2.2.1 gX11_restore_X5_forget rfl rfl rfl (by decide +kernel) (by rw [hR]; exact ⟨Nat.le_of_ble_eq_true rfl, Nat.le_of_ble_eq_true rfl⟩)) (fun sz => c_X5_forget l D cA g sz (a_t 8) a_t_planner 10496 o_t_planner o12 hc13) [31, 32, 33, 34, 35, 36] [0, 1, 2, 3, 4, 5, 6, 7, 8, 9, 10, 11, 12, 13, 14, 15, 16, 17, 18, 19, 20, 21, 22, 23, 24, 25, 26, 27, 28, 29, 30, 1000, 1001, 1002, 1003, 1004, 1005] rfl (by decide) rfl (by decide) rfl rfl rfl rfl rfl rfl (Nat.le_of_ble_eq_true rfl) dX11_restore_44 (by rw [hR]; exact ⟨Nat.le_of_ble_eq_true rfl, Nat.le_of_ble_eq_true rfl⟩) ?_
        refine z_iconst (v := (1 : Int32)) X dX11_restore_47 (by decide) ?_
        cases hF
        exact z_zretT X hA hQ hr hself (Or.inr rfl)  rfl dX11_restore_48 (Nat.le_of_ble_eq_true rfl) (Nat.le_of_ble_eq_true rfl)
