set_option maxRecDepth 20000 in
theorem h_X11_room_X11 : ∀ w ∈ wsX110, w ∈ wsX11_room := by decide +kernel
set_option maxRecDepth 20000 in
theorem k_X11_room_26 : ZF wsX11_room RX11 26 11 2 RX11 TX11 15 := ⟨rfl, by decide, h_X11_room_X11, by decide +kernel⟩
set_option maxRecDepth 20000 in
theorem h_X11_room_X9 : ∀ w ∈ wsX90, w ∈ wsX11_room := by decide +kernel
set_option maxRecDepth 20000 in
theorem k_X11_room_160 : ZF wsX11_room RX11 160 9 1 RX9 TX9 7 := ⟨rfl, by decide, h_X11_room_X9, by decide +kernel⟩
set_option maxRecDepth 20000 in
theorem h_X11_room_X8 : ∀ w ∈ wsX80, w ∈ wsX11_room := by decide +kernel
set_option maxRecDepth 20000 in
theorem k_X11_room_163 : ZF wsX11_room RX11 163 8 0 RX8 TX8 7 := ⟨rfl, by decide, h_X11_room_X8, by decide +kernel⟩
set_option maxRecDepth 20000 in
theorem k_X11_room_164 : ZF wsX11_room RX11 164 8 1 RX8 TX8 7 := ⟨rfl, by decide, h_X11_room_X8, by decide +kernel⟩
set_option maxHeartbeats 8000000 in
set_option maxRecDepth 100000 in
theorem c_X11_room (l : Launch) (D : va_G) (cA : Nat → ClassId) (g : Nat → Nat) (sz : Nat) (h_t : Nat) (a_t : Nat → Nat) (o_t : Ob) (a_t_state : Nat → Nat) (o_t_state : Ob) (a_t_state_wares : Nat → Nat) (o_t_state_wares : Ob) (a_t_state_shelf : Nat → Nat) (o_t_state_shelf : Ob) (a_t_state_log : Nat → Nat) (o_t_state_log : Ob) (a_t_state_b0 : Nat → Nat) (o_t_state_b0 : Ob) (a_t_state_b1 : Nat → Nat) (o_t_state_b1 : Ob) (a_t_state_b2 : Nat → Nat) (o_t_state_b2 : Ob) (a_t_history : Nat → Nat) (o_t_history : Ob) (a_t_planner : Nat → Nat) (o_t_planner : Ob) (pl : va_W) (P : PV) (v1 : Int32) (o_t_state_shelf' : Ob) (o_t_state_log' : Ob) (o_t_history' : Ob) (o_t_planner' : Ob) (P' : PV) (rv : Int32) (hpl : Pool cA (a_t_history 0) 8 P pl) (hF : f_X11_room o_t_state o_t_state_wares o_t_state_shelf o_t_state_log o_t_state_b0 o_t_state_b1 o_t_state_b2 o_t_history o_t_planner P v1 = some (o_t_state_shelf', o_t_state_log', o_t_history', o_t_planner', P', rv)) : Met l yX11_room wsX11_room ({ frames := 5, cells := 28, slots := 823, locals := 136 }) (va_Pc [.ref h_t, .int v1] (PreN D cA g sz ((w_X11_startAnew cA h_t a_t o_t a_t_state o_t_state a_t_state_wares o_t_state_wares a_t_state_shelf o_t_state_shelf a_t_state_log o_t_state_log a_t_state_b0 o_t_state_b0 a_t_state_b1 o_t_state_b1 a_t_state_b2 o_t_state_b2 a_t_history o_t_history a_t_planner o_t_planner) ++ pl))) (va_Qi (fun (r : Int32) (_ : va_W) => r = rv) (PostT D cA sz ((w_X11_startAnew cA h_t a_t o_t a_t_state o_t_state a_t_state_wares o_t_state_wares a_t_state_shelf o_t_state_shelf a_t_state_log o_t_state_log a_t_state_b0 o_t_state_b0 a_t_state_b1 o_t_state_b1 a_t_state_b2 o_t_state_b2 a_t_history o_t_history a_t_planner o_t_planner) ++ pl) (w_X11_startAnew cA h_t a_t o_t a_t_state o_t_state a_t_state_wares o_t_state_wares a_t_state_shelf o_t_state_shelf' a_t_state_log o_t_state_log' a_t_state_b0 o_t_state_b0 a_t_state_b1 o_t_state_b1 a_t_state_b2 o_t_state_b2 a_t_history o_t_history' a_t_planner o_t_planner') (Pool cA (a_t_history 0) 8 P')) (va_A ((w_X11_startAnew cA h_t a_t o_t a_t_state o_t_state a_t_state_wares o_t_state_wares a_t_state_shelf o_t_state_shelf a_t_state_log o_t_state_log a_t_state_b0 o_t_state_b0 a_t_state_b1 o_t_state_b1 a_t_state_b2 o_t_state_b2 a_t_history o_t_history a_t_planner o_t_planner) ++ pl) sz)) 28 823 (va_A ((w_X11_startAnew cA h_t a_t o_t a_t_state o_t_state a_t_state_wares o_t_state_wares a_t_state_shelf o_t_state_shelf a_t_state_log o_t_state_log a_t_state_b0 o_t_state_b0 a_t_state_b1 o_t_state_b1 a_t_state_b2 o_t_state_b2 a_t_history o_t_history a_t_planner o_t_planner) ++ pl) sz) := by
  refine z_startN (y := yX11_room) (wsy := wsX11_room) (av := [.ref h_t, .int v1]) (w0 := ((w_X11_startAnew cA h_t a_t o_t a_t_state o_t_state a_t_state_wares o_t_state_wares a_t_state_shelf o_t_state_shelf a_t_state_log o_t_state_log a_t_state_b0 o_t_state_b0 a_t_state_b1 o_t_state_b1 a_t_state_b2 o_t_state_b2 a_t_history o_t_history a_t_planner o_t_planner) ++ pl)) (cc := cX11_room) (maxL := 2) (ret := (some .int)) (lv0 := [(0, .ref h_t), (1, .int v1)]) (Qc := fun sz => va_Qi (fun (r : Int32) (_ : va_W) => r = rv) (PostT D cA sz ((w_X11_startAnew cA h_t a_t o_t a_t_state o_t_state a_t_state_wares o_t_state_wares a_t_state_shelf o_t_state_shelf a_t_state_log o_t_state_log a_t_state_b0 o_t_state_b0 a_t_state_b1 o_t_state_b1 a_t_state_b2 o_t_state_b2 a_t_history o_t_history a_t_planner o_t_planner) ++ pl) (w_X11_startAnew cA h_t a_t o_t a_t_state o_t_state a_t_state_wares o_t_state_wares a_t_state_shelf o_t_state_shelf' a_t_state_log o_t_state_log' a_t_state_b0 o_t_state_b0 a_t_state_b1 o_t_state_b1 a_t_state_b2 o_t_state_b2 a_t_history o_t_history' a_t_planner o_t_planner') (Pool cA (a_t_history 0) 8 P')) (va_A ((w_X11_startAnew cA h_t a_t o_t a_t_state o_t_state a_t_state_wares o_t_state_wares a_t_state_shelf o_t_state_shelf a_t_state_log o_t_state_log a_t_state_b0 o_t_state_b0 a_t_state_b1 o_t_state_b1 a_t_state_b2 o_t_state_b2 a_t_history o_t_history a_t_planner o_t_planner) ++ pl) sz)) (free := fun sz => va_A ((w_X11_startAnew cA h_t a_t o_t a_t_state o_t_state a_t_state_wares o_t_state_wares a_t_state_shelf o_t_state_shelf a_t_state_log o_t_state_log a_t_state_b0 o_t_state_b0 a_t_state_b1 o_t_state_b1 a_t_state_b2 o_t_state_b2 a_t_history o_t_history a_t_planner o_t_planner) ++ pl) sz) (by decide) rfl rfl (Nat.le_of_ble_eq_true rfl) ?_
  intro p e R s m args below meth c A Q hR hA hQ X Y hr hin
  unfold f_X11_room at hF
  refine z_iload_n X dX11_room_0 rfl 1 rfl ?_
  refine z_iconst (v := (1 : Int32)) X dX11_room_1 (by decide) ?_
  have hF := if_e hF
  refine z_icmp_lt (tgt := 25) X dX11_room_2 (by decide) (fun c12 => ?_) (fun c12 => ?_)
  · have hF := hF.1 c12
    refine z_iconst (v := (-1 : Int32)) X dX11_room_25 (by decide) ?_
    cases hF
    exact z_iretT X hA hQ hr hpl rfl dX11_room_26 (Nat.le_of_ble_eq_true rfl) (Nat.le_of_ble_eq_true rfl)
  · have hF := hF.2 c12
    refine z_iload_n X dX11_room_5 rfl 1 rfl ?_
    refine z_bipush (v := (20 : Int32)) X dX11_room_6 (by decide) ?_
    have hF := if_e hF
    refine z_icmp_gt (tgt := 25) X dX11_room_8 (by decide) (fun c11 => ?_) (fun c11 => ?_)
    · have hF := hF.1 c11
      refine z_iconst (v := (-1 : Int32)) X dX11_room_25 (by decide) ?_
      cases hF
      exact z_iretT X hA hQ hr hpl rfl dX11_room_26 (Nat.le_of_ble_eq_true rfl) (Nat.le_of_ble_eq_true rfl)
    · have hF := hF.2 c11
      refine z_iload_n X dX11_room_11 rfl 1 rfl ?_
      refine z_aload_n X dX11_room_12 rfl 0 rfl ?_
      refine z_get (v := .ref (a_t 2)) X k_X11_room_26 0 rfl rfl dX11_room_13 ?_
      refine z_get (v := .ref (a_t_state 1)) X k_X11_room_160 2 rfl rfl dX11_room_16 ?_
      refine z_get (v := .int (o_t_state_shelf 0 0)) X k_X11_room_163 9 rfl rfl dX11_room_19 ?_
      have hF := if_e hF
      refine z_icmp_ne (tgt := 27) X dX11_room_22 (by decide) (fun c10 => ?_) (fun c10 => ?_)
      · have hF := hF.2 c10
        refine z_aload_n X dX11_room_27 rfl 0 rfl ?_
        refine z_iload_n X dX11_room_28 rfl 1 rfl ?_
        refine z_aload_n X dX11_room_29 rfl 0 rfl ?_
        refine z_get (v := .ref (a_t 2)) X k_X11_room_26 0 rfl rfl dX11_room_30 ?_
        refine z_get (v := .ref (a_t_state 1)) X k_X11_room_160 2 rfl rfl dX11_room_33 ?_
        refine z_get (v := .int (o_t_state_shelf 1 0)) X k_X11_room_164 9 rfl rfl dX11_room_36 ?_
        obtain ⟨o1, o2, o3, o4, P5, r6, hc7, hF⟩ := zb6_e hF
        refine z_Pi (As := [.int v1, .int (o_t_state_shelf 1 0)]) (rest := []) (wc := (w_X11_startAnew cA h_t a_t o_t a_t_state o_t_state a_t_state_wares o_t_state_wares a_t_state_shelf o_t_state_shelf a_t_state_log o_t_state_log a_t_state_b0 o_t_state_b0 a_t_state_b1 o_t_state_b1 a_t_state_b2 o_t_state_b2 a_t_history o_t_history a_t_planner o_t_planner)) (wc' := (w_X11_startAnew cA h_t a_t o_t a_t_state o_t_state a_t_state_wares o_t_state_wares a_t_state_shelf o1 a_t_state_log o2 a_t_state_b0 o_t_state_b0 a_t_state_b1 o_t_state_b1 a_t_state_b2 o_t_state_b2 a_t_history o3 a_t_planner o4)) (X1 := (w_X11_startAnew cA h_t a_t o_t a_t_state o_t_state a_t_state_wares o_t_state_wares a_t_state_shelf o1 a_t_state_log o2 a_t_state_b0 o_t_state_b0 a_t_state_b1 o_t_state_b1 a_t_state_b2 o_t_state_b2 a_t_history o3 a_t_planner o4)) (pl := pl) (rv := r6) (Pl := Pool cA (a_t_history 0) 8 P5) X Y (cwV 2 X.2.2.2.2.1 gX11_room_X11_startAnew rfl rfl rfl (by decide +kernel) (by rw [hR]; exact ⟨Nat.le_of_ble_eq_true rfl, Nat.le_of_ble_eq_true rfl⟩)) (fun sz => c_X11_startAnew l D cA g sz h_t a_t o_t a_t_state o_t_state a_t_state_wares o_t_state_wares a_t_state_shelf o_t_state_shelf a_t_state_log o_t_state_log a_t_state_b0 o_t_state_b0 a_t_state_b1 o_t_state_b1 a_t_state_b2 o_t_state_b2 a_t_history o_t_history a_t_planner o_t_planner pl P v1 (o_t_state_shelf 1 0) o1 o2 o3 o4 P5 r6 hpl hc7) [0, 1, 2, 3, 4, 5, 6, 7, 8, 9, 10, 11, 12, 13, 14, 15, 16, 17, 18, 19, 20, 21, 22, 23, 24, 25, 26, 27, 28, 29, 30, 31, 32, 33, 34, 35, 36] [1000, 1001, 1002, 1003, 1004, 1005, 1006, 1007, 1008, 1009, 1010, 1011, 1012, 1013, 1014, 1015, 1016, 1017, 1018, 1019, 1020, 1021, 1022, 1023, 1024, 1025, 1026, 1027, 1028, 1029, 1030, 1031, 1032, 1033, 1034, 1035, 1036] rfl (by decide) rfl (by decide) rfl rfl rfl rfl rfl rfl (Nat.le_of_ble_eq_true rfl) dX11_room_39 (by rw [hR]; exact ⟨Nat.le_of_ble_eq_true rfl, Nat.le_of_ble_eq_true rfl⟩) (fun pl8 hp9 => ?_)
        cases hF
        exact z_iretT X hA hQ hr hp9 rfl dX11_room_42 (Nat.le_of_ble_eq_true rfl) (Nat.le_of_ble_eq_true rfl)
      · have hF := hF.1 c10
        refine z_iconst (v := (-1 : Int32)) X dX11_room_25 (by decide) ?_
        cases hF
        exact z_iretT X hA hQ hr hpl rfl dX11_room_26 (Nat.le_of_ble_eq_true rfl) (Nat.le_of_ble_eq_true rfl)
set_option maxRecDepth 20000 in
theorem h_X11_rule_X11 : ∀ w ∈ wsX110, w ∈ wsX11_rule := by decide +kernel
set_option maxRecDepth 20000 in
theorem k_X11_rule_26 : ZF wsX11_rule RX11 26 11 2 RX11 TX11 15 := ⟨rfl, by decide, h_X11_rule_X11, by decide +kernel⟩
set_option maxRecDepth 20000 in
theorem h_X11_rule_X9 : ∀ w ∈ wsX90, w ∈ wsX11_rule := by decide +kernel
set_option maxRecDepth 20000 in
theorem k_X11_rule_160 : ZF wsX11_rule RX11 160 9 1 RX9 TX9 7 := ⟨rfl, by decide, h_X11_rule_X9, by decide +kernel⟩
set_option maxRecDepth 20000 in
theorem h_X11_rule_X8 : ∀ w ∈ wsX80, w ∈ wsX11_rule := by decide +kernel
set_option maxRecDepth 20000 in
theorem k_X11_rule_163 : ZF wsX11_rule RX11 163 8 0 RX8 TX8 7 := ⟨rfl, by decide, h_X11_rule_X8, by decide +kernel⟩
set_option maxRecDepth 20000 in
theorem k_X11_rule_164 : ZF wsX11_rule RX11 164 8 1 RX8 TX8 7 := ⟨rfl, by decide, h_X11_rule_X8, by decide +kernel⟩
set_option maxHeartbeats 8000000 in
set_option maxRecDepth 100000 in
theorem c_X11_rule (l : Launch) (D : va_G) (cA : Nat → ClassId) (g : Nat → Nat) (sz : Nat) (h_t : Nat) (a_t : Nat → Nat) (o_t : Ob) (a_t_state : Nat → Nat) (o_t_state : Ob) (a_t_state_wares : Nat → Nat) (o_t_state_wares : Ob) (a_t_state_shelf : Nat → Nat) (o_t_state_shelf : Ob) (a_t_state_log : Nat → Nat) (o_t_state_log : Ob) (a_t_state_b0 : Nat → Nat) (o_t_state_b0 : Ob) (a_t_state_b1 : Nat → Nat) (o_t_state_b1 : Ob) (a_t_state_b2 : Nat → Nat) (o_t_state_b2 : Ob) (a_t_history : Nat → Nat) (o_t_history : Ob) (a_t_planner : Nat → Nat) (o_t_planner : Ob) (pl : va_W) (P : PV) (v1 : Int32) (o_t_state_shelf' : Ob) (o_t_state_log' : Ob) (o_t_history' : Ob) (o_t_planner' : Ob) (P' : PV) (rv : Int32) (hpl : Pool cA (a_t_history 0) 8 P pl) (hF : f_X11_rule o_t_state o_t_state_wares o_t_state_shelf o_t_state_log o_t_state_b0 o_t_state_b1 o_t_state_b2 o_t_history o_t_planner P v1 = some (o_t_state_shelf', o_t_state_log', o_t_history', o_t_planner', P', rv)) : Met l yX11_rule wsX11_rule ({ frames := 5, cells := 28, slots := 823, locals := 136 }) (va_Pc [.ref h_t, .int v1] (PreN D cA g sz ((w_X11_startAnew cA h_t a_t o_t a_t_state o_t_state a_t_state_wares o_t_state_wares a_t_state_shelf o_t_state_shelf a_t_state_log o_t_state_log a_t_state_b0 o_t_state_b0 a_t_state_b1 o_t_state_b1 a_t_state_b2 o_t_state_b2 a_t_history o_t_history a_t_planner o_t_planner) ++ pl))) (va_Qi (fun (r : Int32) (_ : va_W) => r = rv) (PostT D cA sz ((w_X11_startAnew cA h_t a_t o_t a_t_state o_t_state a_t_state_wares o_t_state_wares a_t_state_shelf o_t_state_shelf a_t_state_log o_t_state_log a_t_state_b0 o_t_state_b0 a_t_state_b1 o_t_state_b1 a_t_state_b2 o_t_state_b2 a_t_history o_t_history a_t_planner o_t_planner) ++ pl) (w_X11_startAnew cA h_t a_t o_t a_t_state o_t_state a_t_state_wares o_t_state_wares a_t_state_shelf o_t_state_shelf' a_t_state_log o_t_state_log' a_t_state_b0 o_t_state_b0 a_t_state_b1 o_t_state_b1 a_t_state_b2 o_t_state_b2 a_t_history o_t_history' a_t_planner o_t_planner') (Pool cA (a_t_history 0) 8 P')) (va_A ((w_X11_startAnew cA h_t a_t o_t a_t_state o_t_state a_t_state_wares o_t_state_wares a_t_state_shelf o_t_state_shelf a_t_state_log o_t_state_log a_t_state_b0 o_t_state_b0 a_t_state_b1 o_t_state_b1 a_t_state_b2 o_t_state_b2 a_t_history o_t_history a_t_planner o_t_planner) ++ pl) sz)) 28 823 (va_A ((w_X11_startAnew cA h_t a_t o_t a_t_state o_t_state a_t_state_wares o_t_state_wares a_t_state_shelf o_t_state_shelf a_t_state_log o_t_state_log a_t_state_b0 o_t_state_b0 a_t_state_b1 o_t_state_b1 a_t_state_b2 o_t_state_b2 a_t_history o_t_history a_t_planner o_t_planner) ++ pl) sz) := by
  refine z_startN (y := yX11_rule) (wsy := wsX11_rule) (av := [.ref h_t, .int v1]) (w0 := ((w_X11_startAnew cA h_t a_t o_t a_t_state o_t_state a_t_state_wares o_t_state_wares a_t_state_shelf o_t_state_shelf a_t_state_log o_t_state_log a_t_state_b0 o_t_state_b0 a_t_state_b1 o_t_state_b1 a_t_state_b2 o_t_state_b2 a_t_history o_t_history a_t_planner o_t_planner) ++ pl)) (cc := cX11_rule) (maxL := 2) (ret := (some .int)) (lv0 := [(0, .ref h_t), (1, .int v1)]) (Qc := fun sz => va_Qi (fun (r : Int32) (_ : va_W) => r = rv) (PostT D cA sz ((w_X11_startAnew cA h_t a_t o_t a_t_state o_t_state a_t_state_wares o_t_state_wares a_t_state_shelf o_t_state_shelf a_t_state_log o_t_state_log a_t_state_b0 o_t_state_b0 a_t_state_b1 o_t_state_b1 a_t_state_b2 o_t_state_b2 a_t_history o_t_history a_t_planner o_t_planner) ++ pl) (w_X11_startAnew cA h_t a_t o_t a_t_state o_t_state a_t_state_wares o_t_state_wares a_t_state_shelf o_t_state_shelf' a_t_state_log o_t_state_log' a_t_state_b0 o_t_state_b0 a_t_state_b1 o_t_state_b1 a_t_state_b2 o_t_state_b2 a_t_history o_t_history' a_t_planner o_t_planner') (Pool cA (a_t_history 0) 8 P')) (va_A ((w_X11_startAnew cA h_t a_t o_t a_t_state o_t_state a_t_state_wares o_t_state_wares a_t_state_shelf o_t_state_shelf a_t_state_log o_t_state_log a_t_state_b0 o_t_state_b0 a_t_state_b1 o_t_state_b1 a_t_state_b2 o_t_state_b2 a_t_history o_t_history a_t_planner o_t_planner) ++ pl) sz)) (free := fun sz => va_A ((w_X11_startAnew cA h_t a_t o_t a_t_state o_t_state a_t_state_wares o_t_state_wares a_t_state_shelf o_t_state_shelf a_t_state_log o_t_state_log a_t_state_b0 o_t_state_b0 a_t_state_b1 o_t_state_b1 a_t_state_b2 o_t_state_b2 a_t_history o_t_history a_t_planner o_t_planner) ++ pl) sz) (by decide) rfl rfl (Nat.le_of_ble_eq_true rfl) ?_
  intro p e R s m args below meth c A Q hR hA hQ X Y hr hin
  unfold f_X11_rule at hF
  refine z_iload_n X dX11_rule_0 rfl 1 rfl ?_
  have hF := if_e hF
  refine z_if_lt (tgt := 23) X dX11_rule_1 (by decide) (fun c12 => ?_) (fun c12 => ?_)
  · have hF := hF.1 c12
    refine z_iconst (v := (-1 : Int32)) X dX11_rule_23 (by decide) ?_
    cases hF
    exact z_iretT X hA hQ hr hpl rfl dX11_rule_24 (Nat.le_of_ble_eq_true rfl) (Nat.le_of_ble_eq_true rfl)
  · have hF := hF.2 c12
    refine z_iload_n X dX11_rule_4 rfl 1 rfl ?_
    refine z_iconst (v := (2 : Int32)) X dX11_rule_5 (by decide) ?_
    have hF := if_e hF
    refine z_icmp_gt (tgt := 23) X dX11_rule_6 (by decide) (fun c11 => ?_) (fun c11 => ?_)
    · have hF := hF.1 c11
      refine z_iconst (v := (-1 : Int32)) X dX11_rule_23 (by decide) ?_
      cases hF
      exact z_iretT X hA hQ hr hpl rfl dX11_rule_24 (Nat.le_of_ble_eq_true rfl) (Nat.le_of_ble_eq_true rfl)
    · have hF := hF.2 c11
      refine z_iload_n X dX11_rule_9 rfl 1 rfl ?_
      refine z_aload_n X dX11_rule_10 rfl 0 rfl ?_
      refine z_get (v := .ref (a_t 2)) X k_X11_rule_26 0 rfl rfl dX11_rule_11 ?_
      refine z_get (v := .ref (a_t_state 1)) X k_X11_rule_160 2 rfl rfl dX11_rule_14 ?_
      refine z_get (v := .int (o_t_state_shelf 1 0)) X k_X11_rule_164 9 rfl rfl dX11_rule_17 ?_
      have hF := if_e hF
      refine z_icmp_ne (tgt := 25) X dX11_rule_20 (by decide) (fun c10 => ?_) (fun c10 => ?_)
      · have hF := hF.2 c10
        refine z_aload_n X dX11_rule_25 rfl 0 rfl ?_
        refine z_aload_n X dX11_rule_26 rfl 0 rfl ?_
        refine z_get (v := .ref (a_t 2)) X k_X11_rule_26 0 rfl rfl dX11_rule_27 ?_
        refine z_get (v := .ref (a_t_state 1)) X k_X11_rule_160 2 rfl rfl dX11_rule_30 ?_
        refine z_get (v := .int (o_t_state_shelf 0 0)) X k_X11_rule_163 9 rfl rfl dX11_rule_33 ?_
        refine z_iload_n X dX11_rule_36 rfl 1 rfl ?_
        obtain ⟨o1, o2, o3, o4, P5, r6, hc7, hF⟩ := zb6_e hF
        refine z_Pi (As := [.int (o_t_state_shelf 0 0), .int v1]) (rest := []) (wc := (w_X11_startAnew cA h_t a_t o_t a_t_state o_t_state a_t_state_wares o_t_state_wares a_t_state_shelf o_t_state_shelf a_t_state_log o_t_state_log a_t_state_b0 o_t_state_b0 a_t_state_b1 o_t_state_b1 a_t_state_b2 o_t_state_b2 a_t_history o_t_history a_t_planner o_t_planner)) (wc' := (w_X11_startAnew cA h_t a_t o_t a_t_state o_t_state a_t_state_wares o_t_state_wares a_t_state_shelf o1 a_t_state_log o2 a_t_state_b0 o_t_state_b0 a_t_state_b1 o_t_state_b1 a_t_state_b2 o_t_state_b2 a_t_history o3 a_t_planner o4)) (X1 := (w_X11_startAnew cA h_t a_t o_t a_t_state o_t_state a_t_state_wares o_t_state_wares a_t_state_shelf o1 a_t_state_log o2 a_t_state_b0 o_t_state_b0 a_t_state_b1 o_t_state_b1 a_t_state_b2 o_t_state_b2 a_t_history o3 a_t_planner o4)) (pl := pl) (rv := r6) (Pl := Pool cA (a_t_history 0) 8 P5) X Y (cwV 2 X.2.2.2.2.1 gX11_rule_X11_startAnew rfl rfl rfl (by decide +kernel) (by rw [hR]; exact ⟨Nat.le_of_ble_eq_true rfl, Nat.le_of_ble_eq_true rfl⟩)) (fun sz => c_X11_startAnew l D cA g sz h_t a_t o_t a_t_state o_t_state a_t_state_wares o_t_state_wares a_t_state_shelf o_t_state_shelf a_t_state_log o_t_state_log a_t_state_b0 o_t_state_b0 a_t_state_b1 o_t_state_b1 a_t_state_b2 o_t_state_b2 a_t_history o_t_history a_t_planner o_t_planner pl P (o_t_state_shelf 0 0) v1 o1 o2 o3 o4 P5 r6 hpl hc7) [0, 1, 2, 3, 4, 5, 6, 7, 8, 9, 10, 11, 12, 13, 14, 15, 16, 17, 18, 19, 20, 21, 22, 23, 24, 25, 26, 27, 28, 29, 30, 31, 32, 33, 34, 35, 36] [1000, 1001, 1002, 1003, 1004, 1005, 1006, 1007, 1008, 1009, 1010, 1011, 1012, 1013, 1014, 1015, 1016, 1017, 1018, 1019, 1020, 1021, 1022, 1023, 1024, 1025, 1026, 1027, 1028, 1029, 1030, 1031, 1032, 1033, 1034, 1035, 1036] rfl (by decide) rfl (by decide) rfl rfl rfl rfl rfl rfl (Nat.le_of_ble_eq_true rfl) dX11_rule_37 (by rw [hR]; exact ⟨Nat.le_of_ble_eq_true rfl, Nat.le_of_ble_eq_true rfl⟩) (fun pl8 hp9 => ?_)
        cases hF
        exact z_iretT X hA hQ hr hp9 rfl dX11_rule_40 (Nat.le_of_ble_eq_true rfl) (Nat.le_of_ble_eq_true rfl)
      · have hF := hF.1 c10
        refine z_iconst (v := (-1 : Int32)) X dX11_rule_23 (by decide) ?_
        cases hF
        exact z_iretT X hA hQ hr hpl rfl dX11_rule_24 (Nat.le_of_ble_eq_true rfl) (Nat.le_of_ble_eq_true rfl)
abbrev w_X11_request (cA : Nat → ClassId) (h_t : Nat) (a_t : Nat → Nat) (o_t : Ob) (a_t_state : Nat → Nat) (o_t_state : Ob) (a_t_state_wares : Nat → Nat) (o_t_state_wares : Ob) (a_t_state_shelf : Nat → Nat) (o_t_state_shelf : Ob) (a_t_state_log : Nat → Nat) (o_t_state_log : Ob) (a_t_state_b0 : Nat → Nat) (o_t_state_b0 : Ob) (a_t_state_b1 : Nat → Nat) (o_t_state_b1 : Ob) (a_t_state_b2 : Nat → Nat) (o_t_state_b2 : Ob) (a_t_history : Nat → Nat) (o_t_history : Ob) (a_t_gates : Nat → Nat) (o_t_gates : Ob) (a_t_deeds : Nat → Nat) (o_t_deeds : Ob) : va_W := [(h_t, .inr (11, [.ref (a_t 0), .ref (a_t 1), .ref (a_t 2), .ref (a_t 3), .ref (a_t 4), .ref (a_t 5), .ref (a_t 6), .ref (a_t 7), .ref (a_t 8), .ref (a_t 9), .ref (a_t 10), .ref (a_t 11), .ref (a_t 12), .int (o_t 13 0), .int (o_t 14 0)])), (a_t 12, .inl (cA 0, 20, .inl (o_t 12))), ((a_t 2), .inr (9, [.ref (a_t_state 0), .ref (a_t_state 1), .ref (a_t_state 2), .ref (a_t_state 3), .int (o_t_state 4 0), .int (o_t_state 5 0), .int (o_t_state 6 0)])), (a_t_state 3, .inl (cA 4, 3, .inr (.inr (.inr (.inr (bk (a_t_state 20) (a_t_state 21) (a_t_state 22))))))), ((a_t_state 0), .inr (10, [.int (o_t_state_wares 0 0), .ref (a_t_state_wares 1), .ref (a_t_state_wares 2), .ref (a_t_state_wares 3), .ref (a_t_state_wares 4)])), (a_t_state_wares 1, .inl (cA 0, 8, .inl (o_t_state_wares 1))), (a_t_state_wares 2, .inl (cA 0, 8, .inl (o_t_state_wares 2))), (a_t_state_wares 3, .inl (cA 0, 8, .inl (o_t_state_wares 3))), (a_t_state_wares 4, .inl (cA 0, 8, .inl (o_t_state_wares 4))), ((a_t_state 1), .inr (8, [.int (o_t_state_shelf 0 0), .int (o_t_state_shelf 1 0), .int (o_t_state_shelf 2 0), .int (o_t_state_shelf 3 0), .ref (a_t_state_shelf 4), .ref (a_t_state_shelf 5), .ref (a_t_state_shelf 6)])), (a_t_state_shelf 4, .inl (cA 0, 8, .inl (o_t_state_shelf 4))), (a_t_state_shelf 5, .inl (cA 0, 8, .inl (o_t_state_shelf 5))), (a_t_state_shelf 6, .inl (cA 1, 8, .inr (.inr (.inl (fun j => (o_t_state_shelf 6 j).toUInt32))))), ((a_t_state 2), .inr (4, [.int (o_t_state_log 0 0), .ref (a_t_state_log 1), .ref (a_t_state_log 2), .ref (a_t_state_log 3), .ref (a_t_state_log 4)])), (a_t_state_log 1, .inl (cA 0, 40, .inl (o_t_state_log 1))), (a_t_state_log 2, .inl (cA 0, 40, .inl (o_t_state_log 2))), (a_t_state_log 3, .inl (cA 0, 40, .inl (o_t_state_log 3))), (a_t_state_log 4, .inl (cA 0, 320, .inl (o_t_state_log 4))), ((a_t_state 20), .inr (0, [.int (o_t_state_b0 0 0), .int (o_t_state_b0 1 0), .int (o_t_state_b0 2 0), .int (o_t_state_b0 3 0), .int (o_t_state_b0 4 0), .int (o_t_state_b0 5 0), .int (o_t_state_b0 6 0), .ref (a_t_state_b0 7), .ref (a_t_state_b0 8), .ref (a_t_state_b0 9)])), (a_t_state_b0 7, .inl (cA 0, 30, .inl (o_t_state_b0 7))), (a_t_state_b0 8, .inl (cA 0, 30, .inl (o_t_state_b0 8))), (a_t_state_b0 9, .inl (cA 0, 30, .inl (o_t_state_b0 9))), ((a_t_state 21), .inr (0, [.int (o_t_state_b1 0 0), .int (o_t_state_b1 1 0), .int (o_t_state_b1 2 0), .int (o_t_state_b1 3 0), .int (o_t_state_b1 4 0), .int (o_t_state_b1 5 0), .int (o_t_state_b1 6 0), .ref (a_t_state_b1 7), .ref (a_t_state_b1 8), .ref (a_t_state_b1 9)])), (a_t_state_b1 7, .inl (cA 0, 30, .inl (o_t_state_b1 7))), (a_t_state_b1 8, .inl (cA 0, 30, .inl (o_t_state_b1 8))), (a_t_state_b1 9, .inl (cA 0, 30, .inl (o_t_state_b1 9))), ((a_t_state 22), .inr (0, [.int (o_t_state_b2 0 0), .int (o_t_state_b2 1 0), .int (o_t_state_b2 2 0), .int (o_t_state_b2 3 0), .int (o_t_state_b2 4 0), .int (o_t_state_b2 5 0), .int (o_t_state_b2 6 0), .ref (a_t_state_b2 7), .ref (a_t_state_b2 8), .ref (a_t_state_b2 9)])), (a_t_state_b2 7, .inl (cA 0, 30, .inl (o_t_state_b2 7))), (a_t_state_b2 8, .inl (cA 0, 30, .inl (o_t_state_b2 8))), (a_t_state_b2 9, .inl (cA 0, 30, .inl (o_t_state_b2 9))), ((a_t 3), .inr (3, [.ref (a_t_history 0), .int (o_t_history 1 0), .int (o_t_history 2 0)])), ((a_t 5), .inr (2, [.ref (a_t_gates 0), .int (o_t_gates 1 0), .int (o_t_gates 2 0)])), (a_t_gates 0, .inl (cA 0, 60, .inl (o_t_gates 0))), ((a_t 6), .inr (1, [.int (o_t_deeds 0 0), .ref (a_t_deeds 1), .ref (a_t_deeds 2), .ref (a_t_deeds 3)])), (a_t_deeds 1, .inl (cA 0, 9, .inl (o_t_deeds 1))), (a_t_deeds 2, .inl (cA 0, 9, .inl (o_t_deeds 2))), (a_t_deeds 3, .inl (cA 0, 9, .inl (o_t_deeds 3)))]
set_option maxRecDepth 20000 in
theorem h_X11_request_X11 : ∀ w ∈ wsX110, w ∈ wsX11_request := by decide +kernel
set_option maxRecDepth 20000 in
theorem k_X11_request_26 : ZF wsX11_request RX11 26 11 2 RX11 TX11 15 := ⟨rfl, by decide, h_X11_request_X11, by decide +kernel⟩
set_option maxRecDepth 20000 in
theorem k_X11_request_33 : ZF wsX11_request RX11 33 11 3 RX11 TX11 15 := ⟨rfl, by decide, h_X11_request_X11, by decide +kernel⟩
set_option maxRecDepth 20000 in
theorem k_X11_request_44 : ZF wsX11_request RX11 44 11 5 RX11 TX11 15 := ⟨rfl, by decide, h_X11_request_X11, by decide +kernel⟩
set_option maxRecDepth 20000 in
theorem k_X11_request_51 : ZF wsX11_request RX11 51 11 6 RX11 TX11 15 := ⟨rfl, by decide, h_X11_request_X11, by decide +kernel⟩
set_option maxRecDepth 20000 in
theorem h_X11_request_X9 : ∀ w ∈ wsX90, w ∈ wsX11_request := by decide +kernel
set_option maxRecDepth 20000 in
theorem k_X11_request_127 : ZF wsX11_request RX11 127 9 0 RX9 TX9 7 := ⟨rfl, by decide, h_X11_request_X9, by decide +kernel⟩
set_option maxRecDepth 20000 in
theorem k_X11_request_143 : ZF wsX11_request RX11 143 9 2 RX9 TX9 7 := ⟨rfl, by decide, h_X11_request_X9, by decide +kernel⟩
set_option maxHeartbeats 8000000 in
set_option maxRecDepth 100000 in
theorem c_X11_request (l : Launch) (D : va_G) (cA : Nat → ClassId) (g : Nat → Nat) (sz : Nat) (h_t : Nat) (a_t : Nat → Nat) (o_t : Ob) (a_t_state : Nat → Nat) (o_t_state : Ob) (a_t_state_wares : Nat → Nat) (o_t_state_wares : Ob) (a_t_state_shelf : Nat → Nat) (o_t_state_shelf : Ob) (a_t_state_log : Nat → Nat) (o_t_state_log : Ob) (a_t_state_b0 : Nat → Nat) (o_t_state_b0 : Ob) (a_t_state_b1 : Nat → Nat) (o_t_state_b1 : Ob) (a_t_state_b2 : Nat → Nat) (o_t_state_b2 : Ob) (a_t_history : Nat → Nat) (o_t_history : Ob) (a_t_gates : Nat → Nat) (o_t_gates : Ob) (a_t_deeds : Nat → Nat) (o_t_deeds : Ob) (pl : va_W) (P : PV) (v1 : Int32) (o_t_state' : Ob) (o_t_state_shelf' : Ob) (o_t_state_log' : Ob) (o_t_state_b0' : Ob) (o_t_state_b1' : Ob) (o_t_state_b2' : Ob) (o_t_history' : Ob) (o_t_gates' : Ob) (o_t_deeds' : Ob) (P' : PV) (rv : Int32) (hpl : Pool cA (a_t_history 0) 8 P pl) (hF : f_X11_request o_t_state o_t_state_wares o_t_state_shelf o_t_state_log o_t_state_b0 o_t_state_b1 o_t_state_b2 o_t_history o_t_gates o_t_deeds P v1 = some (o_t_state', o_t_state_shelf', o_t_state_log', o_t_state_b0', o_t_state_b1', o_t_state_b2', o_t_history', o_t_gates', o_t_deeds', P', rv)) : Met l yX11_request wsX11_request ({ frames := 5, cells := 28, slots := 823, locals := 120 }) (va_Pc [.ref h_t, .int v1] (PreN D cA g sz ((w_X11_request cA h_t a_t o_t a_t_state o_t_state a_t_state_wares o_t_state_wares a_t_state_shelf o_t_state_shelf a_t_state_log o_t_state_log a_t_state_b0 o_t_state_b0 a_t_state_b1 o_t_state_b1 a_t_state_b2 o_t_state_b2 a_t_history o_t_history a_t_gates o_t_gates a_t_deeds o_t_deeds) ++ pl))) (va_Qi (fun (r : Int32) (_ : va_W) => r = rv) (PostT D cA sz ((w_X11_request cA h_t a_t o_t a_t_state o_t_state a_t_state_wares o_t_state_wares a_t_state_shelf o_t_state_shelf a_t_state_log o_t_state_log a_t_state_b0 o_t_state_b0 a_t_state_b1 o_t_state_b1 a_t_state_b2 o_t_state_b2 a_t_history o_t_history a_t_gates o_t_gates a_t_deeds o_t_deeds) ++ pl) (w_X11_request cA h_t a_t o_t a_t_state o_t_state' a_t_state_wares o_t_state_wares a_t_state_shelf o_t_state_shelf' a_t_state_log o_t_state_log' a_t_state_b0 o_t_state_b0' a_t_state_b1 o_t_state_b1' a_t_state_b2 o_t_state_b2' a_t_history o_t_history' a_t_gates o_t_gates' a_t_deeds o_t_deeds') (Pool cA (a_t_history 0) 8 P')) (va_A ((w_X11_request cA h_t a_t o_t a_t_state o_t_state a_t_state_wares o_t_state_wares a_t_state_shelf o_t_state_shelf a_t_state_log o_t_state_log a_t_state_b0 o_t_state_b0 a_t_state_b1 o_t_state_b1 a_t_state_b2 o_t_state_b2 a_t_history o_t_history a_t_gates o_t_gates a_t_deeds o_t_deeds) ++ pl) sz)) 28 823 (va_A ((w_X11_request cA h_t a_t o_t a_t_state o_t_state a_t_state_wares o_t_state_wares a_t_state_shelf o_t_state_shelf a_t_state_log o_t_state_log a_t_state_b0 o_t_state_b0 a_t_state_b1 o_t_state_b1 a_t_state_b2 o_t_state_b2 a_t_history o_t_history a_t_gates o_t_gates a_t_deeds o_t_deeds) ++ pl) sz) := by
  refine z_startN (y := yX11_request) (wsy := wsX11_request) (av := [.ref h_t, .int v1]) (w0 := ((w_X11_request cA h_t a_t o_t a_t_state o_t_state a_t_state_wares o_t_state_wares a_t_state_shelf o_t_state_shelf a_t_state_log o_t_state_log a_t_state_b0 o_t_state_b0 a_t_state_b1 o_t_state_b1 a_t_state_b2 o_t_state_b2 a_t_history o_t_history a_t_gates o_t_gates a_t_deeds o_t_deeds) ++ pl)) (cc := cX11_request) (maxL := 2) (ret := (some .int)) (lv0 := [(0, .ref h_t), (1, .int v1)]) (Qc := fun sz => va_Qi (fun (r : Int32) (_ : va_W) => r = rv) (PostT D cA sz ((w_X11_request cA h_t a_t o_t a_t_state o_t_state a_t_state_wares o_t_state_wares a_t_state_shelf o_t_state_shelf a_t_state_log o_t_state_log a_t_state_b0 o_t_state_b0 a_t_state_b1 o_t_state_b1 a_t_state_b2 o_t_state_b2 a_t_history o_t_history a_t_gates o_t_gates a_t_deeds o_t_deeds) ++ pl) (w_X11_request cA h_t a_t o_t a_t_state o_t_state' a_t_state_wares o_t_state_wares a_t_state_shelf o_t_state_shelf' a_t_state_log o_t_state_log' a_t_state_b0 o_t_state_b0' a_t_state_b1 o_t_state_b1' a_t_state_b2 o_t_state_b2' a_t_history o_t_history' a_t_gates o_t_gates' a_t_deeds o_t_deeds') (Pool cA (a_t_history 0) 8 P')) (va_A ((w_X11_request cA h_t a_t o_t a_t_state o_t_state a_t_state_wares o_t_state_wares a_t_state_shelf o_t_state_shelf a_t_state_log o_t_state_log a_t_state_b0 o_t_state_b0 a_t_state_b1 o_t_state_b1 a_t_state_b2 o_t_state_b2 a_t_history o_t_history a_t_gates o_t_gates a_t_deeds o_t_deeds) ++ pl) sz)) (free := fun sz => va_A ((w_X11_request cA h_t a_t o_t a_t_state o_t_state a_t_state_wares o_t_state_wares a_t_state_shelf o_t_state_shelf a_t_state_log o_t_state_log a_t_state_b0 o_t_state_b0 a_t_state_b1 o_t_state_b1 a_t_state_b2 o_t_state_b2 a_t_history o_t_history a_t_gates o_t_gates a_t_deeds o_t_deeds) ++ pl) sz) (by decide) rfl rfl (Nat.le_of_ble_eq_true rfl) ?_
  intro p e R s m args below meth c A Q hR hA hQ X Y hr hin
  unfold f_X11_request at hF
  refine z_aload_n X dX11_request_0 rfl 0 rfl ?_
  refine z_get (v := .ref (a_t 2)) X k_X11_request_26 0 rfl rfl dX11_request_1 ?_
  refine z_get (v := .ref (a_t_state 0)) X k_X11_request_127 2 rfl rfl dX11_request_4 ?_
  refine z_iload_n X dX11_request_7 rfl 1 rfl ?_
  obtain ⟨r1, hc2, hF⟩ := zb1_e hF
  refine z_ViT (As := [.int v1]) (rest := []) (wc := (w_X10_numberOf cA (a_t_state 0) a_t_state_wares o_t_state_wares)) (wc' := (w_X10_numberOf cA (a_t_state 0) a_t_state_wares o_t_state_wares)) (X1 := (w_X11_request cA h_t a_t o_t a_t_state o_t_state a_t_state_wares o_t_state_wares a_t_state_shelf o_t_state_shelf a_t_state_log o_t_state_log a_t_state_b0 o_t_state_b0 a_t_state_b1 o_t_state_b1 a_t_state_b2 o_t_state_b2 a_t_history o_t_history a_t_gates o_t_gates a_t_deeds o_t_deeds)) (rv := r1) X (cwV 1 X.2.2.2.2.1 gX11_request_X10_has rfl rfl rfl (by decide +kernel) (by rw [hR]; exact ⟨Nat.le_of_ble_eq_true rfl, Nat.le_of_ble_eq_true rfl⟩)) (fun sz => c_X10_has l D cA g sz (a_t_state 0) a_t_state_wares o_t_state_wares v1 r1 hc2) [4, 5, 6, 7, 8] [0, 1, 2, 3, 1000, 1001, 1002, 1003, 1004, 9, 10, 11, 12, 13, 14, 15, 16, 17, 18, 19, 20, 21, 22, 23, 24, 25, 26, 27, 28, 29, 30, 31, 32, 33, 34, 35, 36] rfl (by decide) rfl (by decide) rfl rfl rfl rfl rfl rfl (Nat.le_of_ble_eq_true rfl) dX11_request_8 (by rw [hR]; exact ⟨Nat.le_of_ble_eq_true rfl, Nat.le_of_ble_eq_true rfl⟩) ?_
  have hF := if_e hF
  refine z_if_ne (tgt := 17) X dX11_request_11 (by decide) (fun c23 => ?_) (fun c23 => ?_)
  · have hF := hF.2 c23
    refine z_aload_n X dX11_request_17 rfl 0 rfl ?_
    refine z_get (v := .ref (a_t 2)) X k_X11_request_26 0 rfl rfl dX11_request_18 ?_
    refine z_get (v := .ref (a_t_state 2)) X k_X11_request_143 2 rfl rfl dX11_request_21 ?_
    obtain ⟨r3, hc4, hF⟩ := zb1_e hF
    refine z_ViT (As := []) (rest := []) (wc := (w_X4_has cA (a_t_state 2) a_t_state_log o_t_state_log)) (wc' := (w_X4_has cA (a_t_state 2) a_t_state_log o_t_state_log)) (X1 := (w_X11_request cA h_t a_t o_t a_t_state o_t_state a_t_state_wares o_t_state_wares a_t_state_shelf o_t_state_shelf a_t_state_log o_t_state_log a_t_state_b0 o_t_state_b0 a_t_state_b1 o_t_state_b1 a_t_state_b2 o_t_state_b2 a_t_history o_t_history a_t_gates o_t_gates a_t_deeds o_t_deeds)) (rv := r3) X (cwV 0 X.2.2.2.2.1 gX11_request_X4_isFull rfl rfl rfl (by decide +kernel) (by rw [hR]; exact ⟨Nat.le_of_ble_eq_true rfl, Nat.le_of_ble_eq_true rfl⟩)) (fun sz => c_X4_isFull l D cA g sz (a_t_state 2) a_t_state_log o_t_state_log r3 hc4) [13, 14, 15, 16, 17] [0, 1, 2, 3, 4, 5, 6, 7, 8, 9, 10, 11, 12, 1000, 1001, 1002, 1003, 1004, 18, 19, 20, 21, 22, 23, 24, 25, 26, 27, 28, 29, 30, 31, 32, 33, 34, 35, 36] rfl (by decide) rfl (by decide) rfl rfl rfl rfl rfl rfl (Nat.le_of_ble_eq_true rfl) dX11_request_24 (by rw [hR]; exact ⟨Nat.le_of_ble_eq_true rfl, Nat.le_of_ble_eq_true rfl⟩) ?_
    have hF := if_e hF
    refine z_if_eq (tgt := 33) X dX11_request_27 (by decide) (fun c22 => ?_) (fun c22 => ?_)
    · have hF := hF.1 c22
      refine z_aload_n X dX11_request_33 rfl 0 rfl ?_
      refine z_get (v := .ref (a_t 3)) X k_X11_request_33 0 rfl rfl dX11_request_34 ?_
      refine z_aload_n X dX11_request_37 rfl 0 rfl ?_
      refine z_get (v := .ref (a_t 2)) X k_X11_request_26 0 rfl rfl dX11_request_38 ?_
      obtain ⟨o5, P6, hc7, hF⟩ := zb2_e hF
      refine z_Pv (As := [.ref (a_t 2)]) (rest := []) (wc := (w_X3_keep cA (a_t 3) a_t_history o_t_history (a_t 2) a_t_state o_t_state a_t_state_wares o_t_state_wares a_t_state_shelf o_t_state_shelf a_t_state_log o_t_state_log a_t_state_b0 o_t_state_b0 a_t_state_b1 o_t_state_b1 a_t_state_b2 o_t_state_b2)) (wc' := (w_X3_keep cA (a_t 3) a_t_history o5 (a_t 2) a_t_state o_t_state a_t_state_wares o_t_state_wares a_t_state_shelf o_t_state_shelf a_t_state_log o_t_state_log a_t_state_b0 o_t_state_b0 a_t_state_b1 o_t_state_b1 a_t_state_b2 o_t_state_b2)) (X1 := (w_X11_request cA h_t a_t o_t a_t_state o_t_state a_t_state_wares o_t_state_wares a_t_state_shelf o_t_state_shelf a_t_state_log o_t_state_log a_t_state_b0 o_t_state_b0 a_t_state_b1 o_t_state_b1 a_t_state_b2 o_t_state_b2 a_t_history o5 a_t_gates o_t_gates a_t_deeds o_t_deeds)) (pl := pl) (Pl := Pool cA (a_t_history 0) 8 P6) X Y (cwV 1 X.2.2.2.2.1 gX11_request_X3_keep rfl rfl rfl (by decide +kernel) (by rw [hR]; exact ⟨Nat.le_of_ble_eq_true rfl, Nat.le_of_ble_eq_true rfl⟩)) (fun sz => c_X3_keep l D cA g sz (a_t 3) a_t_history o_t_history (a_t 2) a_t_state o_t_state a_t_state_wares o_t_state_wares a_t_state_shelf o_t_state_shelf a_t_state_log o_t_state_log a_t_state_b0 o_t_state_b0 a_t_state_b1 o_t_state_b1 a_t_state_b2 o_t_state_b2 pl P  o5 P6 hpl hc7) [30, 2, 3, 4, 5, 6, 7, 8, 9, 10, 11, 12, 13, 14, 15, 16, 17, 18, 19, 20, 21, 22, 23, 24, 25, 26, 27, 28, 29] [0, 1, 1001, 1002, 1003, 1004, 1005, 1006, 1007, 1008, 1009, 1010, 1011, 1012, 1013, 1014, 1015, 1016, 1017, 1018, 1019, 1020, 1021, 1022, 1023, 1024, 1025, 1026, 1027, 1028, 1000, 31, 32, 33, 34, 35, 36] rfl (by decide) rfl (by decide) rfl rfl rfl rfl rfl rfl (Nat.le_of_ble_eq_true rfl) dX11_request_41 (by rw [hR]; exact ⟨Nat.le_of_ble_eq_true rfl, Nat.le_of_ble_eq_true rfl⟩) (fun pl8 hp9 => ?_)
      refine z_aload_n X dX11_request_44 rfl 0 rfl ?_
      refine z_get (v := .ref (a_t 5)) X k_X11_request_44 0 rfl rfl dX11_request_45 ?_
      obtain ⟨o10, hc11, hF⟩ := zb1_e hF
      refine z_VvT (As := []) (rest := []) (wc := (w_X2_newCall cA (a_t 5) a_t_gates o_t_gates)) (wc' := (w_X2_newCall cA (a_t 5) a_t_gates o10)) (X1 := (w_X11_request cA h_t a_t o_t a_t_state o_t_state a_t_state_wares o_t_state_wares a_t_state_shelf o_t_state_shelf a_t_state_log o_t_state_log a_t_state_b0 o_t_state_b0 a_t_state_b1 o_t_state_b1 a_t_state_b2 o_t_state_b2 a_t_history o5 a_t_gates o10 a_t_deeds o_t_deeds)) X (cwV 0 X.2.2.2.2.1 gX11_request_X2_newCall rfl rfl rfl (by decide +kernel) (by rw [hR]; exact ⟨Nat.le_of_ble_eq_true rfl, Nat.le_of_ble_eq_true rfl⟩)) (fun sz => c_X2_newCall l D cA g sz (a_t 5) a_t_gates o_t_gates o10 hc11) [31, 32] [0, 1, 2, 3, 4, 5, 6, 7, 8, 9, 10, 11, 12, 13, 14, 15, 16, 17, 18, 19, 20, 21, 22, 23, 24, 25, 26, 27, 28, 29, 30, 1000, 1001, 33, 34, 35, 36] rfl (by decide) rfl (by decide) rfl rfl rfl rfl rfl rfl (Nat.le_of_ble_eq_true rfl) dX11_request_48 (by rw [hR]; exact ⟨Nat.le_of_ble_eq_true rfl, Nat.le_of_ble_eq_true rfl⟩) ?_
      refine z_aload_n X dX11_request_51 rfl 0 rfl ?_
      refine z_get (v := .ref (a_t 2)) X k_X11_request_26 0 rfl rfl dX11_request_52 ?_
      refine z_iload_n X dX11_request_55 rfl 1 rfl ?_
      refine z_aload_n X dX11_request_56 rfl 0 rfl ?_
      refine z_get (v := .ref (a_t 6)) X k_X11_request_51 0 rfl rfl dX11_request_57 ?_
      refine z_aload_n X dX11_request_60 rfl 0 rfl ?_
      refine z_get (v := .ref (a_t 5)) X k_X11_request_44 0 rfl rfl dX11_request_61 ?_
      obtain ⟨o12, o13, o14, o15, o16, o17, o18, o19, r20, hc21, hF⟩ := zb9_e hF
      refine z_ViT (As := [.int v1, .ref (a_t 6), .ref (a_t 5)]) (rest := []) (wc := (w_X9_ask cA (a_t 2) a_t_state o_t_state a_t_state_wares o_t_state_wares a_t_state_shelf o_t_state_shelf a_t_state_log o_t_state_log a_t_state_b0 o_t_state_b0 a_t_state_b1 o_t_state_b1 a_t_state_b2 o_t_state_b2 (a_t 6) a_t_deeds o_t_deeds (a_t 5) a_t_gates o10)) (wc' := (w_X9_ask cA (a_t 2) a_t_state o12 a_t_state_wares o_t_state_wares a_t_state_shelf o13 a_t_state_log o14 a_t_state_b0 o15 a_t_state_b1 o16 a_t_state_b2 o17 (a_t 6) a_t_deeds o18 (a_t 5) a_t_gates o19)) (X1 := (w_X11_request cA h_t a_t o_t a_t_state o12 a_t_state_wares o_t_state_wares a_t_state_shelf o13 a_t_state_log o14 a_t_state_b0 o15 a_t_state_b1 o16 a_t_state_b2 o17 a_t_history o5 a_t_gates o19 a_t_deeds o18)) (rv := r20) X (cwV 3 X.2.2.2.2.1 gX11_request_X9_ask rfl rfl rfl (by decide +kernel) (by rw [hR]; exact ⟨Nat.le_of_ble_eq_true rfl, Nat.le_of_ble_eq_true rfl⟩)) (fun sz => c_X9_ask l D cA g sz (a_t 2) a_t_state o_t_state a_t_state_wares o_t_state_wares a_t_state_shelf o_t_state_shelf a_t_state_log o_t_state_log a_t_state_b0 o_t_state_b0 a_t_state_b1 o_t_state_b1 a_t_state_b2 o_t_state_b2 (a_t 6) a_t_deeds o_t_deeds (a_t 5) a_t_gates o10 v1 o12 o13 o14 o15 o16 o17 o18 o19 r20 hc21) [2, 3, 4, 5, 6, 7, 8, 9, 10, 11, 12, 13, 14, 15, 16, 17, 18, 19, 20, 21, 22, 23, 24, 25, 26, 27, 28, 29, 33, 34, 35, 36, 31, 32] [0, 1, 1000, 1001, 1002, 1003, 1004, 1005, 1006, 1007, 1008, 1009, 1010, 1011, 1012, 1013, 1014, 1015, 1016, 1017, 1018, 1019, 1020, 1021, 1022, 1023, 1024, 1025, 1026, 1027, 30, 1032, 1033, 1028, 1029, 1030, 1031] rfl (by decide) rfl (by decide) rfl rfl rfl rfl rfl rfl (Nat.le_of_ble_eq_true rfl) dX11_request_64 (by rw [hR]; exact ⟨Nat.le_of_ble_eq_true rfl, Nat.le_of_ble_eq_true rfl⟩) ?_
      cases hF
      exact z_iretT X hA hQ hr hp9 rfl dX11_request_67 (Nat.le_of_ble_eq_true rfl) (Nat.le_of_ble_eq_true rfl)
    · have hF := hF.2 c22
      refine z_bipush (v := (-3 : Int32)) X dX11_request_30 (by decide) ?_
      cases hF
      exact z_iretT X hA hQ hr hpl rfl dX11_request_32 (Nat.le_of_ble_eq_true rfl) (Nat.le_of_ble_eq_true rfl)
  · have hF := hF.1 c23
    refine z_bipush (v := (-2 : Int32)) X dX11_request_14 (by decide) ?_
    cases hF
    exact z_iretT X hA hQ hr hpl rfl dX11_request_16 (Nat.le_of_ble_eq_true rfl) (Nat.le_of_ble_eq_true rfl)
abbrev w_X11_names (cA : Nat → ClassId) (h_t : Nat) (a_t : Nat → Nat) (o_t : Ob) (a_t_reader : Nat → Nat) (o_t_reader : Ob) (a_t_state : Nat → Nat) (o_t_state : Ob) (a_t_state_wares : Nat → Nat) (o_t_state_wares : Ob) (a_t_state_shelf : Nat → Nat) (o_t_state_shelf : Ob) (a_t_state_log : Nat → Nat) (o_t_state_log : Ob) (a_t_state_b0 : Nat → Nat) (o_t_state_b0 : Ob) (a_t_state_b1 : Nat → Nat) (o_t_state_b1 : Ob) (a_t_state_b2 : Nat → Nat) (o_t_state_b2 : Ob) (a_t_history : Nat → Nat) (o_t_history : Ob) (a_t_gates : Nat → Nat) (o_t_gates : Ob) (a_t_deeds : Nat → Nat) (o_t_deeds : Ob) : va_W := [(h_t, .inr (11, [.ref (a_t 0), .ref (a_t 1), .ref (a_t 2), .ref (a_t 3), .ref (a_t 4), .ref (a_t 5), .ref (a_t 6), .ref (a_t 7), .ref (a_t 8), .ref (a_t 9), .ref (a_t 10), .ref (a_t 11), .ref (a_t 12), .int (o_t 13 0), .int (o_t 14 0)])), (a_t 12, .inl (cA 0, 20, .inl (o_t 12))), ((a_t 0), .inr (6, [.ref (a_t_reader 0), .int (o_t_reader 1 0), .int (o_t_reader 2 0), .int (o_t_reader 3 0), .int (o_t_reader 4 0), .int (o_t_reader 5 0), .int (o_t_reader 6 0), .int (o_t_reader 7 0), .ref (a_t_reader 8), .int (o_t_reader 9 0), .int (o_t_reader 10 0), .ref (a_t_reader 11), .ref (a_t_reader 12), .int (o_t_reader 13 0), .int (o_t_reader 14 0), .int (o_t_reader 15 0), .int (o_t_reader 16 0)])), (a_t_reader 0, .inl (cA 0, 440, .inl (o_t_reader 0))), (a_t_reader 8, .inl (cA 0, 40, .inl (o_t_reader 8))), (a_t_reader 11, .inl (cA 0, 2, .inl (o_t_reader 11))), (a_t_reader 12, .inl (cA 0, 2, .inl (o_t_reader 12))), ((a_t 2), .inr (9, [.ref (a_t_state 0), .ref (a_t_state 1), .ref (a_t_state 2), .ref (a_t_state 3), .int (o_t_state 4 0), .int (o_t_state 5 0), .int (o_t_state 6 0)])), (a_t_state 3, .inl (cA 4, 3, .inr (.inr (.inr (.inr (bk (a_t_state 20) (a_t_state 21) (a_t_state 22))))))), ((a_t_state 0), .inr (10, [.int (o_t_state_wares 0 0), .ref (a_t_state_wares 1), .ref (a_t_state_wares 2), .ref (a_t_state_wares 3), .ref (a_t_state_wares 4)])), (a_t_state_wares 1, .inl (cA 0, 8, .inl (o_t_state_wares 1))), (a_t_state_wares 2, .inl (cA 0, 8, .inl (o_t_state_wares 2))), (a_t_state_wares 3, .inl (cA 0, 8, .inl (o_t_state_wares 3))), (a_t_state_wares 4, .inl (cA 0, 8, .inl (o_t_state_wares 4))), ((a_t_state 1), .inr (8, [.int (o_t_state_shelf 0 0), .int (o_t_state_shelf 1 0), .int (o_t_state_shelf 2 0), .int (o_t_state_shelf 3 0), .ref (a_t_state_shelf 4), .ref (a_t_state_shelf 5), .ref (a_t_state_shelf 6)])), (a_t_state_shelf 4, .inl (cA 0, 8, .inl (o_t_state_shelf 4))), (a_t_state_shelf 5, .inl (cA 0, 8, .inl (o_t_state_shelf 5))), (a_t_state_shelf 6, .inl (cA 1, 8, .inr (.inr (.inl (fun j => (o_t_state_shelf 6 j).toUInt32))))), ((a_t_state 2), .inr (4, [.int (o_t_state_log 0 0), .ref (a_t_state_log 1), .ref (a_t_state_log 2), .ref (a_t_state_log 3), .ref (a_t_state_log 4)])), (a_t_state_log 1, .inl (cA 0, 40, .inl (o_t_state_log 1))), (a_t_state_log 2, .inl (cA 0, 40, .inl (o_t_state_log 2))), (a_t_state_log 3, .inl (cA 0, 40, .inl (o_t_state_log 3))), (a_t_state_log 4, .inl (cA 0, 320, .inl (o_t_state_log 4))), ((a_t_state 20), .inr (0, [.int (o_t_state_b0 0 0), .int (o_t_state_b0 1 0), .int (o_t_state_b0 2 0), .int (o_t_state_b0 3 0), .int (o_t_state_b0 4 0), .int (o_t_state_b0 5 0), .int (o_t_state_b0 6 0), .ref (a_t_state_b0 7), .ref (a_t_state_b0 8), .ref (a_t_state_b0 9)])), (a_t_state_b0 7, .inl (cA 0, 30, .inl (o_t_state_b0 7))), (a_t_state_b0 8, .inl (cA 0, 30, .inl (o_t_state_b0 8))), (a_t_state_b0 9, .inl (cA 0, 30, .inl (o_t_state_b0 9))), ((a_t_state 21), .inr (0, [.int (o_t_state_b1 0 0), .int (o_t_state_b1 1 0), .int (o_t_state_b1 2 0), .int (o_t_state_b1 3 0), .int (o_t_state_b1 4 0), .int (o_t_state_b1 5 0), .int (o_t_state_b1 6 0), .ref (a_t_state_b1 7), .ref (a_t_state_b1 8), .ref (a_t_state_b1 9)])), (a_t_state_b1 7, .inl (cA 0, 30, .inl (o_t_state_b1 7))), (a_t_state_b1 8, .inl (cA 0, 30, .inl (o_t_state_b1 8))), (a_t_state_b1 9, .inl (cA 0, 30, .inl (o_t_state_b1 9))), ((a_t_state 22), .inr (0, [.int (o_t_state_b2 0 0), .int (o_t_state_b2 1 0), .int (o_t_state_b2 2 0), .int (o_t_state_b2 3 0), .int (o_t_state_b2 4 0), .int (o_t_state_b2 5 0), .int (o_t_state_b2 6 0), .ref (a_t_state_b2 7), .ref (a_t_state_b2 8), .ref (a_t_state_b2 9)])), (a_t_state_b2 7, .inl (cA 0, 30, .inl (o_t_state_b2 7))), (a_t_state_b2 8, .inl (cA 0, 30, .inl (o_t_state_b2 8))), (a_t_state_b2 9, .inl (cA 0, 30, .inl (o_t_state_b2 9))), ((a_t 3), .inr (3, [.ref (a_t_history 0), .int (o_t_history 1 0), .int (o_t_history 2 0)])), ((a_t 5), .inr (2, [.ref (a_t_gates 0), .int (o_t_gates 1 0), .int (o_t_gates 2 0)])), (a_t_gates 0, .inl (cA 0, 60, .inl (o_t_gates 0))), ((a_t 6), .inr (1, [.int (o_t_deeds 0 0), .ref (a_t_deeds 1), .ref (a_t_deeds 2), .ref (a_t_deeds 3)])), (a_t_deeds 1, .inl (cA 0, 9, .inl (o_t_deeds 1))), (a_t_deeds 2, .inl (cA 0, 9, .inl (o_t_deeds 2))), (a_t_deeds 3, .inl (cA 0, 9, .inl (o_t_deeds 3)))]
set_option maxRecDepth 20000 in
theorem h_X11_names_X11 : ∀ w ∈ wsX110, w ∈ wsX11_names := by decide +kernel
set_option maxRecDepth 20000 in
theorem k_X11_names_10 : ZF wsX11_names RX11 10 11 0 RX11 TX11 15 := ⟨rfl, by decide, h_X11_names_X11, by decide +kernel⟩
set_option maxRecDepth 20000 in
theorem k_X11_names_26 : ZF wsX11_names RX11 26 11 2 RX11 TX11 15 := ⟨rfl, by decide, h_X11_names_X11, by decide +kernel⟩
set_option maxRecDepth 20000 in
theorem k_X11_names_33 : ZF wsX11_names RX11 33 11 3 RX11 TX11 15 := ⟨rfl, by decide, h_X11_names_X11, by decide +kernel⟩
set_option maxRecDepth 20000 in
theorem k_X11_names_44 : ZF wsX11_names RX11 44 11 5 RX11 TX11 15 := ⟨rfl, by decide, h_X11_names_X11, by decide +kernel⟩
set_option maxRecDepth 20000 in
theorem k_X11_names_51 : ZF wsX11_names RX11 51 11 6 RX11 TX11 15 := ⟨rfl, by decide, h_X11_names_X11, by decide +kernel⟩
set_option maxRecDepth 20000 in
theorem h_X11_names_X6 : ∀ w ∈ wsX60, w ∈ wsX11_names := by decide +kernel
set_option maxRecDepth 20000 in
theorem k_X11_names_96 : ZF wsX11_names RX11 96 6 1 RX6 TX6 17 := ⟨rfl, by decide, h_X11_names_X6, by decide +kernel⟩
set_option maxRecDepth 20000 in
theorem k_X11_names_104 : ZF wsX11_names RX11 104 6 3 RX6 TX6 17 := ⟨rfl, by decide, h_X11_names_X6, by decide +kernel⟩
set_option maxRecDepth 20000 in
theorem h_X11_names_X9 : ∀ w ∈ wsX90, w ∈ wsX11_names := by decide +kernel
set_option maxRecDepth 20000 in
theorem k_X11_names_127 : ZF wsX11_names RX11 127 9 0 RX9 TX9 7 := ⟨rfl, by decide, h_X11_names_X9, by decide +kernel⟩
set_option maxRecDepth 20000 in
theorem k_X11_names_140 : ZF wsX11_names RX11 140 6 9 RX6 TX6 17 := ⟨rfl, by decide, h_X11_names_X6, by decide +kernel⟩
set_option maxRecDepth 20000 in
theorem k_X11_names_143 : ZF wsX11_names RX11 143 9 2 RX9 TX9 7 := ⟨rfl, by decide, h_X11_names_X9, by decide +kernel⟩
set_option maxRecDepth 20000 in
theorem k_X11_names_153 : ZF wsX11_names RX11 153 6 8 RX6 TX6 17 := ⟨rfl, by decide, h_X11_names_X6, by decide +kernel⟩
set_option maxHeartbeats 8000000 in
set_option maxRecDepth 100000 in
theorem c_X11_names (l : Launch) (D : va_G) (cA : Nat → ClassId) (g : Nat → Nat) (sz : Nat) (h_t : Nat) (a_t : Nat → Nat) (o_t : Ob) (a_t_reader : Nat → Nat) (o_t_reader : Ob) (a_t_state : Nat → Nat) (o_t_state : Ob) (a_t_state_wares : Nat → Nat) (o_t_state_wares : Ob) (a_t_state_shelf : Nat → Nat) (o_t_state_shelf : Ob) (a_t_state_log : Nat → Nat) (o_t_state_log : Ob) (a_t_state_b0 : Nat → Nat) (o_t_state_b0 : Ob) (a_t_state_b1 : Nat → Nat) (o_t_state_b1 : Ob) (a_t_state_b2 : Nat → Nat) (o_t_state_b2 : Ob) (a_t_history : Nat → Nat) (o_t_history : Ob) (a_t_gates : Nat → Nat) (o_t_gates : Ob) (a_t_deeds : Nat → Nat) (o_t_deeds : Ob) (pl : va_W) (P : PV)  (o_t_reader' : Ob) (o_t_state' : Ob) (o_t_state_shelf' : Ob) (o_t_state_log' : Ob) (o_t_state_b0' : Ob) (o_t_state_b1' : Ob) (o_t_state_b2' : Ob) (o_t_history' : Ob) (o_t_gates' : Ob) (o_t_deeds' : Ob) (P' : PV) (rv : Int32) (hpl : Pool cA (a_t_history 0) 8 P pl) (hF : f_X11_names o_t_reader o_t_state o_t_state_wares o_t_state_shelf o_t_state_log o_t_state_b0 o_t_state_b1 o_t_state_b2 o_t_history o_t_gates o_t_deeds P = some (o_t_reader', o_t_state', o_t_state_shelf', o_t_state_log', o_t_state_b0', o_t_state_b1', o_t_state_b2', o_t_history', o_t_gates', o_t_deeds', P', rv)) : Met l yX11_names wsX11_names ({ frames := 8, cells := 28, slots := 823, locals := 170 }) (va_Pc [.ref h_t] (PreN D cA g sz ((w_X11_names cA h_t a_t o_t a_t_reader o_t_reader a_t_state o_t_state a_t_state_wares o_t_state_wares a_t_state_shelf o_t_state_shelf a_t_state_log o_t_state_log a_t_state_b0 o_t_state_b0 a_t_state_b1 o_t_state_b1 a_t_state_b2 o_t_state_b2 a_t_history o_t_history a_t_gates o_t_gates a_t_deeds o_t_deeds) ++ pl))) (va_Qi (fun (r : Int32) (_ : va_W) => r = rv) (PostT D cA sz ((w_X11_names cA h_t a_t o_t a_t_reader o_t_reader a_t_state o_t_state a_t_state_wares o_t_state_wares a_t_state_shelf o_t_state_shelf a_t_state_log o_t_state_log a_t_state_b0 o_t_state_b0 a_t_state_b1 o_t_state_b1 a_t_state_b2 o_t_state_b2 a_t_history o_t_history a_t_gates o_t_gates a_t_deeds o_t_deeds) ++ pl) (w_X11_names cA h_t a_t o_t a_t_reader o_t_reader' a_t_state o_t_state' a_t_state_wares o_t_state_wares a_t_state_shelf o_t_state_shelf' a_t_state_log o_t_state_log' a_t_state_b0 o_t_state_b0' a_t_state_b1 o_t_state_b1' a_t_state_b2 o_t_state_b2' a_t_history o_t_history' a_t_gates o_t_gates' a_t_deeds o_t_deeds') (Pool cA (a_t_history 0) 8 P')) (va_A ((w_X11_names cA h_t a_t o_t a_t_reader o_t_reader a_t_state o_t_state a_t_state_wares o_t_state_wares a_t_state_shelf o_t_state_shelf a_t_state_log o_t_state_log a_t_state_b0 o_t_state_b0 a_t_state_b1 o_t_state_b1 a_t_state_b2 o_t_state_b2 a_t_history o_t_history a_t_gates o_t_gates a_t_deeds o_t_deeds) ++ pl) sz)) 28 823 (va_A ((w_X11_names cA h_t a_t o_t a_t_reader o_t_reader a_t_state o_t_state a_t_state_wares o_t_state_wares a_t_state_shelf o_t_state_shelf a_t_state_log o_t_state_log a_t_state_b0 o_t_state_b0 a_t_state_b1 o_t_state_b1 a_t_state_b2 o_t_state_b2 a_t_history o_t_history a_t_gates o_t_gates a_t_deeds o_t_deeds) ++ pl) sz) := by
  refine z_startN (y := yX11_names) (wsy := wsX11_names) (av := [.ref h_t]) (w0 := ((w_X11_names cA h_t a_t o_t a_t_reader o_t_reader a_t_state o_t_state a_t_state_wares o_t_state_wares a_t_state_shelf o_t_state_shelf a_t_state_log o_t_state_log a_t_state_b0 o_t_state_b0 a_t_state_b1 o_t_state_b1 a_t_state_b2 o_t_state_b2 a_t_history o_t_history a_t_gates o_t_gates a_t_deeds o_t_deeds) ++ pl)) (cc := cX11_names) (maxL := 4) (ret := (some .int)) (lv0 := [(0, .ref h_t)]) (Qc := fun sz => va_Qi (fun (r : Int32) (_ : va_W) => r = rv) (PostT D cA sz ((w_X11_names cA h_t a_t o_t a_t_reader o_t_reader a_t_state o_t_state a_t_state_wares o_t_state_wares a_t_state_shelf o_t_state_shelf a_t_state_log o_t_state_log a_t_state_b0 o_t_state_b0 a_t_state_b1 o_t_state_b1 a_t_state_b2 o_t_state_b2 a_t_history o_t_history a_t_gates o_t_gates a_t_deeds o_t_deeds) ++ pl) (w_X11_names cA h_t a_t o_t a_t_reader o_t_reader' a_t_state o_t_state' a_t_state_wares o_t_state_wares a_t_state_shelf o_t_state_shelf' a_t_state_log o_t_state_log' a_t_state_b0 o_t_state_b0' a_t_state_b1 o_t_state_b1' a_t_state_b2 o_t_state_b2' a_t_history o_t_history' a_t_gates o_t_gates' a_t_deeds o_t_deeds') (Pool cA (a_t_history 0) 8 P')) (va_A ((w_X11_names cA h_t a_t o_t a_t_reader o_t_reader a_t_state o_t_state a_t_state_wares o_t_state_wares a_t_state_shelf o_t_state_shelf a_t_state_log o_t_state_log a_t_state_b0 o_t_state_b0 a_t_state_b1 o_t_state_b1 a_t_state_b2 o_t_state_b2 a_t_history o_t_history a_t_gates o_t_gates a_t_deeds o_t_deeds) ++ pl) sz)) (free := fun sz => va_A ((w_X11_names cA h_t a_t o_t a_t_reader o_t_reader a_t_state o_t_state a_t_state_wares o_t_state_wares a_t_state_shelf o_t_state_shelf a_t_state_log o_t_state_log a_t_state_b0 o_t_state_b0 a_t_state_b1 o_t_state_b1 a_t_state_b2 o_t_state_b2 a_t_history o_t_history a_t_gates o_t_gates a_t_deeds o_t_deeds) ++ pl) sz) (by decide) rfl rfl (Nat.le_of_ble_eq_true rfl) ?_
  intro p e R s m args below meth c A Q hR hA hQ X Y hr hin
  unfold f_X11_names at hF
  refine z_aload_n X dX11_names_0 rfl 0 rfl ?_
  refine z_get (v := .ref (a_t 0)) X k_X11_names_10 0 rfl rfl dX11_names_1 ?_
  refine z_aload_n X dX11_names_4 rfl 0 rfl ?_
  refine z_get (v := .ref (a_t 2)) X k_X11_names_26 0 rfl rfl dX11_names_5 ?_
  refine z_get (v := .ref (a_t_state 0)) X k_X11_names_127 7 rfl rfl dX11_names_8 ?_
  obtain ⟨o1, r2, hc3, hF⟩ := zb2_e hF
  refine z_ViT (As := [.ref (a_t_state 0)]) (rest := []) (wc := (w_X6_readItem cA (a_t 0) a_t_reader o_t_reader (a_t_state 0) a_t_state_wares o_t_state_wares)) (wc' := (w_X6_readItem cA (a_t 0) a_t_reader o1 (a_t_state 0) a_t_state_wares o_t_state_wares)) (X1 := (w_X11_names cA h_t a_t o_t a_t_reader o1 a_t_state o_t_state a_t_state_wares o_t_state_wares a_t_state_shelf o_t_state_shelf a_t_state_log o_t_state_log a_t_state_b0 o_t_state_b0 a_t_state_b1 o_t_state_b1 a_t_state_b2 o_t_state_b2 a_t_history o_t_history a_t_gates o_t_gates a_t_deeds o_t_deeds)) (rv := r2) X (cwV 1 X.2.2.2.2.1 gX11_names_X6_readSteps rfl rfl rfl (by decide +kernel) (by rw [hR]; exact ⟨Nat.le_of_ble_eq_true rfl, Nat.le_of_ble_eq_true rfl⟩)) (fun sz => c_X6_readSteps l D cA g sz (a_t 0) a_t_reader o_t_reader (a_t_state 0) a_t_state_wares o_t_state_wares o1 r2 hc3) [2, 3, 4, 5, 6, 9, 10, 11, 12, 13] [0, 1, 1000, 1001, 1002, 1003, 1004, 7, 8, 1005, 1006, 1007, 1008, 1009, 14, 15, 16, 17, 18, 19, 20, 21, 22, 23, 24, 25, 26, 27, 28, 29, 30, 31, 32, 33, 34, 35, 36, 37, 38, 39, 40, 41] rfl (by decide) rfl (by decide) rfl rfl rfl rfl rfl rfl (Nat.le_of_ble_eq_true rfl) dX11_names_11 (by rw [hR]; exact ⟨Nat.le_of_ble_eq_true rfl, Nat.le_of_ble_eq_true rfl⟩) ?_
  refine z_istore_n (lv' := [(1, .int r2), (0, .ref h_t)]) X dX11_names_14 rfl (by decide) rfl ?_
  refine z_aload_n X dX11_names_15 rfl 1 rfl ?_
  refine z_get (v := .ref (a_t 0)) X k_X11_names_10 0 rfl rfl dX11_names_16 ?_
  refine z_iconst (v := (0 : Int32)) X dX11_names_19 (by decide) ?_
  obtain ⟨o4, eo4, hF⟩ := nx_e hF
  refine z_put (ws' := ((w_X11_names cA h_t a_t o_t a_t_reader o4 a_t_state o_t_state a_t_state_wares o_t_state_wares a_t_state_shelf o_t_state_shelf a_t_state_log o_t_state_log a_t_state_b0 o_t_state_b0 a_t_state_b1 o_t_state_b1 a_t_state_b2 o_t_state_b2 a_t_history o_t_history a_t_gates o_t_gates a_t_deeds o_t_deeds) ++ pl)) X k_X11_names_96 tyX6 tyX6_ok nmX6 rfl rfl 2 rfl (Nat.le_of_ble_eq_true rfl) (by rw [eo4]; rfl) dX11_names_20 ?_
  refine z_iload_n X dX11_names_23 rfl 0 rfl ?_
  have hF := if_e hF
  refine z_if_ne (tgt := 39) X dX11_names_24 (by decide) (fun c88 => ?_) (fun c88 => ?_)
  · have hF := hF.2 c88
    refine z_aload_n X dX11_names_39 rfl 1 rfl ?_
    refine z_get (v := .ref (a_t 3)) X k_X11_names_33 0 rfl rfl dX11_names_40 ?_
    refine z_aload_n X dX11_names_43 rfl 1 rfl ?_
    refine z_get (v := .ref (a_t 2)) X k_X11_names_26 0 rfl rfl dX11_names_44 ?_
    obtain ⟨o5, P6, hc7, hF⟩ := zb2_e hF
    refine z_Pv (As := [.ref (a_t 2)]) (rest := []) (wc := (w_X3_keep cA (a_t 3) a_t_history o_t_history (a_t 2) a_t_state o_t_state a_t_state_wares o_t_state_wares a_t_state_shelf o_t_state_shelf a_t_state_log o_t_state_log a_t_state_b0 o_t_state_b0 a_t_state_b1 o_t_state_b1 a_t_state_b2 o_t_state_b2)) (wc' := (w_X3_keep cA (a_t 3) a_t_history o5 (a_t 2) a_t_state o_t_state a_t_state_wares o_t_state_wares a_t_state_shelf o_t_state_shelf a_t_state_log o_t_state_log a_t_state_b0 o_t_state_b0 a_t_state_b1 o_t_state_b1 a_t_state_b2 o_t_state_b2)) (X1 := (w_X11_names cA h_t a_t o_t a_t_reader o4 a_t_state o_t_state a_t_state_wares o_t_state_wares a_t_state_shelf o_t_state_shelf a_t_state_log o_t_state_log a_t_state_b0 o_t_state_b0 a_t_state_b1 o_t_state_b1 a_t_state_b2 o_t_state_b2 a_t_history o5 a_t_gates o_t_gates a_t_deeds o_t_deeds)) (pl := pl) (Pl := Pool cA (a_t_history 0) 8 P6) X Y (cwV 1 X.2.2.2.2.1 gX11_names_X3_keep rfl rfl rfl (by decide +kernel) (by rw [hR]; exact ⟨Nat.le_of_ble_eq_true rfl, Nat.le_of_ble_eq_true rfl⟩)) (fun sz => c_X3_keep l D cA g sz (a_t 3) a_t_history o_t_history (a_t 2) a_t_state o_t_state a_t_state_wares o_t_state_wares a_t_state_shelf o_t_state_shelf a_t_state_log o_t_state_log a_t_state_b0 o_t_state_b0 a_t_state_b1 o_t_state_b1 a_t_state_b2 o_t_state_b2 pl P  o5 P6 hpl hc7) [35, 7, 8, 9, 10, 11, 12, 13, 14, 15, 16, 17, 18, 19, 20, 21, 22, 23, 24, 25, 26, 27, 28, 29, 30, 31, 32, 33, 34] [0, 1, 2, 3, 4, 5, 6, 1001, 1002, 1003, 1004, 1005, 1006, 1007, 1008, 1009, 1010, 1011, 1012, 1013, 1014, 1015, 1016, 1017, 1018, 1019, 1020, 1021, 1022, 1023, 1024, 1025, 1026, 1027, 1028, 1000, 36, 37, 38, 39, 40, 41] rfl (by decide) rfl (by decide) rfl rfl rfl rfl rfl rfl (Nat.le_of_ble_eq_true rfl) dX11_names_47 (by rw [hR]; exact ⟨Nat.le_of_ble_eq_true rfl, Nat.le_of_ble_eq_true rfl⟩) (fun pl8 hp9 => ?_)
    refine z_aload_n X dX11_names_50 rfl 1 rfl ?_
    refine z_get (v := .ref (a_t 5)) X k_X11_names_44 0 rfl rfl dX11_names_51 ?_
    obtain ⟨o10, hc11, hF⟩ := zb1_e hF
    refine z_VvT (As := []) (rest := []) (wc := (w_X2_newCall cA (a_t 5) a_t_gates o_t_gates)) (wc' := (w_X2_newCall cA (a_t 5) a_t_gates o10)) (X1 := (w_X11_names cA h_t a_t o_t a_t_reader o4 a_t_state o_t_state a_t_state_wares o_t_state_wares a_t_state_shelf o_t_state_shelf a_t_state_log o_t_state_log a_t_state_b0 o_t_state_b0 a_t_state_b1 o_t_state_b1 a_t_state_b2 o_t_state_b2 a_t_history o5 a_t_gates o10 a_t_deeds o_t_deeds)) X (cwV 0 X.2.2.2.2.1 gX11_names_X2_newCall rfl rfl rfl (by decide +kernel) (by rw [hR]; exact ⟨Nat.le_of_ble_eq_true rfl, Nat.le_of_ble_eq_true rfl⟩)) (fun sz => c_X2_newCall l D cA g sz (a_t 5) a_t_gates o_t_gates o10 hc11) [36, 37] [0, 1, 2, 3, 4, 5, 6, 7, 8, 9, 10, 11, 12, 13, 14, 15, 16, 17, 18, 19, 20, 21, 22, 23, 24, 25, 26, 27, 28, 29, 30, 31, 32, 33, 34, 35, 1000, 1001, 38, 39, 40, 41] rfl (by decide) rfl (by decide) rfl rfl rfl rfl rfl rfl (Nat.le_of_ble_eq_true rfl) dX11_names_54 (by rw [hR]; exact ⟨Nat.le_of_ble_eq_true rfl, Nat.le_of_ble_eq_true rfl⟩) ?_
    refine z_iconst (v := (0 : Int32)) X dX11_names_57 (by decide) ?_
    refine z_istore_n (lv' := [(2, .int (0 : Int32)), (1, .int r2), (0, .ref h_t)]) X dX11_names_58 rfl (by decide) rfl ?_
    refine z_iconst (v := (0 : Int32)) X dX11_names_59 (by decide) ?_
    refine z_istore_n (lv' := [(3, .int (0 : Int32)), (2, .int (0 : Int32)), (1, .int r2), (0, .ref h_t)]) X dX11_names_60 rfl (by decide) rfl ?_
    obtain ⟨o59, o60, o61, o62, o63, o64, o65, o66, k67, hL, hF⟩ := zb9_e hF
    have L68_x : ∀ (o59' : Ob) (o60' : Ob) (o61' : Ob) (o62' : Ob) (o63' : Ob) (o64' : Ob) (o65' : Ob) (o66' : Ob) (k67' : Int32), (o59', o60', o61', o62', o63', o64', o65', o66', k67') = (o59, o60, o61, o62, o63, o64, o65, o66, k67) → ZW p l e R s m args below meth c D A 4 (0 + 28) (0 + 823) Q ((w_X11_names cA h_t a_t o_t a_t_reader o4 a_t_state o59' a_t_state_wares o_t_state_wares a_t_state_shelf o60' a_t_state_log o61' a_t_state_b0 o62' a_t_state_b1 o63' a_t_state_b2 o64' a_t_history o5 a_t_gates o65' a_t_deeds o66') ++ pl8) [(2, .int k67')] 118 [] := by
      intro o59' o60' o61' o62' o63' o64' o65' o66' k67' hz
      cases hz
      refine z_iload_n X dX11_names_118 rfl 0 rfl ?_
      cases hF
      exact z_iretT X hA hQ hr hp9 rfl dX11_names_119 (Nat.le_of_ble_eq_true rfl) (Nat.le_of_ble_eq_true rfl)
    obtain ⟨B87, hBB87, hL⟩ := zl10_b hL
    have L68 : ∀ (n : Nat) (o49 : Ob) (o50 : Ob) (o51 : Ob) (o52 : Ob) (o53 : Ob) (o54 : Ob) (o55 : Ob) (o56 : Ob) (k57 : Int32) (k58 : Int32), zl10 B87 n o49 o50 o51 o52 o53 o54 o55 o56 k57 k58 = some (o59, o60, o61, o62, o63, o64, o65, o66, k67) → ZW p l e R s m args below meth c D A 4 (0 + 28) (0 + 823) Q ((w_X11_names cA h_t a_t o_t a_t_reader o4 a_t_state o49 a_t_state_wares o_t_state_wares a_t_state_shelf o50 a_t_state_log o51 a_t_state_b0 o52 a_t_state_b1 o53 a_t_state_b2 o54 a_t_history o5 a_t_gates o55 a_t_deeds o56) ++ pl8) [(0, .ref h_t), (2, .int k57), (3, .int k58)] 61 [] := by
      intro n
      induction n with
      | zero => intro o49 o50 o51 o52 o53 o54 o55 o56 k57 k58 hL; cases hL
      | succ n ih =>
        intro o49 o50 o51 o52 o53 o54 o55 o56 k57 k58 hL
        obtain ⟨zz69, hF, hL⟩ := zl10_e hL
        rw [hBB87] at hF
        refine z_iload_n X dX11_names_61 rfl 2 rfl ?_
        refine z_aload_n X dX11_names_62 rfl 0 rfl ?_
        refine z_get (v := .ref (a_t 0)) X k_X11_names_10 0 rfl rfl dX11_names_63 ?_
        refine z_get (v := .int (o4 9 0)) X k_X11_names_140 2 rfl rfl dX11_names_66 ?_
        have hF := if_e hF
        refine z_icmp_ge (tgt := 118) X dX11_names_69 (by decide) (fun c86 => ?_) (fun c86 => ?_)
        · have hF := hF.1 c86
          cases hF
          have hL := Option.some.inj hL
          refine z_lv (lv' := [(2, .int k57)]) [1] rfl ?_
          exact L68_x o49 o50 o51 o52 o53 o54 o55 o56 k57 hL
        · have hF := hF.2 c86
          refine z_aload_n X dX11_names_72 rfl 0 rfl ?_
          refine z_get (v := .ref (a_t 2)) X k_X11_names_26 0 rfl rfl dX11_names_73 ?_
          refine z_get (v := .ref (a_t_state 2)) X k_X11_names_143 7 rfl rfl dX11_names_76 ?_
          obtain ⟨r70, hc71, hF⟩ := zb1_e hF
          refine z_ViT (As := []) (rest := []) (wc := (w_X4_has cA (a_t_state 2) a_t_state_log o51)) (wc' := (w_X4_has cA (a_t_state 2) a_t_state_log o51)) (X1 := (w_X11_names cA h_t a_t o_t a_t_reader o4 a_t_state o49 a_t_state_wares o_t_state_wares a_t_state_shelf o50 a_t_state_log o51 a_t_state_b0 o52 a_t_state_b1 o53 a_t_state_b2 o54 a_t_history o5 a_t_gates o55 a_t_deeds o56)) (rv := r70) X (cwV 0 X.2.2.2.2.1 gX11_names_X4_isFull rfl rfl rfl (by decide +kernel) (by rw [hR]; exact ⟨Nat.le_of_ble_eq_true rfl, Nat.le_of_ble_eq_true rfl⟩)) (fun sz => c_X4_isFull l D cA g sz (a_t_state 2) a_t_state_log o51 r70 hc71) [18, 19, 20, 21, 22] [0, 1, 2, 3, 4, 5, 6, 7, 8, 9, 10, 11, 12, 13, 14, 15, 16, 17, 1000, 1001, 1002, 1003, 1004, 23, 24, 25, 26, 27, 28, 29, 30, 31, 32, 33, 34, 35, 36, 37, 38, 39, 40, 41] rfl (by decide) rfl (by decide) rfl rfl rfl rfl rfl rfl (Nat.le_of_ble_eq_true rfl) dX11_names_79 (by rw [hR]; exact ⟨Nat.le_of_ble_eq_true rfl, Nat.le_of_ble_eq_true rfl⟩) ?_
          have hF := if_e hF
          refine z_if_ne (tgt := 118) X dX11_names_82 (by decide) (fun c85 => ?_) (fun c85 => ?_)
          · have hF := hF.2 c85
            cases hF
            have hL := Option.some.inj hL
            refine z_lv (lv' := [(2, .int k57)]) [1] rfl ?_
            exact L68_x o49 o50 o51 o52 o53 o54 o55 o56 k57 hL
          · have hF := hF.1 c85
            refine z_iload_n X dX11_names_85 rfl 1 rfl ?_
            refine z_aload_n X dX11_names_86 rfl 0 rfl ?_
            refine z_get (v := .ref (a_t 2)) X k_X11_names_26 0 rfl rfl dX11_names_87 ?_
            refine z_aload_n X dX11_names_90 rfl 0 rfl ?_
            refine z_get (v := .ref (a_t 0)) X k_X11_names_10 0 rfl rfl dX11_names_91 ?_
            refine z_get (v := .ref (a_t_reader 8)) X k_X11_names_153 2 rfl rfl dX11_names_94 ?_
            refine z_iload_n X dX11_names_97 rfl 2 rfl ?_
            obtain ⟨g72, hF⟩ := gi_e hF
            refine z_iald X 4 rfl g72 dX11_names_98 ?_
            refine z_aload_n X dX11_names_99 rfl 0 rfl ?_
            refine z_get (v := .ref (a_t 6)) X k_X11_names_51 0 rfl rfl dX11_names_100 ?_
            refine z_aload_n X dX11_names_103 rfl 0 rfl ?_
            refine z_get (v := .ref (a_t 5)) X k_X11_names_44 0 rfl rfl dX11_names_104 ?_
            obtain ⟨o73, o74, o75, o76, o77, o78, o79, o80, r81, hc82, hF⟩ := zb9_e hF
            refine z_ViT (As := [.int (o4 8 (Int32.toNatClampNeg k58)), .ref (a_t 6), .ref (a_t 5)]) (rest := [.int k57]) (wc := (w_X9_ask cA (a_t 2) a_t_state o49 a_t_state_wares o_t_state_wares a_t_state_shelf o50 a_t_state_log o51 a_t_state_b0 o52 a_t_state_b1 o53 a_t_state_b2 o54 (a_t 6) a_t_deeds o56 (a_t 5) a_t_gates o55)) (wc' := (w_X9_ask cA (a_t 2) a_t_state o73 a_t_state_wares o_t_state_wares a_t_state_shelf o74 a_t_state_log o75 a_t_state_b0 o76 a_t_state_b1 o77 a_t_state_b2 o78 (a_t 6) a_t_deeds o79 (a_t 5) a_t_gates o80)) (X1 := (w_X11_names cA h_t a_t o_t a_t_reader o4 a_t_state o73 a_t_state_wares o_t_state_wares a_t_state_shelf o74 a_t_state_log o75 a_t_state_b0 o76 a_t_state_b1 o77 a_t_state_b2 o78 a_t_history o5 a_t_gates o80 a_t_deeds o79)) (rv := r81) X (cwV 3 X.2.2.2.2.1 gX11_names_X9_ask rfl rfl rfl (by decide +kernel) (by rw [hR]; exact ⟨Nat.le_of_ble_eq_true rfl, Nat.le_of_ble_eq_true rfl⟩)) (fun sz => c_X9_ask l D cA g sz (a_t 2) a_t_state o49 a_t_state_wares o_t_state_wares a_t_state_shelf o50 a_t_state_log o51 a_t_state_b0 o52 a_t_state_b1 o53 a_t_state_b2 o54 (a_t 6) a_t_deeds o56 (a_t 5) a_t_gates o55 (o4 8 (Int32.toNatClampNeg k58)) o73 o74 o75 o76 o77 o78 o79 o80 r81 hc82) [7, 8, 9, 10, 11, 12, 13, 14, 15, 16, 17, 18, 19, 20, 21, 22, 23, 24, 25, 26, 27, 28, 29, 30, 31, 32, 33, 34, 38, 39, 40, 41, 36, 37] [0, 1, 2, 3, 4, 5, 6, 1000, 1001, 1002, 1003, 1004, 1005, 1006, 1007, 1008, 1009, 1010, 1011, 1012, 1013, 1014, 1015, 1016, 1017, 1018, 1019, 1020, 1021, 1022, 1023, 1024, 1025, 1026, 1027, 35, 1032, 1033, 1028, 1029, 1030, 1031] rfl (by decide) rfl (by decide) rfl rfl rfl rfl rfl rfl (Nat.le_of_ble_eq_true rfl) dX11_names_107 (by rw [hR]; exact ⟨Nat.le_of_ble_eq_true rfl, Nat.le_of_ble_eq_true rfl⟩) ?_
            refine z_iadd X dX11_names_110 ?_
            obtain ⟨x83, ex83, hF⟩ := nx_e hF
            refine z_nm ex83 ?_
            refine z_istore_n (lv' := [(2, .int x83), (0, .ref h_t), (3, .int k58)]) X dX11_names_111 rfl (by decide) rfl ?_
            obtain ⟨x84, ex84, hF⟩ := nx_e hF
            refine z_iinc (v := x84) (lv' := [(3, .int x84), (2, .int x83), (0, .ref h_t)]) (j := 2) X dX11_names_112 rfl (by rw [ex84]; rfl) (by decide) rfl ?_
            refine z_goto (tgt := 61) X dX11_names_115 (by decide) ?_
            cases hF
            refine z_lv (lv' := [(0, .ref h_t), (2, .int x83), (3, .int x84)]) [2, 1, 0] rfl ?_
            exact ih o73 o74 o75 o76 o77 o78 o80 o79 x83 x84 hL
    refine z_lv (lv' := [(0, .ref h_t), (2, .int (0 : Int32)), (3, .int (0 : Int32))]) [3, 1, 0] rfl ?_
    exact L68 FU o_t_state o_t_state_shelf o_t_state_log o_t_state_b0 o_t_state_b1 o_t_state_b2 o10 o_t_deeds (0 : Int32) (0 : Int32) hL
  · have hF := hF.1 c88
    refine z_sipush (v := (-1000 : Int32)) X dX11_names_27 (by decide) ?_
    refine z_aload_n X dX11_names_30 rfl 1 rfl ?_
    refine z_get (v := .ref (a_t 0)) X k_X11_names_10 0 rfl rfl dX11_names_31 ?_
    refine z_get (v := .int (o4 3 0)) X k_X11_names_104 2 rfl rfl dX11_names_34 ?_
    refine z_isub X dX11_names_37 ?_
    cases hF
    exact z_iretT X hA hQ hr hpl rfl dX11_names_38 (Nat.le_of_ble_eq_true rfl) (Nat.le_of_ble_eq_true rfl)
set_option maxRecDepth 20000 in
theorem h_X11_drawn_X11 : ∀ w ∈ wsX110, w ∈ wsX11_drawn := by decide +kernel
set_option maxRecDepth 20000 in
theorem k_X11_drawn_26 : ZF wsX11_drawn RX11 26 11 2 RX11 TX11 15 := ⟨rfl, by decide, h_X11_drawn_X11, by decide +kernel⟩
set_option maxRecDepth 20000 in
theorem k_X11_drawn_33 : ZF wsX11_drawn RX11 33 11 3 RX11 TX11 15 := ⟨rfl, by decide, h_X11_drawn_X11, by decide +kernel⟩
set_option maxRecDepth 20000 in
theorem k_X11_drawn_44 : ZF wsX11_drawn RX11 44 11 5 RX11 TX11 15 := ⟨rfl, by decide, h_X11_drawn_X11, by decide +kernel⟩
set_option maxRecDepth 20000 in
theorem k_X11_drawn_51 : ZF wsX11_drawn RX11 51 11 6 RX11 TX11 15 := ⟨rfl, by decide, h_X11_drawn_X11, by decide +kernel⟩
set_option maxRecDepth 20000 in
theorem h_X11_drawn_X10 : ∀ w ∈ wsX100, w ∈ wsX11_drawn := by decide +kernel
set_option maxRecDepth 20000 in
theorem k_X11_drawn_121 : ZF wsX11_drawn RX11 121 10 0 RX10 TX10 5 := ⟨rfl, by decide, h_X11_drawn_X10, by decide +kernel⟩
set_option maxRecDepth 20000 in
theorem h_X11_drawn_X9 : ∀ w ∈ wsX90, w ∈ wsX11_drawn := by decide +kernel
set_option maxRecDepth 20000 in
theorem k_X11_drawn_127 : ZF wsX11_drawn RX11 127 9 0 RX9 TX9 7 := ⟨rfl, by decide, h_X11_drawn_X9, by decide +kernel⟩
set_option maxRecDepth 20000 in
theorem k_X11_drawn_143 : ZF wsX11_drawn RX11 143 9 2 RX9 TX9 7 := ⟨rfl, by decide, h_X11_drawn_X9, by decide +kernel⟩
set_option maxRecDepth 20000 in
theorem k_X11_drawn_218 : ZF wsX11_drawn RX11 218 11 14 RX11 TX11 15 := ⟨rfl, by decide, h_X11_drawn_X11, by decide +kernel⟩
set_option maxHeartbeats 8000000 in
set_option maxRecDepth 100000 in
theorem c_X11_drawn (l : Launch) (D : va_G) (cA : Nat → ClassId) (g : Nat → Nat) (sz : Nat) (h_t : Nat) (a_t : Nat → Nat) (o_t : Ob) (a_t_state : Nat → Nat) (o_t_state : Ob) (a_t_state_wares : Nat → Nat) (o_t_state_wares : Ob) (a_t_state_shelf : Nat → Nat) (o_t_state_shelf : Ob) (a_t_state_log : Nat → Nat) (o_t_state_log : Ob) (a_t_state_b0 : Nat → Nat) (o_t_state_b0 : Ob) (a_t_state_b1 : Nat → Nat) (o_t_state_b1 : Ob) (a_t_state_b2 : Nat → Nat) (o_t_state_b2 : Ob) (a_t_history : Nat → Nat) (o_t_history : Ob) (a_t_gates : Nat → Nat) (o_t_gates : Ob) (a_t_deeds : Nat → Nat) (o_t_deeds : Ob) (pl : va_W) (P : PV) (v1 : Int32) (v2 : Int32) (o_t' : Ob) (o_t_state' : Ob) (o_t_state_shelf' : Ob) (o_t_state_log' : Ob) (o_t_state_b0' : Ob) (o_t_state_b1' : Ob) (o_t_state_b2' : Ob) (o_t_history' : Ob) (o_t_gates' : Ob) (o_t_deeds' : Ob) (P' : PV) (rv : Int32) (hpl : Pool cA (a_t_history 0) 8 P pl) (hF : f_X11_drawn o_t o_t_state o_t_state_wares o_t_state_shelf o_t_state_log o_t_state_b0 o_t_state_b1 o_t_state_b2 o_t_history o_t_gates o_t_deeds P v1 v2 = some (o_t', o_t_state', o_t_state_shelf', o_t_state_log', o_t_state_b0', o_t_state_b1', o_t_state_b2', o_t_history', o_t_gates', o_t_deeds', P', rv)) : Met l yX11_drawn wsX11_drawn ({ frames := 5, cells := 28, slots := 823, locals := 120 }) (va_Pc [.ref h_t, .int v1, .int v2] (PreN D cA g sz ((w_X11_request cA h_t a_t o_t a_t_state o_t_state a_t_state_wares o_t_state_wares a_t_state_shelf o_t_state_shelf a_t_state_log o_t_state_log a_t_state_b0 o_t_state_b0 a_t_state_b1 o_t_state_b1 a_t_state_b2 o_t_state_b2 a_t_history o_t_history a_t_gates o_t_gates a_t_deeds o_t_deeds) ++ pl))) (va_Qi (fun (r : Int32) (_ : va_W) => r = rv) (PostT D cA sz ((w_X11_request cA h_t a_t o_t a_t_state o_t_state a_t_state_wares o_t_state_wares a_t_state_shelf o_t_state_shelf a_t_state_log o_t_state_log a_t_state_b0 o_t_state_b0 a_t_state_b1 o_t_state_b1 a_t_state_b2 o_t_state_b2 a_t_history o_t_history a_t_gates o_t_gates a_t_deeds o_t_deeds) ++ pl) (w_X11_request cA h_t a_t o_t' a_t_state o_t_state' a_t_state_wares o_t_state_wares a_t_state_shelf o_t_state_shelf' a_t_state_log o_t_state_log' a_t_state_b0 o_t_state_b0' a_t_state_b1 o_t_state_b1' a_t_state_b2 o_t_state_b2' a_t_history o_t_history' a_t_gates o_t_gates' a_t_deeds o_t_deeds') (Pool cA (a_t_history 0) 8 P')) (va_A ((w_X11_request cA h_t a_t o_t a_t_state o_t_state a_t_state_wares o_t_state_wares a_t_state_shelf o_t_state_shelf a_t_state_log o_t_state_log a_t_state_b0 o_t_state_b0 a_t_state_b1 o_t_state_b1 a_t_state_b2 o_t_state_b2 a_t_history o_t_history a_t_gates o_t_gates a_t_deeds o_t_deeds) ++ pl) sz)) 28 823 (va_A ((w_X11_request cA h_t a_t o_t a_t_state o_t_state a_t_state_wares o_t_state_wares a_t_state_shelf o_t_state_shelf a_t_state_log o_t_state_log a_t_state_b0 o_t_state_b0 a_t_state_b1 o_t_state_b1 a_t_state_b2 o_t_state_b2 a_t_history o_t_history a_t_gates o_t_gates a_t_deeds o_t_deeds) ++ pl) sz) := by
  refine z_startN (y := yX11_drawn) (wsy := wsX11_drawn) (av := [.ref h_t, .int v1, .int v2]) (w0 := ((w_X11_request cA h_t a_t o_t a_t_state o_t_state a_t_state_wares o_t_state_wares a_t_state_shelf o_t_state_shelf a_t_state_log o_t_state_log a_t_state_b0 o_t_state_b0 a_t_state_b1 o_t_state_b1 a_t_state_b2 o_t_state_b2 a_t_history o_t_history a_t_gates o_t_gates a_t_deeds o_t_deeds) ++ pl)) (cc := cX11_drawn) (maxL := 5) (ret := (some .int)) (lv0 := [(0, .ref h_t), (1, .int v1), (2, .int v2)]) (Qc := fun sz => va_Qi (fun (r : Int32) (_ : va_W) => r = rv) (PostT D cA sz ((w_X11_request cA h_t a_t o_t a_t_state o_t_state a_t_state_wares o_t_state_wares a_t_state_shelf o_t_state_shelf a_t_state_log o_t_state_log a_t_state_b0 o_t_state_b0 a_t_state_b1 o_t_state_b1 a_t_state_b2 o_t_state_b2 a_t_history o_t_history a_t_gates o_t_gates a_t_deeds o_t_deeds) ++ pl) (w_X11_request cA h_t a_t o_t' a_t_state o_t_state' a_t_state_wares o_t_state_wares a_t_state_shelf o_t_state_shelf' a_t_state_log o_t_state_log' a_t_state_b0 o_t_state_b0' a_t_state_b1 o_t_state_b1' a_t_state_b2 o_t_state_b2' a_t_history o_t_history' a_t_gates o_t_gates' a_t_deeds o_t_deeds') (Pool cA (a_t_history 0) 8 P')) (va_A ((w_X11_request cA h_t a_t o_t a_t_state o_t_state a_t_state_wares o_t_state_wares a_t_state_shelf o_t_state_shelf a_t_state_log o_t_state_log a_t_state_b0 o_t_state_b0 a_t_state_b1 o_t_state_b1 a_t_state_b2 o_t_state_b2 a_t_history o_t_history a_t_gates o_t_gates a_t_deeds o_t_deeds) ++ pl) sz)) (free := fun sz => va_A ((w_X11_request cA h_t a_t o_t a_t_state o_t_state a_t_state_wares o_t_state_wares a_t_state_shelf o_t_state_shelf a_t_state_log o_t_state_log a_t_state_b0 o_t_state_b0 a_t_state_b1 o_t_state_b1 a_t_state_b2 o_t_state_b2 a_t_history o_t_history a_t_gates o_t_gates a_t_deeds o_t_deeds) ++ pl) sz) (by decide) rfl rfl (Nat.le_of_ble_eq_true rfl) ?_
  intro p e R s m args below meth c A Q hR hA hQ X Y hr hin
  unfold f_X11_drawn at hF
  refine z_iload_n X dX11_drawn_0 rfl 1 rfl ?_
  refine z_iconst (v := (1 : Int32)) X dX11_drawn_1 (by decide) ?_
  have hF := if_e hF
  refine z_icmp_lt (tgt := 24) X dX11_drawn_2 (by decide) (fun c93 => ?_) (fun c93 => ?_)
  · have hF := hF.1 c93
    refine z_iconst (v := (-1 : Int32)) X dX11_drawn_24 (by decide) ?_
    cases hF
    exact z_iretT X hA hQ hr hpl rfl dX11_drawn_25 (Nat.le_of_ble_eq_true rfl) (Nat.le_of_ble_eq_true rfl)
  · have hF := hF.2 c93
    refine z_iload_n X dX11_drawn_5 rfl 1 rfl ?_
    refine z_bipush (v := (40 : Int32)) X dX11_drawn_6 (by decide) ?_
    have hF := if_e hF
    refine z_icmp_gt (tgt := 24) X dX11_drawn_8 (by decide) (fun c92 => ?_) (fun c92 => ?_)
    · have hF := hF.1 c92
      refine z_iconst (v := (-1 : Int32)) X dX11_drawn_24 (by decide) ?_
      cases hF
      exact z_iretT X hA hQ hr hpl rfl dX11_drawn_25 (Nat.le_of_ble_eq_true rfl) (Nat.le_of_ble_eq_true rfl)
    · have hF := hF.2 c92
      refine z_aload_n X dX11_drawn_11 rfl 0 rfl ?_
      refine z_get (v := .ref (a_t 2)) X k_X11_drawn_26 0 rfl rfl dX11_drawn_12 ?_
      refine z_get (v := .ref (a_t_state 0)) X k_X11_drawn_127 2 rfl rfl dX11_drawn_15 ?_
      refine z_get (v := .int (o_t_state_wares 0 0)) X k_X11_drawn_121 4 rfl rfl dX11_drawn_18 ?_
      have hF := if_e hF
      refine z_if_ne (tgt := 26) X dX11_drawn_21 (by decide) (fun c91 => ?_) (fun c91 => ?_)
      · have hF := hF.2 c91
        refine z_aload_n X dX11_drawn_26 rfl 0 rfl ?_
        refine z_get (v := .ref (a_t 3)) X k_X11_drawn_33 0 rfl rfl dX11_drawn_27 ?_
        refine z_aload_n X dX11_drawn_30 rfl 0 rfl ?_
        refine z_get (v := .ref (a_t 2)) X k_X11_drawn_26 0 rfl rfl dX11_drawn_31 ?_
        obtain ⟨o1, P2, hc3, hF⟩ := zb2_e hF
        refine z_Pv (As := [.ref (a_t 2)]) (rest := []) (wc := (w_X3_keep cA (a_t 3) a_t_history o_t_history (a_t 2) a_t_state o_t_state a_t_state_wares o_t_state_wares a_t_state_shelf o_t_state_shelf a_t_state_log o_t_state_log a_t_state_b0 o_t_state_b0 a_t_state_b1 o_t_state_b1 a_t_state_b2 o_t_state_b2)) (wc' := (w_X3_keep cA (a_t 3) a_t_history o1 (a_t 2) a_t_state o_t_state a_t_state_wares o_t_state_wares a_t_state_shelf o_t_state_shelf a_t_state_log o_t_state_log a_t_state_b0 o_t_state_b0 a_t_state_b1 o_t_state_b1 a_t_state_b2 o_t_state_b2)) (X1 := (w_X11_request cA h_t a_t o_t a_t_state o_t_state a_t_state_wares o_t_state_wares a_t_state_shelf o_t_state_shelf a_t_state_log o_t_state_log a_t_state_b0 o_t_state_b0 a_t_state_b1 o_t_state_b1 a_t_state_b2 o_t_state_b2 a_t_history o1 a_t_gates o_t_gates a_t_deeds o_t_deeds)) (pl := pl) (Pl := Pool cA (a_t_history 0) 8 P2) X Y (cwV 1 X.2.2.2.2.1 gX11_drawn_X3_keep rfl rfl rfl (by decide +kernel) (by rw [hR]; exact ⟨Nat.le_of_ble_eq_true rfl, Nat.le_of_ble_eq_true rfl⟩)) (fun sz => c_X3_keep l D cA g sz (a_t 3) a_t_history o_t_history (a_t 2) a_t_state o_t_state a_t_state_wares o_t_state_wares a_t_state_shelf o_t_state_shelf a_t_state_log o_t_state_log a_t_state_b0 o_t_state_b0 a_t_state_b1 o_t_state_b1 a_t_state_b2 o_t_state_b2 pl P  o1 P2 hpl hc3) [30, 2, 3, 4, 5, 6, 7, 8, 9, 10, 11, 12, 13, 14, 15, 16, 17, 18, 19, 20, 21, 22, 23, 24, 25, 26, 27, 28, 29] [0, 1, 1001, 1002, 1003, 1004, 1005, 1006, 1007, 1008, 1009, 1010, 1011, 1012, 1013, 1014, 1015, 1016, 1017, 1018, 1019, 1020, 1021, 1022, 1023, 1024, 1025, 1026, 1027, 1028, 1000, 31, 32, 33, 34, 35, 36] rfl (by decide) rfl (by decide) rfl rfl rfl rfl rfl rfl (Nat.le_of_ble_eq_true rfl) dX11_drawn_34 (by rw [hR]; exact ⟨Nat.le_of_ble_eq_true rfl, Nat.le_of_ble_eq_true rfl⟩) (fun pl4 hp5 => ?_)
        refine z_aload_n X dX11_drawn_37 rfl 0 rfl ?_
        refine z_get (v := .ref (a_t 5)) X k_X11_drawn_44 0 rfl rfl dX11_drawn_38 ?_
        obtain ⟨o6, hc7, hF⟩ := zb1_e hF
        refine z_VvT (As := []) (rest := []) (wc := (w_X2_newCall cA (a_t 5) a_t_gates o_t_gates)) (wc' := (w_X2_newCall cA (a_t 5) a_t_gates o6)) (X1 := (w_X11_request cA h_t a_t o_t a_t_state o_t_state a_t_state_wares o_t_state_wares a_t_state_shelf o_t_state_shelf a_t_state_log o_t_state_log a_t_state_b0 o_t_state_b0 a_t_state_b1 o_t_state_b1 a_t_state_b2 o_t_state_b2 a_t_history o1 a_t_gates o6 a_t_deeds o_t_deeds)) X (cwV 0 X.2.2.2.2.1 gX11_drawn_X2_newCall rfl rfl rfl (by decide +kernel) (by rw [hR]; exact ⟨Nat.le_of_ble_eq_true rfl, Nat.le_of_ble_eq_true rfl⟩)) (fun sz => c_X2_newCall l D cA g sz (a_t 5) a_t_gates o_t_gates o6 hc7) [31, 32] [0, 1, 2, 3, 4, 5, 6, 7, 8, 9, 10, 11, 12, 13, 14, 15, 16, 17, 18, 19, 20, 21, 22, 23, 24, 25, 26, 27, 28, 29, 30, 1000, 1001, 33, 34, 35, 36] rfl (by decide) rfl (by decide) rfl rfl rfl rfl rfl rfl (Nat.le_of_ble_eq_true rfl) dX11_drawn_41 (by rw [hR]; exact ⟨Nat.le_of_ble_eq_true rfl, Nat.le_of_ble_eq_true rfl⟩) ?_
        refine z_aload_n X dX11_drawn_44 rfl 0 rfl ?_
        refine z_iload_n X dX11_drawn_45 rfl 2 rfl ?_
        obtain ⟨o8, eo8, hF⟩ := nx_e hF
        refine z_put (ws' := ((w_X11_request cA h_t a_t o8 a_t_state o_t_state a_t_state_wares o_t_state_wares a_t_state_shelf o_t_state_shelf a_t_state_log o_t_state_log a_t_state_b0 o_t_state_b0 a_t_state_b1 o_t_state_b1 a_t_state_b2 o_t_state_b2 a_t_history o1 a_t_gates o6 a_t_deeds o_t_deeds) ++ pl4)) X k_X11_drawn_218 tyX11 tyX11_ok nmX11 rfl rfl 0 rfl (Nat.le_of_ble_eq_true rfl) (by rw [eo8]; rfl) dX11_drawn_46 ?_
        refine z_iconst (v := (0 : Int32)) X dX11_drawn_49 (by decide) ?_
        refine z_istore_n (lv' := [(3, .int (0 : Int32)), (0, .ref h_t), (1, .int v1), (2, .int v2)]) X dX11_drawn_50 rfl (by decide) rfl ?_
        refine z_iconst (v := (0 : Int32)) X dX11_drawn_51 (by decide) ?_
        refine z_istore (lv' := [(4, .int (0 : Int32)), (3, .int (0 : Int32)), (0, .ref h_t), (1, .int v1), (2, .int v2)]) X dX11_drawn_52 (by decide) rfl ?_
        obtain ⟨o59, o60, o61, o62, o63, o64, o65, o66, o67, k68, hL, hF⟩ := zb10_e hF
        have L69_x : ∀ (o59' : Ob) (o60' : Ob) (o61' : Ob) (o62' : Ob) (o63' : Ob) (o64' : Ob) (o65' : Ob) (o66' : Ob) (o67' : Ob) (k68' : Int32), (o59', o60', o61', o62', o63', o64', o65', o66', o67', k68') = (o59, o60, o61, o62, o63, o64, o65, o66, o67, k68) → ZW p l e R s m args below meth c D A 5 (0 + 28) (0 + 823) Q ((w_X11_request cA h_t a_t o59' a_t_state o60' a_t_state_wares o_t_state_wares a_t_state_shelf o61' a_t_state_log o62' a_t_state_b0 o63' a_t_state_b1 o64' a_t_state_b2 o65' a_t_history o1 a_t_gates o66' a_t_deeds o67') ++ pl4) [(3, .int k68')] 101 [] := by
          intro o59' o60' o61' o62' o63' o64' o65' o66' o67' k68' hz
          cases hz
          refine z_iload_n X dX11_drawn_101 rfl 0 rfl ?_
          cases hF
          exact z_iretT X hA hQ hr hp5 rfl dX11_drawn_102 (Nat.le_of_ble_eq_true rfl) (Nat.le_of_ble_eq_true rfl)
        obtain ⟨B90, hBB90, hL⟩ := zl11_b hL
        have L69 : ∀ (n : Nat) (o48 : Ob) (o49 : Ob) (o50 : Ob) (o51 : Ob) (o52 : Ob) (o53 : Ob) (o54 : Ob) (o55 : Ob) (o56 : Ob) (k57 : Int32) (k58 : Int32), zl11 B90 n o48 o49 o50 o51 o52 o53 o54 o55 o56 k57 k58 = some (o59, o60, o61, o62, o63, o64, o65, o66, o67, k68) → ZW p l e R s m args below meth c D A 5 (0 + 28) (0 + 823) Q ((w_X11_request cA h_t a_t o48 a_t_state o49 a_t_state_wares o_t_state_wares a_t_state_shelf o50 a_t_state_log o51 a_t_state_b0 o52 a_t_state_b1 o53 a_t_state_b2 o54 a_t_history o1 a_t_gates o55 a_t_deeds o56) ++ pl4) [(0, .ref h_t), (1, .int v1), (3, .int k57), (4, .int k58)] 54 [] := by
          intro n
          induction n with
          | zero => intro o48 o49 o50 o51 o52 o53 o54 o55 o56 k57 k58 hL; cases hL
          | succ n ih =>
            intro o48 o49 o50 o51 o52 o53 o54 o55 o56 k57 k58 hL
            obtain ⟨zz70, hF, hL⟩ := zl11_e hL
            rw [hBB90] at hF
            refine z_iload X dX11_drawn_54 3 rfl ?_
            refine z_iload_n X dX11_drawn_56 rfl 1 rfl ?_
            have hF := if_e hF
            refine z_icmp_ge (tgt := 101) X dX11_drawn_57 (by decide) (fun c89 => ?_) (fun c89 => ?_)
            · have hF := hF.1 c89
              cases hF
              have hL := Option.some.inj hL
              refine z_lv (lv' := [(3, .int k57)]) [2] rfl ?_
              exact L69_x o48 o49 o50 o51 o52 o53 o54 o55 o56 k57 hL
            · have hF := hF.2 c89
              refine z_aload_n X dX11_drawn_60 rfl 0 rfl ?_
              refine z_get (v := .ref (a_t 2)) X k_X11_drawn_26 0 rfl rfl dX11_drawn_61 ?_
              refine z_get (v := .ref (a_t_state 2)) X k_X11_drawn_143 2 rfl rfl dX11_drawn_64 ?_
              obtain ⟨r71, hc72, hF⟩ := zb1_e hF
              refine z_ViT (As := []) (rest := []) (wc := (w_X4_has cA (a_t_state 2) a_t_state_log o51)) (wc' := (w_X4_has cA (a_t_state 2) a_t_state_log o51)) (X1 := (w_X11_request cA h_t a_t o48 a_t_state o49 a_t_state_wares o_t_state_wares a_t_state_shelf o50 a_t_state_log o51 a_t_state_b0 o52 a_t_state_b1 o53 a_t_state_b2 o54 a_t_history o1 a_t_gates o55 a_t_deeds o56)) (rv := r71) X (cwV 0 X.2.2.2.2.1 gX11_drawn_X4_isFull rfl rfl rfl (by decide +kernel) (by rw [hR]; exact ⟨Nat.le_of_ble_eq_true rfl, Nat.le_of_ble_eq_true rfl⟩)) (fun sz => c_X4_isFull l D cA g sz (a_t_state 2) a_t_state_log o51 r71 hc72) [13, 14, 15, 16, 17] [0, 1, 2, 3, 4, 5, 6, 7, 8, 9, 10, 11, 12, 1000, 1001, 1002, 1003, 1004, 18, 19, 20, 21, 22, 23, 24, 25, 26, 27, 28, 29, 30, 31, 32, 33, 34, 35, 36] rfl (by decide) rfl (by decide) rfl rfl rfl rfl rfl rfl (Nat.le_of_ble_eq_true rfl) dX11_drawn_67 (by rw [hR]; exact ⟨Nat.le_of_ble_eq_true rfl, Nat.le_of_ble_eq_true rfl⟩) ?_
              have hF := if_e hF
              refine z_if_ne (tgt := 101) X dX11_drawn_70 (by decide) (fun c88 => ?_) (fun c88 => ?_)
              · have hF := hF.2 c88
                cases hF
                have hL := Option.some.inj hL
                refine z_lv (lv' := [(3, .int k57)]) [2] rfl ?_
                exact L69_x o48 o49 o50 o51 o52 o53 o54 o55 o56 k57 hL
              · have hF := hF.1 c88
                refine z_iload_n X dX11_drawn_73 rfl 2 rfl ?_
                refine z_aload_n X dX11_drawn_74 rfl 0 rfl ?_
                refine z_get (v := .ref (a_t 2)) X k_X11_drawn_26 0 rfl rfl dX11_drawn_75 ?_
                refine z_aload_n X dX11_drawn_78 rfl 0 rfl ?_
                obtain ⟨o73, r74, hc75, hF⟩ := zb2_e hF
                refine z_ViT (As := []) (rest := [.ref (a_t 2), .int k57]) (wc := (w_X11_drawItem cA h_t a_t o48 a_t_state o49 a_t_state_wares o_t_state_wares)) (wc' := (w_X11_drawItem cA h_t a_t o73 a_t_state o49 a_t_state_wares o_t_state_wares)) (X1 := (w_X11_request cA h_t a_t o73 a_t_state o49 a_t_state_wares o_t_state_wares a_t_state_shelf o50 a_t_state_log o51 a_t_state_b0 o52 a_t_state_b1 o53 a_t_state_b2 o54 a_t_history o1 a_t_gates o55 a_t_deeds o56)) (rv := r74) X (cwV 0 X.2.2.2.2.1 gX11_drawn_X11_drawItem rfl rfl rfl (by decide +kernel) (by rw [hR]; exact ⟨Nat.le_of_ble_eq_true rfl, Nat.le_of_ble_eq_true rfl⟩)) (fun sz => c_X11_drawItem l D cA g sz h_t a_t o48 a_t_state o49 a_t_state_wares o_t_state_wares o73 r74 hc75) [0, 1, 2, 3, 4, 5, 6, 7, 8] [1000, 1001, 1002, 1003, 1004, 1005, 1006, 1007, 1008, 9, 10, 11, 12, 13, 14, 15, 16, 17, 18, 19, 20, 21, 22, 23, 24, 25, 26, 27, 28, 29, 30, 31, 32, 33, 34, 35, 36] rfl (by decide) rfl (by decide) rfl rfl rfl rfl rfl rfl (Nat.le_of_ble_eq_true rfl) dX11_drawn_79 (by rw [hR]; exact ⟨Nat.le_of_ble_eq_true rfl, Nat.le_of_ble_eq_true rfl⟩) ?_
                refine z_aload_n X dX11_drawn_82 rfl 0 rfl ?_
                refine z_get (v := .ref (a_t 6)) X k_X11_drawn_51 0 rfl rfl dX11_drawn_83 ?_
                refine z_aload_n X dX11_drawn_86 rfl 0 rfl ?_
                refine z_get (v := .ref (a_t 5)) X k_X11_drawn_44 0 rfl rfl dX11_drawn_87 ?_
                obtain ⟨o76, o77, o78, o79, o80, o81, o82, o83, r84, hc85, hF⟩ := zb9_e hF
                refine z_ViT (As := [.int r74, .ref (a_t 6), .ref (a_t 5)]) (rest := [.int k57]) (wc := (w_X9_ask cA (a_t 2) a_t_state o49 a_t_state_wares o_t_state_wares a_t_state_shelf o50 a_t_state_log o51 a_t_state_b0 o52 a_t_state_b1 o53 a_t_state_b2 o54 (a_t 6) a_t_deeds o56 (a_t 5) a_t_gates o55)) (wc' := (w_X9_ask cA (a_t 2) a_t_state o76 a_t_state_wares o_t_state_wares a_t_state_shelf o77 a_t_state_log o78 a_t_state_b0 o79 a_t_state_b1 o80 a_t_state_b2 o81 (a_t 6) a_t_deeds o82 (a_t 5) a_t_gates o83)) (X1 := (w_X11_request cA h_t a_t o73 a_t_state o76 a_t_state_wares o_t_state_wares a_t_state_shelf o77 a_t_state_log o78 a_t_state_b0 o79 a_t_state_b1 o80 a_t_state_b2 o81 a_t_history o1 a_t_gates o83 a_t_deeds o82)) (rv := r84) X (cwV 3 X.2.2.2.2.1 gX11_drawn_X9_ask rfl rfl rfl (by decide +kernel) (by rw [hR]; exact ⟨Nat.le_of_ble_eq_true rfl, Nat.le_of_ble_eq_true rfl⟩)) (fun sz => c_X9_ask l D cA g sz (a_t 2) a_t_state o49 a_t_state_wares o_t_state_wares a_t_state_shelf o50 a_t_state_log o51 a_t_state_b0 o52 a_t_state_b1 o53 a_t_state_b2 o54 (a_t 6) a_t_deeds o56 (a_t 5) a_t_gates o55 r74 o76 o77 o78 o79 o80 o81 o82 o83 r84 hc85) [2, 3, 4, 5, 6, 7, 8, 9, 10, 11, 12, 13, 14, 15, 16, 17, 18, 19, 20, 21, 22, 23, 24, 25, 26, 27, 28, 29, 33, 34, 35, 36, 31, 32] [0, 1, 1000, 1001, 1002, 1003, 1004, 1005, 1006, 1007, 1008, 1009, 1010, 1011, 1012, 1013, 1014, 1015, 1016, 1017, 1018, 1019, 1020, 1021, 1022, 1023, 1024, 1025, 1026, 1027, 30, 1032, 1033, 1028, 1029, 1030, 1031] rfl (by decide) rfl (by decide) rfl rfl rfl rfl rfl rfl (Nat.le_of_ble_eq_true rfl) dX11_drawn_90 (by rw [hR]; exact ⟨Nat.le_of_ble_eq_true rfl, Nat.le_of_ble_eq_true rfl⟩) ?_
                refine z_iadd X dX11_drawn_93 ?_
                obtain ⟨x86, ex86, hF⟩ := nx_e hF
                refine z_nm ex86 ?_
                refine z_istore_n (lv' := [(3, .int x86), (0, .ref h_t), (1, .int v1), (4, .int k58)]) X dX11_drawn_94 rfl (by decide) rfl ?_
                obtain ⟨x87, ex87, hF⟩ := nx_e hF
                refine z_iinc (v := x87) (lv' := [(4, .int x87), (3, .int x86), (0, .ref h_t), (1, .int v1)]) (j := 3) X dX11_drawn_95 rfl (by rw [ex87]; rfl) (by decide) rfl ?_
                refine z_goto (tgt := 54) X dX11_drawn_98 (by decide) ?_
                cases hF
                refine z_lv (lv' := [(0, .ref h_t), (1, .int v1), (3, .int x86), (4, .int x87)]) [2, 3, 1, 0] rfl ?_
                exact ih o73 o76 o77 o78 o79 o80 o81 o83 o82 x86 x87 hL
        refine z_lv (lv' := [(0, .ref h_t), (1, .int v1), (3, .int (0 : Int32)), (4, .int (0 : Int32))]) [2, 3, 1, 0] rfl ?_
        exact L69 FU o8 o_t_state o_t_state_shelf o_t_state_log o_t_state_b0 o_t_state_b1 o_t_state_b2 o6 o_t_deeds (0 : Int32) (0 : Int32) hL
      · have hF := hF.1 c91
        refine z_iconst (v := (-1 : Int32)) X dX11_drawn_24 (by decide) ?_
        cases hF
        exact z_iretT X hA hQ hr hpl rfl dX11_drawn_25 (Nat.le_of_ble_eq_true rfl) (Nat.le_of_ble_eq_true rfl)
